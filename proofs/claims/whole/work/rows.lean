section
-- ===== PART A: goes FIRST, ahead of the names: the tables' words, and 'selects' of the private methods out of them =====
/-- a private method of a class that the tables say can be made, by its rows of tables_1 -/
def lw_okq (q : MethodName × Nat) : Prop := (q.1.cls ≠ "java/lang/invoke/MethodHandle" ∧ q.1.cls ≠ "java/lang/invoke/VarHandle") ∧ Cond.instantiable q.1.cls q.2 ∈ tables_1 ∧ Cond.privateMethod q.1 ∈ tables_1 ∧ Cond.instanceMethod q.1 ∈ tables_1
theorem lw_p0 : lw_okq (⟨"GoldenRows", "look", "(II)V"⟩, 18) := ⟨⟨by decide +kernel, by decide +kernel⟩, List.mem_of_getElem? (i := 21) (by decide +kernel), List.mem_of_getElem? (i := 472) (by decide +kernel), List.mem_of_getElem? (i := 473) (by decide +kernel)⟩
theorem lw_p1 : lw_okq (⟨"GoldenRows$Sight", "takeVersion", "(LGoldenRows$Versions;I)V"⟩, 6) := ⟨⟨by decide +kernel, by decide +kernel⟩, List.mem_of_getElem? (i := 223) (by decide +kernel), List.mem_of_getElem? (i := 481) (by decide +kernel), List.mem_of_getElem? (i := 482) (by decide +kernel)⟩
theorem lw_p2 : lw_okq (⟨"GoldenRows$Tape", "takeWord", "()V"⟩, 7) := ⟨⟨by decide +kernel, by decide +kernel⟩, List.mem_of_getElem? (i := 140) (by decide +kernel), List.mem_of_getElem? (i := 537) (by decide +kernel), List.mem_of_getElem? (i := 538) (by decide +kernel)⟩
theorem lw_p3 : lw_okq (⟨"GoldenRows$Tape", "takeNumber", "()V"⟩, 7) := ⟨⟨by decide +kernel, by decide +kernel⟩, List.mem_of_getElem? (i := 140) (by decide +kernel), List.mem_of_getElem? (i := 541) (by decide +kernel), List.mem_of_getElem? (i := 542) (by decide +kernel)⟩
theorem lw_p4 : lw_okq (⟨"GoldenRows$Parser", "stop", "(LGoldenRows$Tape;I)Z"⟩, 2) := ⟨⟨by decide +kernel, by decide +kernel⟩, List.mem_of_getElem? (i := 172) (by decide +kernel), List.mem_of_getElem? (i := 545) (by decide +kernel), List.mem_of_getElem? (i := 546) (by decide +kernel)⟩
theorem lw_p5 : lw_okq (⟨"GoldenRows$Parser", "readLine", "(LGoldenRows$Tape;LGoldenRows$Book;)Z"⟩, 2) := ⟨⟨by decide +kernel, by decide +kernel⟩, List.mem_of_getElem? (i := 172) (by decide +kernel), List.mem_of_getElem? (i := 549) (by decide +kernel), List.mem_of_getElem? (i := 550) (by decide +kernel)⟩
theorem lw_p6 : lw_okq (⟨"GoldenRows$Parser", "readNumber", "(LGoldenRows$Tape;II)Z"⟩, 2) := ⟨⟨by decide +kernel, by decide +kernel⟩, List.mem_of_getElem? (i := 172) (by decide +kernel), List.mem_of_getElem? (i := 608) (by decide +kernel), List.mem_of_getElem? (i := 609) (by decide +kernel)⟩
theorem lw_p7 : lw_okq (⟨"GoldenRows$Parser", "readEither", "(LGoldenRows$Tape;LGoldenRows$Book;I)Z"⟩, 2) := ⟨⟨by decide +kernel, by decide +kernel⟩, List.mem_of_getElem? (i := 172) (by decide +kernel), List.mem_of_getElem? (i := 613) (by decide +kernel), List.mem_of_getElem? (i := 614) (by decide +kernel)⟩
theorem lw_p8 : lw_okq (⟨"GoldenRows$Parser", "readOne", "(LGoldenRows$Tape;LGoldenRows$Book;I)Z"⟩, 2) := ⟨⟨by decide +kernel, by decide +kernel⟩, List.mem_of_getElem? (i := 172) (by decide +kernel), List.mem_of_getElem? (i := 617) (by decide +kernel), List.mem_of_getElem? (i := 618) (by decide +kernel)⟩
theorem lw_p9 : lw_okq (⟨"GoldenRows$Parser", "readTest", "(LGoldenRows$Tape;LGoldenRows$Book;)Z"⟩, 2) := ⟨⟨by decide +kernel, by decide +kernel⟩, List.mem_of_getElem? (i := 172) (by decide +kernel), List.mem_of_getElem? (i := 626) (by decide +kernel), List.mem_of_getElem? (i := 627) (by decide +kernel)⟩
theorem lw_p10 : lw_okq (⟨"GoldenRows$Book", "isMet", "(IILGoldenRows$Sight;LGoldenRows$Rows;II)Z"⟩, 8) := ⟨⟨by decide +kernel, by decide +kernel⟩, List.mem_of_getElem? (i := 29) (by decide +kernel), List.mem_of_getElem? (i := 655) (by decide +kernel), List.mem_of_getElem? (i := 656) (by decide +kernel)⟩
theorem lw_p11 : lw_okq (⟨"GoldenRows$Book", "isTestMet", "(ILGoldenRows$Sight;LGoldenRows$Rows;II)Z"⟩, 8) := ⟨⟨by decide +kernel, by decide +kernel⟩, List.mem_of_getElem? (i := 29) (by decide +kernel), List.mem_of_getElem? (i := 660) (by decide +kernel), List.mem_of_getElem? (i := 661) (by decide +kernel)⟩
theorem lw_p12 : lw_okq (⟨"GoldenRows", "part", "(II)Z"⟩, 18) := ⟨⟨by decide +kernel, by decide +kernel⟩, List.mem_of_getElem? (i := 21) (by decide +kernel), List.mem_of_getElem? (i := 684) (by decide +kernel), List.mem_of_getElem? (i := 685) (by decide +kernel)⟩
theorem lw_p13 : lw_okq (⟨"GoldenRows$Parting", "weighSets", "()V"⟩, 15) := ⟨⟨by decide +kernel, by decide +kernel⟩, List.mem_of_getElem? (i := 256) (by decide +kernel), List.mem_of_getElem? (i := 709) (by decide +kernel), List.mem_of_getElem? (i := 710) (by decide +kernel)⟩
theorem lw_p14 : lw_okq (⟨"GoldenRows$Parting", "weighBonds", "(I)V"⟩, 15) := ⟨⟨by decide +kernel, by decide +kernel⟩, List.mem_of_getElem? (i := 256) (by decide +kernel), List.mem_of_getElem? (i := 713) (by decide +kernel), List.mem_of_getElem? (i := 714) (by decide +kernel)⟩
theorem lw_p15 : lw_okq (⟨"GoldenRows$Parting", "chooseTails", "()V"⟩, 15) := ⟨⟨by decide +kernel, by decide +kernel⟩, List.mem_of_getElem? (i := 256) (by decide +kernel), List.mem_of_getElem? (i := 718) (by decide +kernel), List.mem_of_getElem? (i := 719) (by decide +kernel)⟩
def lw_privs_1 : List (MethodName × Nat) := [(⟨"GoldenRows", "look", "(II)V"⟩, 18), (⟨"GoldenRows$Sight", "takeVersion", "(LGoldenRows$Versions;I)V"⟩, 6), (⟨"GoldenRows$Tape", "takeWord", "()V"⟩, 7), (⟨"GoldenRows$Tape", "takeNumber", "()V"⟩, 7), (⟨"GoldenRows$Parser", "stop", "(LGoldenRows$Tape;I)Z"⟩, 2), (⟨"GoldenRows$Parser", "readLine", "(LGoldenRows$Tape;LGoldenRows$Book;)Z"⟩, 2), (⟨"GoldenRows$Parser", "readNumber", "(LGoldenRows$Tape;II)Z"⟩, 2), (⟨"GoldenRows$Parser", "readEither", "(LGoldenRows$Tape;LGoldenRows$Book;I)Z"⟩, 2), (⟨"GoldenRows$Parser", "readOne", "(LGoldenRows$Tape;LGoldenRows$Book;I)Z"⟩, 2), (⟨"GoldenRows$Parser", "readTest", "(LGoldenRows$Tape;LGoldenRows$Book;)Z"⟩, 2), (⟨"GoldenRows$Book", "isMet", "(IILGoldenRows$Sight;LGoldenRows$Rows;II)Z"⟩, 8), (⟨"GoldenRows$Book", "isTestMet", "(ILGoldenRows$Sight;LGoldenRows$Rows;II)Z"⟩, 8), (⟨"GoldenRows", "part", "(II)Z"⟩, 18), (⟨"GoldenRows$Parting", "weighSets", "()V"⟩, 15), (⟨"GoldenRows$Parting", "weighBonds", "(I)V"⟩, 15), (⟨"GoldenRows$Parting", "chooseTails", "()V"⟩, 15)]
theorem lw_r1 : ∀ q ∈ lw_privs_1, lw_okq q := List.forall_mem_cons.mpr ⟨lw_p0, List.forall_mem_cons.mpr ⟨lw_p1, List.forall_mem_cons.mpr ⟨lw_p2, List.forall_mem_cons.mpr ⟨lw_p3, List.forall_mem_cons.mpr ⟨lw_p4, List.forall_mem_cons.mpr ⟨lw_p5, List.forall_mem_cons.mpr ⟨lw_p6, List.forall_mem_cons.mpr ⟨lw_p7, List.forall_mem_cons.mpr ⟨lw_p8, List.forall_mem_cons.mpr ⟨lw_p9, List.forall_mem_cons.mpr ⟨lw_p10, List.forall_mem_cons.mpr ⟨lw_p11, List.forall_mem_cons.mpr ⟨lw_p12, List.forall_mem_cons.mpr ⟨lw_p13, List.forall_mem_cons.mpr ⟨lw_p14, List.forall_mem_cons.mpr ⟨lw_p15, fun _ h => absurd h List.not_mem_nil⟩⟩⟩⟩⟩⟩⟩⟩⟩⟩⟩⟩⟩⟩⟩⟩
theorem lw_p16 : lw_okq (⟨"GoldenRows$Parting", "greatestKey", "(II)J"⟩, 15) := ⟨⟨by decide +kernel, by decide +kernel⟩, List.mem_of_getElem? (i := 256) (by decide +kernel), List.mem_of_getElem? (i := 722) (by decide +kernel), List.mem_of_getElem? (i := 723) (by decide +kernel)⟩
theorem lw_p17 : lw_okq (⟨"GoldenRows$Parting", "readKey", "(J)V"⟩, 15) := ⟨⟨by decide +kernel, by decide +kernel⟩, List.mem_of_getElem? (i := 256) (by decide +kernel), List.mem_of_getElem? (i := 736) (by decide +kernel), List.mem_of_getElem? (i := 737) (by decide +kernel)⟩
theorem lw_p18 : lw_okq (⟨"GoldenRows", "personAsked", "(IIII)I"⟩, 18) := ⟨⟨by decide +kernel, by decide +kernel⟩, List.mem_of_getElem? (i := 21) (by decide +kernel), List.mem_of_getElem? (i := 758) (by decide +kernel), List.mem_of_getElem? (i := 759) (by decide +kernel)⟩
theorem lw_p19 : lw_okq (⟨"GoldenRows", "goldenOf", "(II)I"⟩, 18) := ⟨⟨by decide +kernel, by decide +kernel⟩, List.mem_of_getElem? (i := 21) (by decide +kernel), List.mem_of_getElem? (i := 762) (by decide +kernel), List.mem_of_getElem? (i := 763) (by decide +kernel)⟩
theorem lw_p20 : lw_okq (⟨"GoldenRows", "latestFix", "(II)I"⟩, 18) := ⟨⟨by decide +kernel, by decide +kernel⟩, List.mem_of_getElem? (i := 21) (by decide +kernel), List.mem_of_getElem? (i := 766) (by decide +kernel), List.mem_of_getElem? (i := 767) (by decide +kernel)⟩
theorem lw_p21 : lw_okq (⟨"GoldenRows", "hear", "(II)V"⟩, 18) := ⟨⟨by decide +kernel, by decide +kernel⟩, List.mem_of_getElem? (i := 21) (by decide +kernel), List.mem_of_getElem? (i := 771) (by decide +kernel), List.mem_of_getElem? (i := 772) (by decide +kernel)⟩
theorem lw_p22 : lw_okq (⟨"GoldenRows$Voices", "isFirst", "(I)Z"⟩, 8) := ⟨⟨by decide +kernel, by decide +kernel⟩, List.mem_of_getElem? (i := 312) (by decide +kernel), List.mem_of_getElem? (i := 789) (by decide +kernel), List.mem_of_getElem? (i := 790) (by decide +kernel)⟩
theorem lw_p23 : lw_okq (⟨"GoldenRows$Voices", "sumFor", "(I)I"⟩, 8) := ⟨⟨by decide +kernel, by decide +kernel⟩, List.mem_of_getElem? (i := 312) (by decide +kernel), List.mem_of_getElem? (i := 793) (by decide +kernel), List.mem_of_getElem? (i := 794) (by decide +kernel)⟩
theorem lw_p24 : lw_okq (⟨"GoldenRows$Voices", "latestFor", "(I)I"⟩, 8) := ⟨⟨by decide +kernel, by decide +kernel⟩, List.mem_of_getElem? (i := 312) (by decide +kernel), List.mem_of_getElem? (i := 797) (by decide +kernel), List.mem_of_getElem? (i := 798) (by decide +kernel)⟩
theorem lw_p25 : lw_okq (⟨"GoldenRows$Voices", "strongestFor", "(I)I"⟩, 8) := ⟨⟨by decide +kernel, by decide +kernel⟩, List.mem_of_getElem? (i := 312) (by decide +kernel), List.mem_of_getElem? (i := 805) (by decide +kernel), List.mem_of_getElem? (i := 806) (by decide +kernel)⟩
theorem lw_p26 : lw_okq (⟨"GoldenRows", "listWishes", "(I)V"⟩, 18) := ⟨⟨by decide +kernel, by decide +kernel⟩, List.mem_of_getElem? (i := 21) (by decide +kernel), List.mem_of_getElem? (i := 829) (by decide +kernel), List.mem_of_getElem? (i := 830) (by decide +kernel)⟩
theorem lw_p27 : lw_okq (⟨"GoldenRows", "listWishesOf", "(II)V"⟩, 18) := ⟨⟨by decide +kernel, by decide +kernel⟩, List.mem_of_getElem? (i := 21) (by decide +kernel), List.mem_of_getElem? (i := 833) (by decide +kernel), List.mem_of_getElem? (i := 834) (by decide +kernel)⟩
theorem lw_p28 : lw_okq (⟨"GoldenRows", "hasWish", "(II)Z"⟩, 18) := ⟨⟨by decide +kernel, by decide +kernel⟩, List.mem_of_getElem? (i := 21) (by decide +kernel), List.mem_of_getElem? (i := 849) (by decide +kernel), List.mem_of_getElem? (i := 850) (by decide +kernel)⟩
theorem lw_p29 : lw_okq (⟨"GoldenRowsModel", "isRow", "(I)Z"⟩, 83) := ⟨⟨by decide +kernel, by decide +kernel⟩, List.mem_of_getElem? (i := 865) (by decide +kernel), List.mem_of_getElem? (i := 1147) (by decide +kernel), List.mem_of_getElem? (i := 1148) (by decide +kernel)⟩
theorem lw_p30 : lw_okq (⟨"GoldenRowsModel", "tell", "(IIIIZ)V"⟩, 83) := ⟨⟨by decide +kernel, by decide +kernel⟩, List.mem_of_getElem? (i := 865) (by decide +kernel), List.mem_of_getElem? (i := 1156) (by decide +kernel), List.mem_of_getElem? (i := 1157) (by decide +kernel)⟩
theorem lw_p31 : lw_okq (⟨"GoldenRowsModel", "valueOf", "(IIII)I"⟩, 83) := ⟨⟨by decide +kernel, by decide +kernel⟩, List.mem_of_getElem? (i := 865) (by decide +kernel), List.mem_of_getElem? (i := 1164) (by decide +kernel), List.mem_of_getElem? (i := 1165) (by decide +kernel)⟩
def lw_privs_2 : List (MethodName × Nat) := [(⟨"GoldenRows$Parting", "greatestKey", "(II)J"⟩, 15), (⟨"GoldenRows$Parting", "readKey", "(J)V"⟩, 15), (⟨"GoldenRows", "personAsked", "(IIII)I"⟩, 18), (⟨"GoldenRows", "goldenOf", "(II)I"⟩, 18), (⟨"GoldenRows", "latestFix", "(II)I"⟩, 18), (⟨"GoldenRows", "hear", "(II)V"⟩, 18), (⟨"GoldenRows$Voices", "isFirst", "(I)Z"⟩, 8), (⟨"GoldenRows$Voices", "sumFor", "(I)I"⟩, 8), (⟨"GoldenRows$Voices", "latestFor", "(I)I"⟩, 8), (⟨"GoldenRows$Voices", "strongestFor", "(I)I"⟩, 8), (⟨"GoldenRows", "listWishes", "(I)V"⟩, 18), (⟨"GoldenRows", "listWishesOf", "(II)V"⟩, 18), (⟨"GoldenRows", "hasWish", "(II)Z"⟩, 18), (⟨"GoldenRowsModel", "isRow", "(I)Z"⟩, 83), (⟨"GoldenRowsModel", "tell", "(IIIIZ)V"⟩, 83), (⟨"GoldenRowsModel", "valueOf", "(IIII)I"⟩, 83)]
theorem lw_r2 : ∀ q ∈ lw_privs_2, lw_okq q := List.forall_mem_cons.mpr ⟨lw_p16, List.forall_mem_cons.mpr ⟨lw_p17, List.forall_mem_cons.mpr ⟨lw_p18, List.forall_mem_cons.mpr ⟨lw_p19, List.forall_mem_cons.mpr ⟨lw_p20, List.forall_mem_cons.mpr ⟨lw_p21, List.forall_mem_cons.mpr ⟨lw_p22, List.forall_mem_cons.mpr ⟨lw_p23, List.forall_mem_cons.mpr ⟨lw_p24, List.forall_mem_cons.mpr ⟨lw_p25, List.forall_mem_cons.mpr ⟨lw_p26, List.forall_mem_cons.mpr ⟨lw_p27, List.forall_mem_cons.mpr ⟨lw_p28, List.forall_mem_cons.mpr ⟨lw_p29, List.forall_mem_cons.mpr ⟨lw_p30, List.forall_mem_cons.mpr ⟨lw_p31, fun _ h => absurd h List.not_mem_nil⟩⟩⟩⟩⟩⟩⟩⟩⟩⟩⟩⟩⟩⟩⟩⟩
theorem lw_p32 : lw_okq (⟨"GoldenRowsModel", "version", "(IIII)I"⟩, 83) := ⟨⟨by decide +kernel, by decide +kernel⟩, List.mem_of_getElem? (i := 865) (by decide +kernel), List.mem_of_getElem? (i := 1168) (by decide +kernel), List.mem_of_getElem? (i := 1169) (by decide +kernel)⟩
theorem lw_p33 : lw_okq (⟨"GoldenRowsModel", "four", "(I)V"⟩, 83) := ⟨⟨by decide +kernel, by decide +kernel⟩, List.mem_of_getElem? (i := 865) (by decide +kernel), List.mem_of_getElem? (i := 1184) (by decide +kernel), List.mem_of_getElem? (i := 1185) (by decide +kernel)⟩
theorem lw_p34 : lw_okq (⟨"GoldenRowsModel", "next", "()V"⟩, 83) := ⟨⟨by decide +kernel, by decide +kernel⟩, List.mem_of_getElem? (i := 865) (by decide +kernel), List.mem_of_getElem? (i := 1196) (by decide +kernel), List.mem_of_getElem? (i := 1197) (by decide +kernel)⟩
theorem lw_p35 : lw_okq (⟨"GoldenRowsModel", "here", "(I)I"⟩, 83) := ⟨⟨by decide +kernel, by decide +kernel⟩, List.mem_of_getElem? (i := 865) (by decide +kernel), List.mem_of_getElem? (i := 1200) (by decide +kernel), List.mem_of_getElem? (i := 1201) (by decide +kernel)⟩
theorem lw_p36 : lw_okq (⟨"GoldenRowsModel", "isWord", "(J)Z"⟩, 83) := ⟨⟨by decide +kernel, by decide +kernel⟩, List.mem_of_getElem? (i := 865) (by decide +kernel), List.mem_of_getElem? (i := 1211) (by decide +kernel), List.mem_of_getElem? (i := 1212) (by decide +kernel)⟩
theorem lw_p37 : lw_okq (⟨"GoldenRowsModel", "wrong", "(I)V"⟩, 83) := ⟨⟨by decide +kernel, by decide +kernel⟩, List.mem_of_getElem? (i := 865) (by decide +kernel), List.mem_of_getElem? (i := 1216) (by decide +kernel), List.mem_of_getElem? (i := 1217) (by decide +kernel)⟩
theorem lw_p38 : lw_okq (⟨"GoldenRowsModel", "told", "(II)I"⟩, 83) := ⟨⟨by decide +kernel, by decide +kernel⟩, List.mem_of_getElem? (i := 865) (by decide +kernel), List.mem_of_getElem? (i := 1220) (by decide +kernel), List.mem_of_getElem? (i := 1221) (by decide +kernel)⟩
theorem lw_p39 : lw_okq (⟨"GoldenRowsModel", "readE", "()V"⟩, 83) := ⟨⟨by decide +kernel, by decide +kernel⟩, List.mem_of_getElem? (i := 865) (by decide +kernel), List.mem_of_getElem? (i := 1225) (by decide +kernel), List.mem_of_getElem? (i := 1226) (by decide +kernel)⟩
theorem lw_p40 : lw_okq (⟨"GoldenRowsModel", "isOpen", "()Z"⟩, 83) := ⟨⟨by decide +kernel, by decide +kernel⟩, List.mem_of_getElem? (i := 865) (by decide +kernel), List.mem_of_getElem? (i := 1229) (by decide +kernel), List.mem_of_getElem? (i := 1230) (by decide +kernel)⟩
theorem lw_p41 : lw_okq (⟨"GoldenRowsModel", "sign", "()Z"⟩, 83) := ⟨⟨by decide +kernel, by decide +kernel⟩, List.mem_of_getElem? (i := 865) (by decide +kernel), List.mem_of_getElem? (i := 1233) (by decide +kernel), List.mem_of_getElem? (i := 1234) (by decide +kernel)⟩
theorem lw_p42 : lw_okq (⟨"GoldenRowsModel", "settle", "(Z)V"⟩, 83) := ⟨⟨by decide +kernel, by decide +kernel⟩, List.mem_of_getElem? (i := 865) (by decide +kernel), List.mem_of_getElem? (i := 1239) (by decide +kernel), List.mem_of_getElem? (i := 1240) (by decide +kernel)⟩
theorem lw_p43 : lw_okq (⟨"GoldenRowsModel", "pop", "()V"⟩, 83) := ⟨⟨by decide +kernel, by decide +kernel⟩, List.mem_of_getElem? (i := 865) (by decide +kernel), List.mem_of_getElem? (i := 1243) (by decide +kernel), List.mem_of_getElem? (i := 1244) (by decide +kernel)⟩
theorem lw_p44 : lw_okq (⟨"GoldenRowsModel", "step", "(III)V"⟩, 83) := ⟨⟨by decide +kernel, by decide +kernel⟩, List.mem_of_getElem? (i := 865) (by decide +kernel), List.mem_of_getElem? (i := 1247) (by decide +kernel), List.mem_of_getElem? (i := 1248) (by decide +kernel)⟩
theorem lw_p45 : lw_okq (⟨"GoldenRowsModel", "hold", "(I)V"⟩, 83) := ⟨⟨by decide +kernel, by decide +kernel⟩, List.mem_of_getElem? (i := 865) (by decide +kernel), List.mem_of_getElem? (i := 1251) (by decide +kernel), List.mem_of_getElem? (i := 1252) (by decide +kernel)⟩
theorem lw_p46 : lw_okq (⟨"GoldenRowsModel", "operand", "()Z"⟩, 83) := ⟨⟨by decide +kernel, by decide +kernel⟩, List.mem_of_getElem? (i := 865) (by decide +kernel), List.mem_of_getElem? (i := 1255) (by decide +kernel), List.mem_of_getElem? (i := 1256) (by decide +kernel)⟩
theorem lw_p47 : lw_okq (⟨"GoldenRowsModel", "isThere", "(II)Z"⟩, 83) := ⟨⟨by decide +kernel, by decide +kernel⟩, List.mem_of_getElem? (i := 865) (by decide +kernel), List.mem_of_getElem? (i := 1272) (by decide +kernel), List.mem_of_getElem? (i := 1273) (by decide +kernel)⟩
def lw_privs_3 : List (MethodName × Nat) := [(⟨"GoldenRowsModel", "version", "(IIII)I"⟩, 83), (⟨"GoldenRowsModel", "four", "(I)V"⟩, 83), (⟨"GoldenRowsModel", "next", "()V"⟩, 83), (⟨"GoldenRowsModel", "here", "(I)I"⟩, 83), (⟨"GoldenRowsModel", "isWord", "(J)Z"⟩, 83), (⟨"GoldenRowsModel", "wrong", "(I)V"⟩, 83), (⟨"GoldenRowsModel", "told", "(II)I"⟩, 83), (⟨"GoldenRowsModel", "readE", "()V"⟩, 83), (⟨"GoldenRowsModel", "isOpen", "()Z"⟩, 83), (⟨"GoldenRowsModel", "sign", "()Z"⟩, 83), (⟨"GoldenRowsModel", "settle", "(Z)V"⟩, 83), (⟨"GoldenRowsModel", "pop", "()V"⟩, 83), (⟨"GoldenRowsModel", "step", "(III)V"⟩, 83), (⟨"GoldenRowsModel", "hold", "(I)V"⟩, 83), (⟨"GoldenRowsModel", "operand", "()Z"⟩, 83), (⟨"GoldenRowsModel", "isThere", "(II)Z"⟩, 83)]
theorem lw_r3 : ∀ q ∈ lw_privs_3, lw_okq q := List.forall_mem_cons.mpr ⟨lw_p32, List.forall_mem_cons.mpr ⟨lw_p33, List.forall_mem_cons.mpr ⟨lw_p34, List.forall_mem_cons.mpr ⟨lw_p35, List.forall_mem_cons.mpr ⟨lw_p36, List.forall_mem_cons.mpr ⟨lw_p37, List.forall_mem_cons.mpr ⟨lw_p38, List.forall_mem_cons.mpr ⟨lw_p39, List.forall_mem_cons.mpr ⟨lw_p40, List.forall_mem_cons.mpr ⟨lw_p41, List.forall_mem_cons.mpr ⟨lw_p42, List.forall_mem_cons.mpr ⟨lw_p43, List.forall_mem_cons.mpr ⟨lw_p44, List.forall_mem_cons.mpr ⟨lw_p45, List.forall_mem_cons.mpr ⟨lw_p46, List.forall_mem_cons.mpr ⟨lw_p47, fun _ h => absurd h List.not_mem_nil⟩⟩⟩⟩⟩⟩⟩⟩⟩⟩⟩⟩⟩⟩⟩⟩
theorem lw_p48 : lw_okq (⟨"GoldenRowsModel", "scoreOf", "(IIII)I"⟩, 83) := ⟨⟨by decide +kernel, by decide +kernel⟩, List.mem_of_getElem? (i := 865) (by decide +kernel), List.mem_of_getElem? (i := 1276) (by decide +kernel), List.mem_of_getElem? (i := 1277) (by decide +kernel)⟩
theorem lw_p49 : lw_okq (⟨"GoldenRowsModel", "holds", "(IIIII)Z"⟩, 83) := ⟨⟨by decide +kernel, by decide +kernel⟩, List.mem_of_getElem? (i := 865) (by decide +kernel), List.mem_of_getElem? (i := 1280) (by decide +kernel), List.mem_of_getElem? (i := 1281) (by decide +kernel)⟩
theorem lw_p50 : lw_okq (⟨"GoldenRowsModel", "part", "(II)V"⟩, 83) := ⟨⟨by decide +kernel, by decide +kernel⟩, List.mem_of_getElem? (i := 865) (by decide +kernel), List.mem_of_getElem? (i := 1304) (by decide +kernel), List.mem_of_getElem? (i := 1305) (by decide +kernel)⟩
theorem lw_p51 : lw_okq (⟨"GoldenRowsModel", "canBe", "(II)Z"⟩, 83) := ⟨⟨by decide +kernel, by decide +kernel⟩, List.mem_of_getElem? (i := 865) (by decide +kernel), List.mem_of_getElem? (i := 1311) (by decide +kernel), List.mem_of_getElem? (i := 1312) (by decide +kernel)⟩
theorem lw_p52 : lw_okq (⟨"GoldenRowsModel", "look", "()V"⟩, 83) := ⟨⟨by decide +kernel, by decide +kernel⟩, List.mem_of_getElem? (i := 865) (by decide +kernel), List.mem_of_getElem? (i := 1315) (by decide +kernel), List.mem_of_getElem? (i := 1316) (by decide +kernel)⟩
theorem lw_p53 : lw_okq (⟨"GoldenRowsModel", "tells", "(IIII)Z"⟩, 83) := ⟨⟨by decide +kernel, by decide +kernel⟩, List.mem_of_getElem? (i := 865) (by decide +kernel), List.mem_of_getElem? (i := 1332) (by decide +kernel), List.mem_of_getElem? (i := 1333) (by decide +kernel)⟩
theorem lw_p54 : lw_okq (⟨"GoldenRowsModel", "gold", "(IIII)V"⟩, 83) := ⟨⟨by decide +kernel, by decide +kernel⟩, List.mem_of_getElem? (i := 865) (by decide +kernel), List.mem_of_getElem? (i := 1336) (by decide +kernel), List.mem_of_getElem? (i := 1337) (by decide +kernel)⟩
theorem lw_p55 : lw_okq (⟨"GoldenRowsModel", "seek", "(I)V"⟩, 83) := ⟨⟨by decide +kernel, by decide +kernel⟩, List.mem_of_getElem? (i := 865) (by decide +kernel), List.mem_of_getElem? (i := 1354) (by decide +kernel), List.mem_of_getElem? (i := 1355) (by decide +kernel)⟩
theorem lw_p56 : lw_okq (⟨"GoldenRowsModel", "isRefused", "(III)Z"⟩, 83) := ⟨⟨by decide +kernel, by decide +kernel⟩, List.mem_of_getElem? (i := 865) (by decide +kernel), List.mem_of_getElem? (i := 1358) (by decide +kernel), List.mem_of_getElem? (i := 1359) (by decide +kernel)⟩
theorem lw_p57 : lw_okq (⟨"GoldenRowsModel", "isChange", "(II)Z"⟩, 83) := ⟨⟨by decide +kernel, by decide +kernel⟩, List.mem_of_getElem? (i := 865) (by decide +kernel), List.mem_of_getElem? (i := 1366) (by decide +kernel), List.mem_of_getElem? (i := 1367) (by decide +kernel)⟩
def lw_privs_4 : List (MethodName × Nat) := [(⟨"GoldenRowsModel", "scoreOf", "(IIII)I"⟩, 83), (⟨"GoldenRowsModel", "holds", "(IIIII)Z"⟩, 83), (⟨"GoldenRowsModel", "part", "(II)V"⟩, 83), (⟨"GoldenRowsModel", "canBe", "(II)Z"⟩, 83), (⟨"GoldenRowsModel", "look", "()V"⟩, 83), (⟨"GoldenRowsModel", "tells", "(IIII)Z"⟩, 83), (⟨"GoldenRowsModel", "gold", "(IIII)V"⟩, 83), (⟨"GoldenRowsModel", "seek", "(I)V"⟩, 83), (⟨"GoldenRowsModel", "isRefused", "(III)Z"⟩, 83), (⟨"GoldenRowsModel", "isChange", "(II)Z"⟩, 83)]
theorem lw_r4 : ∀ q ∈ lw_privs_4, lw_okq q := List.forall_mem_cons.mpr ⟨lw_p48, List.forall_mem_cons.mpr ⟨lw_p49, List.forall_mem_cons.mpr ⟨lw_p50, List.forall_mem_cons.mpr ⟨lw_p51, List.forall_mem_cons.mpr ⟨lw_p52, List.forall_mem_cons.mpr ⟨lw_p53, List.forall_mem_cons.mpr ⟨lw_p54, List.forall_mem_cons.mpr ⟨lw_p55, List.forall_mem_cons.mpr ⟨lw_p56, List.forall_mem_cons.mpr ⟨lw_p57, fun _ h => absurd h List.not_mem_nil⟩⟩⟩⟩⟩⟩⟩⟩⟩⟩
def lw_privs : List (MethodName × Nat) := lw_privs_1 ++ (lw_privs_2 ++ (lw_privs_3 ++ (lw_privs_4)))
def lw_tbl : List Cond := k2_sels lw_privs ++ tables_1
theorem lw_privs_ok : ∀ q ∈ lw_privs, lw_okq q := by
  show ∀ q ∈ lw_privs_1 ++ (lw_privs_2 ++ (lw_privs_3 ++ (lw_privs_4))), lw_okq q
  exact List.forall_mem_append.mpr ⟨lw_r1, List.forall_mem_append.mpr ⟨lw_r2, List.forall_mem_append.mpr ⟨lw_r3, lw_r4⟩⟩⟩
end
section
def RX0 : String := "GoldenRows$Book"
def TX0 : u_T := fun k => match k with
  | 0 => ("GoldenRows$Book", "lines", "I", false)
  | 1 => ("GoldenRows$Book", "tests", "I", false)
  | 2 => ("GoldenRows$Book", "steps", "I", false)
  | 3 => ("GoldenRows$Book", "number", "[I", true)
  | 4 => ("GoldenRows$Book", "stepsBehind", "[I", true)
  | 5 => ("GoldenRows$Book", "kind", "[I", true)
  | 6 => ("GoldenRows$Book", "field", "[I", true)
  | _ => ("GoldenRows$Book", "reach", "[I", true)
def tyX0 : Nat → FieldType := fun k => match k with
  | 0 => .int
  | 1 => .int
  | 2 => .int
  | 3 => .array .int
  | 4 => .array .int
  | 5 => .array .int
  | 6 => .array .int
  | _ => .array .int
theorem nmX0 : ∀ a, a < 8 → ∀ b, b < 8 → a ≠ b → (TX0 a).2.1 ≠ (TX0 b).2.1 := by decide +kernel
theorem tyX0_ok : ∀ k, k < 8 → parseFieldDescriptor (TX0 k).2.2.1 = some (tyX0 k) := by decide +kernel
abbrev cX0_init : ByteArray := prog_2_method_1_code
def yX0_init : MethodName := ⟨RX0, "<init>", "()V"⟩
abbrev cX0_clear : ByteArray := prog_2_method_2_code
def yX0_clear : MethodName := ⟨RX0, "clear", "()V"⟩
abbrev cX0_addStep : ByteArray := prog_2_method_3_code
def yX0_addStep : MethodName := ⟨RX0, "addStep", "(III)V"⟩
abbrev cX0_closeLine : ByteArray := prog_2_method_4_code
def yX0_closeLine : MethodName := ⟨RX0, "closeLine", "(I)V"⟩
abbrev cX0_sum : ByteArray := prog_2_method_5_code
def yX0_sum : MethodName := ⟨RX0, "sum", "(LGoldenRows$Sight;LGoldenRows$Rows;II)I"⟩
abbrev cX0_isMet : ByteArray := prog_2_method_6_code
def yX0_isMet : MethodName := ⟨RX0, "isMet", "(IILGoldenRows$Sight;LGoldenRows$Rows;II)Z"⟩
abbrev cX0_isTestMet : ByteArray := prog_2_method_7_code
def yX0_isTestMet : MethodName := ⟨RX0, "isTestMet", "(ILGoldenRows$Sight;LGoldenRows$Rows;II)Z"⟩
def RX1 : String := "GoldenRows$ByHand"
def TX1 : u_T := fun k => match k with
  | 0 => ("GoldenRows$ByHand", "count", "I", false)
  | 1 => ("GoldenRows$ByHand", "row", "[I", true)
  | 2 => ("GoldenRows$ByHand", "aim", "[I", true)
  | 3 => ("GoldenRows$ByHand", "value", "[I", true)
  | 4 => ("GoldenRows$ByHand", "told", "[I", true)
  | _ => ("GoldenRows$ByHand", "untold", "[I", true)
def tyX1 : Nat → FieldType := fun k => match k with
  | 0 => .int
  | 1 => .array .int
  | 2 => .array .int
  | 3 => .array .int
  | 4 => .array .int
  | _ => .array .int
theorem nmX1 : ∀ a, a < 6 → ∀ b, b < 6 → a ≠ b → (TX1 a).2.1 ≠ (TX1 b).2.1 := by decide +kernel
theorem tyX1_ok : ∀ k, k < 6 → parseFieldDescriptor (TX1 k).2.2.1 = some (tyX1 k) := by decide +kernel
abbrev cX1_init : ByteArray := prog_3_method_1_code
def yX1_init : MethodName := ⟨RX1, "<init>", "(I)V"⟩
abbrev cX1_tell : ByteArray := prog_3_method_2_code
def yX1_tell : MethodName := ⟨RX1, "tell", "(IIII)I"⟩
abbrev cX1_untell : ByteArray := prog_3_method_3_code
def yX1_untell : MethodName := ⟨RX1, "untell", "(II)Z"⟩
abbrev cX1_isHeld : ByteArray := prog_3_method_4_code
def yX1_isHeld : MethodName := ⟨RX1, "isHeld", "(II)Z"⟩
def RX2 : String := "GoldenRows$Parser"
def TX2 : u_T := fun k => match k with
  | 0 => ("GoldenRows$Parser", "faultKind", "I", false)
  | _ => ("GoldenRows$Parser", "faultPlace", "I", false)
def tyX2 : Nat → FieldType := fun k => match k with
  | 0 => .int
  | _ => .int
theorem nmX2 : ∀ a, a < 2 → ∀ b, b < 2 → a ≠ b → (TX2 a).2.1 ≠ (TX2 b).2.1 := by decide +kernel
theorem tyX2_ok : ∀ k, k < 2 → parseFieldDescriptor (TX2 k).2.2.1 = some (tyX2 k) := by decide +kernel
abbrev cX2_init : ByteArray := prog_4_method_1_code
def yX2_init : MethodName := ⟨RX2, "<init>", "()V"⟩
abbrev cX2_readAll : ByteArray := prog_4_method_2_code
def yX2_readAll : MethodName := ⟨RX2, "readAll", "(LGoldenRows$Tape;LGoldenRows$Book;)Z"⟩
abbrev cX2_stop : ByteArray := prog_4_method_3_code
def yX2_stop : MethodName := ⟨RX2, "stop", "(LGoldenRows$Tape;I)Z"⟩
abbrev cX2_readLine : ByteArray := prog_4_method_4_code
def yX2_readLine : MethodName := ⟨RX2, "readLine", "(LGoldenRows$Tape;LGoldenRows$Book;)Z"⟩
abbrev cX2_readNumber : ByteArray := prog_4_method_5_code
def yX2_readNumber : MethodName := ⟨RX2, "readNumber", "(LGoldenRows$Tape;II)Z"⟩
abbrev cX2_readEither : ByteArray := prog_4_method_6_code
def yX2_readEither : MethodName := ⟨RX2, "readEither", "(LGoldenRows$Tape;LGoldenRows$Book;I)Z"⟩
abbrev cX2_readOne : ByteArray := prog_4_method_7_code
def yX2_readOne : MethodName := ⟨RX2, "readOne", "(LGoldenRows$Tape;LGoldenRows$Book;I)Z"⟩
abbrev cX2_readTest : ByteArray := prog_4_method_8_code
def yX2_readTest : MethodName := ⟨RX2, "readTest", "(LGoldenRows$Tape;LGoldenRows$Book;)Z"⟩
def RX3 : String := "GoldenRows$Parting"
def TX3 : u_T := fun k => match k with
  | 0 => ("GoldenRows$Parting", "found", "Z", false)
  | 1 => ("GoldenRows$Parting", "persons", "I", false)
  | 2 => ("GoldenRows$Parting", "total", "I", false)
  | 3 => ("GoldenRows$Parting", "size", "I", false)
  | 4 => ("GoldenRows$Parting", "person", "[I", true)
  | 5 => ("GoldenRows$Parting", "rowOf", "[I", true)
  | 6 => ("GoldenRows$Parting", "bitOf", "[I", true)
  | 7 => ("GoldenRows$Parting", "score", "[I", true)
  | 8 => ("GoldenRows$Parting", "with", "[I", true)
  | 9 => ("GoldenRows$Parting", "without", "[I", true)
  | 10 => ("GoldenRows$Parting", "bond", "[I", true)
  | 11 => ("GoldenRows$Parting", "worthOf", "[I", true)
  | 12 => ("GoldenRows$Parting", "needs", "[I", true)
  | 13 => ("GoldenRows$Parting", "tail", "[J", true)
  | _ => ("GoldenRows$Parting", "ones", "[J", true)
def tyX3 : Nat → FieldType := fun k => match k with
  | 0 => .boolean
  | 1 => .int
  | 2 => .int
  | 3 => .int
  | 4 => .array .int
  | 5 => .array .int
  | 6 => .array .int
  | 7 => .array .int
  | 8 => .array .int
  | 9 => .array .int
  | 10 => .array .int
  | 11 => .array .int
  | 12 => .array .int
  | 13 => .array .long
  | _ => .array .long
theorem nmX3 : ∀ a, a < 15 → ∀ b, b < 15 → a ≠ b → (TX3 a).2.1 ≠ (TX3 b).2.1 := by decide +kernel
theorem tyX3_ok : ∀ k, k < 15 → parseFieldDescriptor (TX3 k).2.2.1 = some (tyX3 k) := by decide +kernel
abbrev cX3_init : ByteArray := prog_5_method_1_code
def yX3_init : MethodName := ⟨RX3, "<init>", "()V"⟩
abbrev cX3_personOf : ByteArray := prog_5_method_2_code
def yX3_personOf : MethodName := ⟨RX3, "personOf", "(I)I"⟩
abbrev cX3_gather : ByteArray := prog_5_method_3_code
def yX3_gather : MethodName := ⟨RX3, "gather", "(LGoldenRows$Sight;)V"⟩
abbrev cX3_bind : ByteArray := prog_5_method_4_code
def yX3_bind : MethodName := ⟨RX3, "bind", "(LGoldenRows$ByHand;I)V"⟩
abbrev cX3_weighPairs : ByteArray := prog_5_method_5_code
def yX3_weighPairs : MethodName := ⟨RX3, "weighPairs", "(LGoldenRows$Book;LGoldenRows$Sight;LGoldenRows$Rows;)V"⟩
abbrev cX3_choose : ByteArray := prog_5_method_6_code
def yX3_choose : MethodName := ⟨RX3, "choose", "()V"⟩
abbrev cX3_weighSets : ByteArray := prog_5_method_7_code
def yX3_weighSets : MethodName := ⟨RX3, "weighSets", "()V"⟩
abbrev cX3_weighBonds : ByteArray := prog_5_method_8_code
def yX3_weighBonds : MethodName := ⟨RX3, "weighBonds", "(I)V"⟩
abbrev cX3_chooseTails : ByteArray := prog_5_method_9_code
def yX3_chooseTails : MethodName := ⟨RX3, "chooseTails", "()V"⟩
abbrev cX3_greatestKey : ByteArray := prog_5_method_10_code
def yX3_greatestKey : MethodName := ⟨RX3, "greatestKey", "(II)J"⟩
abbrev cX3_readKey : ByteArray := prog_5_method_11_code
def yX3_readKey : MethodName := ⟨RX3, "readKey", "(J)V"⟩
def RX4 : String := "GoldenRows$Rows"
def TX4 : u_T := fun k => match k with
  | 0 => ("GoldenRows$Rows", "count", "I", false)
  | 1 => ("GoldenRows$Rows", "source", "[I", true)
  | 2 => ("GoldenRows$Rows", "told", "[I", true)
  | _ => ("GoldenRows$Rows", "forgotten", "[Z", true)
def tyX4 : Nat → FieldType := fun k => match k with
  | 0 => .int
  | 1 => .array .int
  | 2 => .array .int
  | _ => .array .boolean
theorem nmX4 : ∀ a, a < 4 → ∀ b, b < 4 → a ≠ b → (TX4 a).2.1 ≠ (TX4 b).2.1 := by decide +kernel
theorem tyX4_ok : ∀ k, k < 4 → parseFieldDescriptor (TX4 k).2.2.1 = some (tyX4 k) := by decide +kernel
abbrev cX4_init : ByteArray := prog_6_method_1_code
def yX4_init : MethodName := ⟨RX4, "<init>", "()V"⟩
abbrev cX4_add : ByteArray := prog_6_method_2_code
def yX4_add : MethodName := ⟨RX4, "add", "(II)I"⟩
abbrev cX4_isAlive : ByteArray := prog_6_method_3_code
def yX4_isAlive : MethodName := ⟨RX4, "isAlive", "(I)Z"⟩
def RX5 : String := "GoldenRows$Sight"
def TX5 : u_T := fun k => match k with
  | 0 => ("GoldenRows$Sight", "d", "I", false)
  | 1 => ("GoldenRows$Sight", "k", "I", false)
  | 2 => ("GoldenRows$Sight", "there", "[Z", true)
  | 3 => ("GoldenRows$Sight", "value", "[I", true)
  | 4 => ("GoldenRows$Sight", "since", "[I", true)
  | _ => ("GoldenRows$Sight", "echo", "[Z", true)
def tyX5 : Nat → FieldType := fun k => match k with
  | 0 => .int
  | 1 => .int
  | 2 => .array .boolean
  | 3 => .array .int
  | 4 => .array .int
  | _ => .array .boolean
theorem nmX5 : ∀ a, a < 6 → ∀ b, b < 6 → a ≠ b → (TX5 a).2.1 ≠ (TX5 b).2.1 := by decide +kernel
theorem tyX5_ok : ∀ k, k < 6 → parseFieldDescriptor (TX5 k).2.2.1 = some (tyX5 k) := by decide +kernel
abbrev cX5_init : ByteArray := prog_7_method_1_code
def yX5_init : MethodName := ⟨RX5, "<init>", "()V"⟩
abbrev cX5_take : ByteArray := prog_7_method_2_code
def yX5_take : MethodName := ⟨RX5, "take", "(LGoldenRows$Rows;LGoldenRows$Versions;II)V"⟩
abbrev cX5_takeVersion : ByteArray := prog_7_method_3_code
def yX5_takeVersion : MethodName := ⟨RX5, "takeVersion", "(LGoldenRows$Versions;I)V"⟩
abbrev cX5_isThere : ByteArray := prog_7_method_4_code
def yX5_isThere : MethodName := ⟨RX5, "isThere", "(I)Z"⟩
abbrev cX5_valueOf : ByteArray := prog_7_method_5_code
def yX5_valueOf : MethodName := ⟨RX5, "valueOf", "(II)I"⟩
def RX6 : String := "GoldenRows$Tape"
def TX6 : u_T := fun k => match k with
  | 0 => ("GoldenRows$Tape", "length", "I", false)
  | 1 => ("GoldenRows$Tape", "kind", "I", false)
  | 2 => ("GoldenRows$Tape", "place", "I", false)
  | 3 => ("GoldenRows$Tape", "number", "I", false)
  | 4 => ("GoldenRows$Tape", "behind", "I", false)
  | 5 => ("GoldenRows$Tape", "bytes", "[I", true)
  | _ => ("GoldenRows$Tape", "sort", "[I", true)
def tyX6 : Nat → FieldType := fun k => match k with
  | 0 => .int
  | 1 => .int
  | 2 => .int
  | 3 => .int
  | 4 => .int
  | 5 => .array .int
  | _ => .array .int
theorem nmX6 : ∀ a, a < 7 → ∀ b, b < 7 → a ≠ b → (TX6 a).2.1 ≠ (TX6 b).2.1 := by decide +kernel
theorem tyX6_ok : ∀ k, k < 7 → parseFieldDescriptor (TX6 k).2.2.1 = some (tyX6 k) := by decide +kernel
abbrev cX6_init : ByteArray := prog_8_method_1_code
def yX6_init : MethodName := ⟨RX6, "<init>", "()V"⟩
abbrev cX6_append : ByteArray := prog_8_method_2_code
def yX6_append : MethodName := ⟨RX6, "append", "(I)V"⟩
abbrev cX6_sortOf : ByteArray := prog_8_method_3_code
def yX6_sortOf : MethodName := ⟨RX6, "sortOf", "(I)I"⟩
abbrev cX6_rewind : ByteArray := prog_8_method_4_code
def yX6_rewind : MethodName := ⟨RX6, "rewind", "()V"⟩
abbrev cX6_advance : ByteArray := prog_8_method_5_code
def yX6_advance : MethodName := ⟨RX6, "advance", "()V"⟩
abbrev cX6_takeWord : ByteArray := prog_8_method_6_code
def yX6_takeWord : MethodName := ⟨RX6, "takeWord", "()V"⟩
abbrev cX6_takeNumber : ByteArray := prog_8_method_7_code
def yX6_takeNumber : MethodName := ⟨RX6, "takeNumber", "()V"⟩
abbrev cX6_reads : ByteArray := prog_8_method_8_code
def yX6_reads : MethodName := ⟨RX6, "reads", "(Ljava/lang/String;)Z"⟩
def RX7 : String := "GoldenRows$Versions"
def TX7 : u_T := fun k => match k with
  | 0 => ("GoldenRows$Versions", "count", "I", false)
  | 1 => ("GoldenRows$Versions", "row", "[I", true)
  | 2 => ("GoldenRows$Versions", "field", "[I", true)
  | 3 => ("GoldenRows$Versions", "value", "[I", true)
  | 4 => ("GoldenRows$Versions", "since", "[I", true)
  | 5 => ("GoldenRows$Versions", "told", "[I", true)
  | _ => ("GoldenRows$Versions", "echo", "[Z", true)
def tyX7 : Nat → FieldType := fun k => match k with
  | 0 => .int
  | 1 => .array .int
  | 2 => .array .int
  | 3 => .array .int
  | 4 => .array .int
  | 5 => .array .int
  | _ => .array .boolean
theorem nmX7 : ∀ a, a < 7 → ∀ b, b < 7 → a ≠ b → (TX7 a).2.1 ≠ (TX7 b).2.1 := by decide +kernel
theorem tyX7_ok : ∀ k, k < 7 → parseFieldDescriptor (TX7 k).2.2.1 = some (tyX7 k) := by decide +kernel
abbrev cX7_init : ByteArray := prog_9_method_1_code
def yX7_init : MethodName := ⟨RX7, "<init>", "()V"⟩
abbrev cX7_add : ByteArray := prog_9_method_2_code
def yX7_add : MethodName := ⟨RX7, "add", "(IIIIIZ)V"⟩
def RX8 : String := "GoldenRows$Voices"
def TX8 : u_T := fun k => match k with
  | 0 => ("GoldenRows$Voices", "loudest", "I", false)
  | 1 => ("GoldenRows$Voices", "strongest", "I", false)
  | 2 => ("GoldenRows$Voices", "different", "I", false)
  | 3 => ("GoldenRows$Voices", "count", "I", false)
  | 4 => ("GoldenRows$Voices", "row", "[I", true)
  | 5 => ("GoldenRows$Voices", "value", "[I", true)
  | 6 => ("GoldenRows$Voices", "since", "[I", true)
  | _ => ("GoldenRows$Voices", "weight", "[I", true)
def tyX8 : Nat → FieldType := fun k => match k with
  | 0 => .int
  | 1 => .int
  | 2 => .int
  | 3 => .int
  | 4 => .array .int
  | 5 => .array .int
  | 6 => .array .int
  | _ => .array .int
theorem nmX8 : ∀ a, a < 8 → ∀ b, b < 8 → a ≠ b → (TX8 a).2.1 ≠ (TX8 b).2.1 := by decide +kernel
theorem tyX8_ok : ∀ k, k < 8 → parseFieldDescriptor (TX8 k).2.2.1 = some (tyX8 k) := by decide +kernel
abbrev cX8_init : ByteArray := prog_10_method_1_code
def yX8_init : MethodName := ⟨RX8, "<init>", "()V"⟩
abbrev cX8_gather : ByteArray := prog_10_method_2_code
def yX8_gather : MethodName := ⟨RX8, "gather", "(LGoldenRows$Sight;LGoldenRows$Rows;LGoldenRows$Parting;LGoldenRows$Weights;II)V"⟩
abbrev cX8_choose : ByteArray := prog_10_method_3_code
def yX8_choose : MethodName := ⟨RX8, "choose", "()V"⟩
abbrev cX8_isAhead : ByteArray := prog_10_method_4_code
def yX8_isAhead : MethodName := ⟨RX8, "isAhead", "(III)Z"⟩
abbrev cX8_isFirst : ByteArray := prog_10_method_5_code
def yX8_isFirst : MethodName := ⟨RX8, "isFirst", "(I)Z"⟩
abbrev cX8_sumFor : ByteArray := prog_10_method_6_code
def yX8_sumFor : MethodName := ⟨RX8, "sumFor", "(I)I"⟩
abbrev cX8_latestFor : ByteArray := prog_10_method_7_code
def yX8_latestFor : MethodName := ⟨RX8, "latestFor", "(I)I"⟩
abbrev cX8_strongestFor : ByteArray := prog_10_method_8_code
def yX8_strongestFor : MethodName := ⟨RX8, "strongestFor", "(I)I"⟩
def RX9 : String := "GoldenRows$Weights"
def TX9 : u_T := fun k => match k with
  | 0 => ("GoldenRows$Weights", "trust", "[I", true)
  | _ => ("GoldenRows$Weights", "fade", "[I", true)
def tyX9 : Nat → FieldType := fun k => match k with
  | 0 => .array .int
  | _ => .array .int
theorem nmX9 : ∀ a, a < 2 → ∀ b, b < 2 → a ≠ b → (TX9 a).2.1 ≠ (TX9 b).2.1 := by decide +kernel
theorem tyX9_ok : ∀ k, k < 2 → parseFieldDescriptor (TX9 k).2.2.1 = some (tyX9 k) := by decide +kernel
abbrev cX9_init : ByteArray := prog_11_method_1_code
def yX9_init : MethodName := ⟨RX9, "<init>", "()V"⟩
abbrev cX9_weight : ByteArray := prog_11_method_2_code
def yX9_weight : MethodName := ⟨RX9, "weight", "(IIJ)I"⟩
def RX10 : String := "GoldenRows$Wishes"
def TX10 : u_T := fun k => match k with
  | 0 => ("GoldenRows$Wishes", "count", "I", false)
  | 1 => ("GoldenRows$Wishes", "row", "[I", true)
  | 2 => ("GoldenRows$Wishes", "field", "[I", true)
  | _ => ("GoldenRows$Wishes", "value", "[I", true)
def tyX10 : Nat → FieldType := fun k => match k with
  | 0 => .int
  | 1 => .array .int
  | 2 => .array .int
  | _ => .array .int
theorem nmX10 : ∀ a, a < 4 → ∀ b, b < 4 → a ≠ b → (TX10 a).2.1 ≠ (TX10 b).2.1 := by decide +kernel
theorem tyX10_ok : ∀ k, k < 4 → parseFieldDescriptor (TX10 k).2.2.1 = some (tyX10 k) := by decide +kernel
abbrev cX10_init : ByteArray := prog_12_method_1_code
def yX10_init : MethodName := ⟨RX10, "<init>", "(I)V"⟩
abbrev cX10_add : ByteArray := prog_12_method_2_code
def yX10_add : MethodName := ⟨RX10, "add", "(III)V"⟩
abbrev cX10_has : ByteArray := prog_12_method_3_code
def yX10_has : MethodName := ⟨RX10, "has", "(III)Z"⟩
def RX11 : String := "GoldenRows"
def TX11 : u_T := fun k => match k with
  | 0 => ("GoldenRows", "day", "I", false)
  | 1 => ("GoldenRows", "seen", "Z", false)
  | 2 => ("GoldenRows", "parted", "Z", false)
  | 3 => ("GoldenRows", "book", "LGoldenRows$Book;", false)
  | 4 => ("GoldenRows", "spareBook", "LGoldenRows$Book;", false)
  | 5 => ("GoldenRows", "weights", "LGoldenRows$Weights;", true)
  | 6 => ("GoldenRows", "allowed", "[I", true)
  | 7 => ("GoldenRows", "rows", "LGoldenRows$Rows;", true)
  | 8 => ("GoldenRows", "versions", "LGoldenRows$Versions;", true)
  | 9 => ("GoldenRows", "tape", "LGoldenRows$Tape;", true)
  | 10 => ("GoldenRows", "parser", "LGoldenRows$Parser;", true)
  | 11 => ("GoldenRows", "hands", "LGoldenRows$ByHand;", true)
  | 12 => ("GoldenRows", "fixes", "LGoldenRows$ByHand;", true)
  | 13 => ("GoldenRows", "sight", "LGoldenRows$Sight;", true)
  | 14 => ("GoldenRows", "parting", "LGoldenRows$Parting;", true)
  | 15 => ("GoldenRows", "voices", "LGoldenRows$Voices;", true)
  | 16 => ("GoldenRows", "refused", "LGoldenRows$Wishes;", true)
  | _ => ("GoldenRows", "wishes", "LGoldenRows$Wishes;", true)
def tyX11 : Nat → FieldType := fun k => match k with
  | 0 => .int
  | 1 => .boolean
  | 2 => .boolean
  | 3 => .object "GoldenRows$Book"
  | 4 => .object "GoldenRows$Book"
  | 5 => .object "GoldenRows$Weights"
  | 6 => .array .int
  | 7 => .object "GoldenRows$Rows"
  | 8 => .object "GoldenRows$Versions"
  | 9 => .object "GoldenRows$Tape"
  | 10 => .object "GoldenRows$Parser"
  | 11 => .object "GoldenRows$ByHand"
  | 12 => .object "GoldenRows$ByHand"
  | 13 => .object "GoldenRows$Sight"
  | 14 => .object "GoldenRows$Parting"
  | 15 => .object "GoldenRows$Voices"
  | 16 => .object "GoldenRows$Wishes"
  | _ => .object "GoldenRows$Wishes"
theorem nmX11 : ∀ a, a < 18 → ∀ b, b < 18 → a ≠ b → (TX11 a).2.1 ≠ (TX11 b).2.1 := by decide +kernel
theorem tyX11_ok : ∀ k, k < 18 → parseFieldDescriptor (TX11 k).2.2.1 = some (tyX11 k) := by decide +kernel
abbrev cX11_init : ByteArray := prog_1_method_1_code
def yX11_init : MethodName := ⟨RX11, "<init>", "()V"⟩
abbrev cX11_trust : ByteArray := prog_1_method_2_code
def yX11_trust : MethodName := ⟨RX11, "trust", "(III)Z"⟩
abbrev cX11_fade : ByteArray := prog_1_method_3_code
def yX11_fade : MethodName := ⟨RX11, "fade", "(II)Z"⟩
abbrev cX11_rights : ByteArray := prog_1_method_4_code
def yX11_rights : MethodName := ⟨RX11, "rights", "(II)Z"⟩
abbrev cX11_row : ByteArray := prog_1_method_5_code
def yX11_row : MethodName := ⟨RX11, "row", "(I)I"⟩
abbrev cX11_set : ByteArray := prog_1_method_6_code
def yX11_set : MethodName := ⟨RX11, "set", "(IIII)I"⟩
abbrev cX11_value : ByteArray := prog_1_method_7_code
def yX11_value : MethodName := ⟨RX11, "value", "(IIII)I"⟩
abbrev cX11_forget : ByteArray := prog_1_method_8_code
def yX11_forget : MethodName := ⟨RX11, "forget", "(I)Z"⟩
abbrev cX11_later : ByteArray := prog_1_method_9_code
def yX11_later : MethodName := ⟨RX11, "later", "(I)I"⟩
abbrev cX11_feed : ByteArray := prog_1_method_10_code
def yX11_feed : MethodName := ⟨RX11, "feed", "(IIIII)I"⟩
abbrev cX11_end : ByteArray := prog_1_method_11_code
def yX11_end : MethodName := ⟨RX11, "end", "(I)I"⟩
abbrev cX11_rules : ByteArray := prog_1_method_12_code
def yX11_rules : MethodName := ⟨RX11, "rules", "()I"⟩
abbrev cX11_fault : ByteArray := prog_1_method_13_code
def yX11_fault : MethodName := ⟨RX11, "fault", "(I)I"⟩
abbrev cX11_score : ByteArray := prog_1_method_14_code
def yX11_score : MethodName := ⟨RX11, "score", "(IIII)I"⟩
abbrev cX11_hand : ByteArray := prog_1_method_15_code
def yX11_hand : MethodName := ⟨RX11, "hand", "(IIZ)I"⟩
abbrev cX11_unhand : ByteArray := prog_1_method_16_code
def yX11_unhand : MethodName := ⟨RX11, "unhand", "(I)Z"⟩
abbrev cX11_persons : ByteArray := prog_1_method_17_code
def yX11_persons : MethodName := ⟨RX11, "persons", "(II)I"⟩
abbrev cX11_worth : ByteArray := prog_1_method_18_code
def yX11_worth : MethodName := ⟨RX11, "worth", "(II)I"⟩
abbrev cX11_person : ByteArray := prog_1_method_19_code
def yX11_person : MethodName := ⟨RX11, "person", "(III)I"⟩
abbrev cX11_golden : ByteArray := prog_1_method_20_code
def yX11_golden : MethodName := ⟨RX11, "golden", "(IIII)I"⟩
abbrev cX11_from : ByteArray := prog_1_method_21_code
def yX11_from : MethodName := ⟨RX11, "from", "(IIII)I"⟩
abbrev cX11_torn : ByteArray := prog_1_method_22_code
def yX11_torn : MethodName := ⟨RX11, "torn", "(IIII)I"⟩
abbrev cX11_fix : ByteArray := prog_1_method_23_code
def yX11_fix : MethodName := ⟨RX11, "fix", "(III)I"⟩
abbrev cX11_unfix : ByteArray := prog_1_method_24_code
def yX11_unfix : MethodName := ⟨RX11, "unfix", "(I)Z"⟩
abbrev cX11_changes : ByteArray := prog_1_method_25_code
def yX11_changes : MethodName := ⟨RX11, "changes", "(I)I"⟩
abbrev cX11_change : ByteArray := prog_1_method_26_code
def yX11_change : MethodName := ⟨RX11, "change", "(III)I"⟩
abbrev cX11_accept : ByteArray := prog_1_method_27_code
def yX11_accept : MethodName := ⟨RX11, "accept", "(II)Z"⟩
abbrev cX11_refuse : ByteArray := prog_1_method_28_code
def yX11_refuse : MethodName := ⟨RX11, "refuse", "(II)Z"⟩
abbrev cX11_about : ByteArray := prog_1_method_29_code
def yX11_about : MethodName := ⟨RX11, "about", "(I)I"⟩
abbrev cX11_isSource : ByteArray := prog_1_method_30_code
def yX11_isSource : MethodName := ⟨RX11, "isSource", "(I)Z"⟩
abbrev cX11_isField : ByteArray := prog_1_method_31_code
def yX11_isField : MethodName := ⟨RX11, "isField", "(I)Z"⟩
abbrev cX11_isValue : ByteArray := prog_1_method_32_code
def yX11_isValue : MethodName := ⟨RX11, "isValue", "(I)Z"⟩
abbrev cX11_look : ByteArray := prog_1_method_33_code
def yX11_look : MethodName := ⟨RX11, "look", "(II)V"⟩
abbrev cX11_part : ByteArray := prog_1_method_34_code
def yX11_part : MethodName := ⟨RX11, "part", "(II)Z"⟩
abbrev cX11_personAsked : ByteArray := prog_1_method_35_code
def yX11_personAsked : MethodName := ⟨RX11, "personAsked", "(IIII)I"⟩
abbrev cX11_hear : ByteArray := prog_1_method_36_code
def yX11_hear : MethodName := ⟨RX11, "hear", "(II)V"⟩
abbrev cX11_goldenOf : ByteArray := prog_1_method_37_code
def yX11_goldenOf : MethodName := ⟨RX11, "goldenOf", "(II)I"⟩
abbrev cX11_latestFix : ByteArray := prog_1_method_38_code
def yX11_latestFix : MethodName := ⟨RX11, "latestFix", "(II)I"⟩
abbrev cX11_hasWish : ByteArray := prog_1_method_39_code
def yX11_hasWish : MethodName := ⟨RX11, "hasWish", "(II)Z"⟩
abbrev cX11_listWishes : ByteArray := prog_1_method_40_code
def yX11_listWishes : MethodName := ⟨RX11, "listWishes", "(I)V"⟩
abbrev cX11_listWishesOf : ByteArray := prog_1_method_41_code
def yX11_listWishesOf : MethodName := ⟨RX11, "listWishesOf", "(II)V"⟩
def RX12 : String := "GoldenRowsModel"
def TX12 : u_T := fun k => match k with
  | 0 => ("GoldenRowsModel", "today", "I", false)
  | 1 => ("GoldenRowsModel", "trust", "[I", true)
  | 2 => ("GoldenRowsModel", "fade", "[I", true)
  | 3 => ("GoldenRowsModel", "rights", "[I", true)
  | 4 => ("GoldenRowsModel", "rows", "I", false)
  | 5 => ("GoldenRowsModel", "versions", "I", false)
  | 6 => ("GoldenRowsModel", "sourceOf", "[I", true)
  | 7 => ("GoldenRowsModel", "rowDay", "[I", true)
  | 8 => ("GoldenRowsModel", "isForgotten", "[Z", true)
  | 9 => ("GoldenRowsModel", "verRow", "[I", true)
  | 10 => ("GoldenRowsModel", "verField", "[I", true)
  | 11 => ("GoldenRowsModel", "verValue", "[I", true)
  | 12 => ("GoldenRowsModel", "verFrom", "[I", true)
  | 13 => ("GoldenRowsModel", "verTold", "[I", true)
  | 14 => ("GoldenRowsModel", "isEcho", "[Z", true)
  | 15 => ("GoldenRowsModel", "steps", "[I", true)
  | 16 => ("GoldenRowsModel", "fields", "[I", true)
  | 17 => ("GoldenRowsModel", "nears", "[I", true)
  | 18 => ("GoldenRowsModel", "lineAt", "[I", true)
  | 19 => ("GoldenRowsModel", "gives", "[I", true)
  | 20 => ("GoldenRowsModel", "lines", "I", false)
  | 21 => ("GoldenRowsModel", "newSteps", "[I", true)
  | 22 => ("GoldenRowsModel", "newFields", "[I", true)
  | 23 => ("GoldenRowsModel", "newNears", "[I", true)
  | 24 => ("GoldenRowsModel", "newAt", "[I", true)
  | 25 => ("GoldenRowsModel", "newGives", "[I", true)
  | 26 => ("GoldenRowsModel", "newLines", "I", false)
  | 27 => ("GoldenRowsModel", "newMany", "I", false)
  | 28 => ("GoldenRowsModel", "tests", "I", false)
  | 29 => ("GoldenRowsModel", "tape", "[I", true)
  | 30 => ("GoldenRowsModel", "taped", "I", false)
  | 31 => ("GoldenRowsModel", "fault", "I", false)
  | 32 => ("GoldenRowsModel", "faultPlace", "I", false)
  | 33 => ("GoldenRowsModel", "at", "I", false)
  | 34 => ("GoldenRowsModel", "size", "I", false)
  | 35 => ("GoldenRowsModel", "sort", "I", false)
  | 36 => ("GoldenRowsModel", "place", "I", false)
  | 37 => ("GoldenRowsModel", "number", "I", false)
  | 38 => ("GoldenRowsModel", "word", "J", false)
  | 39 => ("GoldenRowsModel", "waits", "[I", true)
  | 40 => ("GoldenRowsModel", "waiting", "I", false)
  | 41 => ("GoldenRowsModel", "deep", "I", false)
  | 42 => ("GoldenRowsModel", "pile", "[Z", true)
  | 43 => ("GoldenRowsModel", "hands", "I", false)
  | 44 => ("GoldenRowsModel", "fixes", "I", false)
  | 45 => ("GoldenRowsModel", "handA", "[I", true)
  | 46 => ("GoldenRowsModel", "handB", "[I", true)
  | 47 => ("GoldenRowsModel", "handTold", "[I", true)
  | 48 => ("GoldenRowsModel", "handUntold", "[I", true)
  | 49 => ("GoldenRowsModel", "isMust", "[Z", true)
  | 50 => ("GoldenRowsModel", "fixRow", "[I", true)
  | 51 => ("GoldenRowsModel", "fixField", "[I", true)
  | 52 => ("GoldenRowsModel", "fixValue", "[I", true)
  | 53 => ("GoldenRowsModel", "fixTold", "[I", true)
  | 54 => ("GoldenRowsModel", "fixUntold", "[I", true)
  | 55 => ("GoldenRowsModel", "there", "I", false)
  | 56 => ("GoldenRowsModel", "bestWorth", "I", false)
  | 57 => ("GoldenRowsModel", "bestMany", "I", false)
  | 58 => ("GoldenRowsModel", "isParted", "Z", false)
  | 59 => ("GoldenRowsModel", "rowAt", "[I", true)
  | 60 => ("GoldenRowsModel", "personOf", "[I", true)
  | 61 => ("GoldenRowsModel", "now", "[I", true)
  | 62 => ("GoldenRowsModel", "next0", "[I", true)
  | 63 => ("GoldenRowsModel", "used", "[I", true)
  | 64 => ("GoldenRowsModel", "worths", "[I", true)
  | 65 => ("GoldenRowsModel", "scores", "[I", true)
  | 66 => ("GoldenRowsModel", "says", "[I", true)
  | 67 => ("GoldenRowsModel", "goldValue", "I", false)
  | 68 => ("GoldenRowsModel", "goldFrom", "I", false)
  | 69 => ("GoldenRowsModel", "goldMany", "I", false)
  | 70 => ("GoldenRowsModel", "said", "[I", true)
  | 71 => ("GoldenRowsModel", "saidBy", "[I", true)
  | 72 => ("GoldenRowsModel", "saidDay", "[I", true)
  | 73 => ("GoldenRowsModel", "sums", "[J", true)
  | 74 => ("GoldenRowsModel", "greatest", "[J", true)
  | 75 => ("GoldenRowsModel", "refusals", "I", false)
  | 76 => ("GoldenRowsModel", "changeMany", "I", false)
  | 77 => ("GoldenRowsModel", "refRow", "[I", true)
  | 78 => ("GoldenRowsModel", "refField", "[I", true)
  | 79 => ("GoldenRowsModel", "refValue", "[I", true)
  | 80 => ("GoldenRowsModel", "changeRow", "[I", true)
  | 81 => ("GoldenRowsModel", "changeField", "[I", true)
  | _ => ("GoldenRowsModel", "changeValue", "[I", true)
def tyX12 : Nat → FieldType := fun k => match k with
  | 0 => .int
  | 1 => .array .int
  | 2 => .array .int
  | 3 => .array .int
  | 4 => .int
  | 5 => .int
  | 6 => .array .int
  | 7 => .array .int
  | 8 => .array .boolean
  | 9 => .array .int
  | 10 => .array .int
  | 11 => .array .int
  | 12 => .array .int
  | 13 => .array .int
  | 14 => .array .boolean
  | 15 => .array .int
  | 16 => .array .int
  | 17 => .array .int
  | 18 => .array .int
  | 19 => .array .int
  | 20 => .int
  | 21 => .array .int
  | 22 => .array .int
  | 23 => .array .int
  | 24 => .array .int
  | 25 => .array .int
  | 26 => .int
  | 27 => .int
  | 28 => .int
  | 29 => .array .int
  | 30 => .int
  | 31 => .int
  | 32 => .int
  | 33 => .int
  | 34 => .int
  | 35 => .int
  | 36 => .int
  | 37 => .int
  | 38 => .long
  | 39 => .array .int
  | 40 => .int
  | 41 => .int
  | 42 => .array .boolean
  | 43 => .int
  | 44 => .int
  | 45 => .array .int
  | 46 => .array .int
  | 47 => .array .int
  | 48 => .array .int
  | 49 => .array .boolean
  | 50 => .array .int
  | 51 => .array .int
  | 52 => .array .int
  | 53 => .array .int
  | 54 => .array .int
  | 55 => .int
  | 56 => .int
  | 57 => .int
  | 58 => .boolean
  | 59 => .array .int
  | 60 => .array .int
  | 61 => .array .int
  | 62 => .array .int
  | 63 => .array .int
  | 64 => .array .int
  | 65 => .array .int
  | 66 => .array .int
  | 67 => .int
  | 68 => .int
  | 69 => .int
  | 70 => .array .int
  | 71 => .array .int
  | 72 => .array .int
  | 73 => .array .long
  | 74 => .array .long
  | 75 => .int
  | 76 => .int
  | 77 => .array .int
  | 78 => .array .int
  | 79 => .array .int
  | 80 => .array .int
  | 81 => .array .int
  | _ => .array .int
theorem nmX12 : ∀ a, a < 83 → ∀ b, b < 83 → a ≠ b → (TX12 a).2.1 ≠ (TX12 b).2.1 := by decide +kernel
theorem tyX12_ok : ∀ k, k < 83 → parseFieldDescriptor (TX12 k).2.2.1 = some (tyX12 k) := by decide +kernel
abbrev cX12_init : ByteArray := prog_14_method_1_code
def yX12_init : MethodName := ⟨RX12, "<init>", "()V"⟩
abbrev cX12_isSource : ByteArray := prog_14_method_2_code
def yX12_isSource : MethodName := ⟨RX12, "isSource", "(I)Z"⟩
abbrev cX12_isField : ByteArray := prog_14_method_3_code
def yX12_isField : MethodName := ⟨RX12, "isField", "(I)Z"⟩
abbrev cX12_trust : ByteArray := prog_14_method_4_code
def yX12_trust : MethodName := ⟨RX12, "trust", "(III)Z"⟩
abbrev cX12_fade : ByteArray := prog_14_method_5_code
def yX12_fade : MethodName := ⟨RX12, "fade", "(II)Z"⟩
abbrev cX12_rights : ByteArray := prog_14_method_6_code
def yX12_rights : MethodName := ⟨RX12, "rights", "(II)Z"⟩
abbrev cX12_row : ByteArray := prog_14_method_7_code
def yX12_row : MethodName := ⟨RX12, "row", "(I)I"⟩
abbrev cX12_isRow : ByteArray := prog_14_method_8_code
def yX12_isRow : MethodName := ⟨RX12, "isRow", "(I)Z"⟩
abbrev cX12_isThere : ByteArray := prog_14_method_9_code
def yX12_isThere : MethodName := ⟨RX12, "isThere", "(II)Z"⟩
abbrev cX12_isValue : ByteArray := prog_14_method_10_code
def yX12_isValue : MethodName := ⟨RX12, "isValue", "(I)Z"⟩
abbrev cX12_tell : ByteArray := prog_14_method_11_code
def yX12_tell : MethodName := ⟨RX12, "tell", "(IIIIZ)V"⟩
abbrev cX12_set : ByteArray := prog_14_method_12_code
def yX12_set : MethodName := ⟨RX12, "set", "(IIII)I"⟩
abbrev cX12_version : ByteArray := prog_14_method_13_code
def yX12_version : MethodName := ⟨RX12, "version", "(IIII)I"⟩
abbrev cX12_valueOf : ByteArray := prog_14_method_14_code
def yX12_valueOf : MethodName := ⟨RX12, "valueOf", "(IIII)I"⟩
abbrev cX12_value : ByteArray := prog_14_method_15_code
def yX12_value : MethodName := ⟨RX12, "value", "(IIII)I"⟩
abbrev cX12_forget : ByteArray := prog_14_method_16_code
def yX12_forget : MethodName := ⟨RX12, "forget", "(I)Z"⟩
abbrev cX12_later : ByteArray := prog_14_method_17_code
def yX12_later : MethodName := ⟨RX12, "later", "(I)I"⟩
abbrev cX12_feed : ByteArray := prog_14_method_18_code
def yX12_feed : MethodName := ⟨RX12, "feed", "(IIIII)I"⟩
abbrev cX12_four : ByteArray := prog_14_method_19_code
def yX12_four : MethodName := ⟨RX12, "four", "(I)V"⟩
abbrev cX12_end : ByteArray := prog_14_method_20_code
def yX12_end : MethodName := ⟨RX12, "end", "(I)I"⟩
abbrev cX12_here : ByteArray := prog_14_method_21_code
def yX12_here : MethodName := ⟨RX12, "here", "(I)I"⟩
abbrev cX12_isLetter : ByteArray := prog_14_method_22_code
def yX12_isLetter : MethodName := ⟨RX12, "isLetter", "(I)Z"⟩
abbrev cX12_isDigit : ByteArray := prog_14_method_23_code
def yX12_isDigit : MethodName := ⟨RX12, "isDigit", "(I)Z"⟩
abbrev cX12_next : ByteArray := prog_14_method_24_code
def yX12_next : MethodName := ⟨RX12, "next", "()V"⟩
abbrev cX12_wrong : ByteArray := prog_14_method_25_code
def yX12_wrong : MethodName := ⟨RX12, "wrong", "(I)V"⟩
abbrev cX12_isWord : ByteArray := prog_14_method_26_code
def yX12_isWord : MethodName := ⟨RX12, "isWord", "(J)Z"⟩
abbrev cX12_step : ByteArray := prog_14_method_27_code
def yX12_step : MethodName := ⟨RX12, "step", "(III)V"⟩
abbrev cX12_told : ByteArray := prog_14_method_28_code
def yX12_told : MethodName := ⟨RX12, "told", "(II)I"⟩
abbrev cX12_hold : ByteArray := prog_14_method_29_code
def yX12_hold : MethodName := ⟨RX12, "hold", "(I)V"⟩
abbrev cX12_pop : ByteArray := prog_14_method_30_code
def yX12_pop : MethodName := ⟨RX12, "pop", "()V"⟩
abbrev cX12_settle : ByteArray := prog_14_method_31_code
def yX12_settle : MethodName := ⟨RX12, "settle", "(Z)V"⟩
abbrev cX12_isOpen : ByteArray := prog_14_method_32_code
def yX12_isOpen : MethodName := ⟨RX12, "isOpen", "()Z"⟩
abbrev cX12_readE : ByteArray := prog_14_method_33_code
def yX12_readE : MethodName := ⟨RX12, "readE", "()V"⟩
abbrev cX12_operand : ByteArray := prog_14_method_34_code
def yX12_operand : MethodName := ⟨RX12, "operand", "()Z"⟩
abbrev cX12_sign : ByteArray := prog_14_method_35_code
def yX12_sign : MethodName := ⟨RX12, "sign", "()Z"⟩
abbrev cX12_rules : ByteArray := prog_14_method_36_code
def yX12_rules : MethodName := ⟨RX12, "rules", "()I"⟩
abbrev cX12_fault : ByteArray := prog_14_method_37_code
def yX12_fault : MethodName := ⟨RX12, "fault", "(I)I"⟩
abbrev cX12_holds : ByteArray := prog_14_method_38_code
def yX12_holds : MethodName := ⟨RX12, "holds", "(IIIII)Z"⟩
abbrev cX12_scoreOf : ByteArray := prog_14_method_39_code
def yX12_scoreOf : MethodName := ⟨RX12, "scoreOf", "(IIII)I"⟩
abbrev cX12_score : ByteArray := prog_14_method_40_code
def yX12_score : MethodName := ⟨RX12, "score", "(IIII)I"⟩
abbrev cX12_isKnown : ByteArray := prog_14_method_41_code
def yX12_isKnown : MethodName := ⟨RX12, "isKnown", "(III)Z"⟩
abbrev cX12_hand : ByteArray := prog_14_method_42_code
def yX12_hand : MethodName := ⟨RX12, "hand", "(IIZ)I"⟩
abbrev cX12_unhand : ByteArray := prog_14_method_43_code
def yX12_unhand : MethodName := ⟨RX12, "unhand", "(I)Z"⟩
abbrev cX12_fix : ByteArray := prog_14_method_44_code
def yX12_fix : MethodName := ⟨RX12, "fix", "(III)I"⟩
abbrev cX12_unfix : ByteArray := prog_14_method_45_code
def yX12_unfix : MethodName := ⟨RX12, "unfix", "(I)Z"⟩
abbrev cX12_part : ByteArray := prog_14_method_46_code
def yX12_part : MethodName := ⟨RX12, "part", "(II)V"⟩
abbrev cX12_canBe : ByteArray := prog_14_method_47_code
def yX12_canBe : MethodName := ⟨RX12, "canBe", "(II)Z"⟩
abbrev cX12_look : ByteArray := prog_14_method_48_code
def yX12_look : MethodName := ⟨RX12, "look", "()V"⟩
abbrev cX12_persons : ByteArray := prog_14_method_49_code
def yX12_persons : MethodName := ⟨RX12, "persons", "(II)I"⟩
abbrev cX12_worth : ByteArray := prog_14_method_50_code
def yX12_worth : MethodName := ⟨RX12, "worth", "(II)I"⟩
abbrev cX12_person : ByteArray := prog_14_method_51_code
def yX12_person : MethodName := ⟨RX12, "person", "(III)I"⟩
abbrev cX12_gold : ByteArray := prog_14_method_52_code
def yX12_gold : MethodName := ⟨RX12, "gold", "(IIII)V"⟩
abbrev cX12_tells : ByteArray := prog_14_method_53_code
def yX12_tells : MethodName := ⟨RX12, "tells", "(IIII)Z"⟩
abbrev cX12_golden : ByteArray := prog_14_method_54_code
def yX12_golden : MethodName := ⟨RX12, "golden", "(IIII)I"⟩
abbrev cX12_from : ByteArray := prog_14_method_55_code
def yX12_from : MethodName := ⟨RX12, "from", "(IIII)I"⟩
abbrev cX12_torn : ByteArray := prog_14_method_56_code
def yX12_torn : MethodName := ⟨RX12, "torn", "(IIII)I"⟩
abbrev cX12_isRefused : ByteArray := prog_14_method_57_code
def yX12_isRefused : MethodName := ⟨RX12, "isRefused", "(III)Z"⟩
abbrev cX12_seek : ByteArray := prog_14_method_58_code
def yX12_seek : MethodName := ⟨RX12, "seek", "(I)V"⟩
abbrev cX12_changes : ByteArray := prog_14_method_59_code
def yX12_changes : MethodName := ⟨RX12, "changes", "(I)I"⟩
abbrev cX12_isChange : ByteArray := prog_14_method_60_code
def yX12_isChange : MethodName := ⟨RX12, "isChange", "(II)Z"⟩
abbrev cX12_change : ByteArray := prog_14_method_61_code
def yX12_change : MethodName := ⟨RX12, "change", "(III)I"⟩
abbrev cX12_accept : ByteArray := prog_14_method_62_code
def yX12_accept : MethodName := ⟨RX12, "accept", "(II)Z"⟩
abbrev cX12_refuse : ByteArray := prog_14_method_63_code
def yX12_refuse : MethodName := ⟨RX12, "refuse", "(II)Z"⟩
abbrev cX12_about : ByteArray := prog_14_method_64_code
def yX12_about : MethodName := ⟨RX12, "about", "(I)I"⟩
def RJ6 : String := "java/lang/Integer"
def TJ6 : u_T := fun k => match k with
  | _ => ("", "", "", false)
def tyJ6 : Nat → FieldType := fun k => match k with
  | _ => .int
theorem nmJ6 : ∀ a, a < 0 → ∀ b, b < 0 → a ≠ b → (TJ6 a).2.1 ≠ (TJ6 b).2.1 := by decide +kernel
theorem tyJ6_ok : ∀ k, k < 0 → parseFieldDescriptor (TJ6 k).2.2.1 = some (tyJ6 k) := by decide +kernel
abbrev cJ6_bitCount_0f7a4 : ByteArray := prog_15_method_49_code
def yJ6_bitCount_0f7a4 : MethodName := ⟨RJ6, "bitCount", "(I)I"⟩
def RJ9 : String := "java/lang/Math"
def TJ9 : u_T := fun k => match k with
  | _ => ("", "", "", false)
def tyJ9 : Nat → FieldType := fun k => match k with
  | _ => .int
theorem nmJ9 : ∀ a, a < 0 → ∀ b, b < 0 → a ≠ b → (TJ9 a).2.1 ≠ (TJ9 b).2.1 := by decide +kernel
theorem tyJ9_ok : ∀ k, k < 0 → parseFieldDescriptor (TJ9 k).2.2.1 = some (tyJ9 k) := by decide +kernel
abbrev cJ9_max_7cf53 : ByteArray := prog_16_method_65_code
def yJ9_max_7cf53 : MethodName := ⟨RJ9, "max", "(II)I"⟩
abbrev cJ9_max_f86c9 : ByteArray := prog_16_method_66_code
def yJ9_max_f86c9 : MethodName := ⟨RJ9, "max", "(JJ)J"⟩
def RJ0 : String := "java/lang/String"
def TJ0 : u_T := fun k => match k with
  | _ => ("", "", "", false)
def tyJ0 : Nat → FieldType := fun k => match k with
  | _ => .int
theorem nmJ0 : ∀ a, a < 0 → ∀ b, b < 0 → a ≠ b → (TJ0 a).2.1 ≠ (TJ0 b).2.1 := by decide +kernel
theorem tyJ0_ok : ∀ k, k < 0 → parseFieldDescriptor (TJ0 k).2.2.1 = some (tyJ0 k) := by decide +kernel
abbrev cJ0_length_8abf5 : ByteArray := prog_17_method_54_code
def yJ0_length_8abf5 : MethodName := ⟨RJ0, "length", "()I"⟩
abbrev cJ0_charAt_5068e : ByteArray := prog_17_method_56_code
def yJ0_charAt_5068e : MethodName := ⟨RJ0, "charAt", "(I)C"⟩
abbrev cJ0_coder_7d493 : ByteArray := prog_17_method_152_code
def yJ0_coder_7d493 : MethodName := ⟨RJ0, "coder", "()B"⟩
abbrev cJ0_isLatin1_aae02 : ByteArray := prog_17_method_154_code
def yJ0_isLatin1_aae02 : MethodName := ⟨RJ0, "isLatin1", "()Z"⟩
abbrev cJ0_checkIndex_df160 : ByteArray := prog_17_method_155_code
def yJ0_checkIndex_df160 : MethodName := ⟨RJ0, "checkIndex", "(II)V"⟩
def RJ1 : String := "java/lang/StringLatin1"
def TJ1 : u_T := fun k => match k with
  | _ => ("", "", "", false)
def tyJ1 : Nat → FieldType := fun k => match k with
  | _ => .int
theorem nmJ1 : ∀ a, a < 0 → ∀ b, b < 0 → a ≠ b → (TJ1 a).2.1 ≠ (TJ1 b).2.1 := by decide +kernel
theorem tyJ1_ok : ∀ k, k < 0 → parseFieldDescriptor (TJ1 k).2.2.1 = some (tyJ1 k) := by decide +kernel
abbrev cJ1_charAt_3b067 : ByteArray := prog_18_method_2_code
def yJ1_charAt_3b067 : MethodName := ⟨RJ1, "charAt", "([BI)C"⟩
def RJ2 : String := "java/lang/StringUTF16"
def TJ2 : u_T := fun k => match k with
  | _ => ("", "", "", false)
def tyJ2 : Nat → FieldType := fun k => match k with
  | _ => .int
theorem nmJ2 : ∀ a, a < 0 → ∀ b, b < 0 → a ≠ b → (TJ2 a).2.1 ≠ (TJ2 b).2.1 := by decide +kernel
theorem tyJ2_ok : ∀ k, k < 0 → parseFieldDescriptor (TJ2 k).2.2.1 = some (tyJ2 k) := by decide +kernel
abbrev cJ2_getChar_3b067 : ByteArray := prog_19_method_5_code
def yJ2_getChar_3b067 : MethodName := ⟨RJ2, "getChar", "([BI)C"⟩
abbrev cJ2_length_9d52b : ByteArray := prog_19_method_6_code
def yJ2_length_9d52b : MethodName := ⟨RJ2, "length", "([B)I"⟩
abbrev cJ2_charAt_3b067 : ByteArray := prog_19_method_83_code
def yJ2_charAt_3b067 : MethodName := ⟨RJ2, "charAt", "([BI)C"⟩
abbrev cJ2_checkIndex_2214a : ByteArray := prog_19_method_91_code
def yJ2_checkIndex_2214a : MethodName := ⟨RJ2, "checkIndex", "(I[B)V"⟩
def RJ3 : String := "jdk/internal/util/Preconditions"
def TJ3 : u_T := fun k => match k with
  | _ => ("", "", "", false)
def tyJ3 : Nat → FieldType := fun k => match k with
  | _ => .int
theorem nmJ3 : ∀ a, a < 0 → ∀ b, b < 0 → a ≠ b → (TJ3 a).2.1 ≠ (TJ3 b).2.1 := by decide +kernel
theorem tyJ3_ok : ∀ k, k < 0 → parseFieldDescriptor (TJ3 k).2.2.1 = some (tyJ3 k) := by decide +kernel
abbrev cJ3_checkIndex_8e157 : ByteArray := prog_20_method_11_code
def yJ3_checkIndex_8e157 : MethodName := ⟨RJ3, "checkIndex", "(IILjava/util/function/BiFunction;)I"⟩
def RL : String := "GoldenRowsLaw"
abbrev cL_law : ByteArray := code
def yL_law : MethodName := ⟨RL, "law", "([I)Z"⟩
abbrev classes : List vw_C := [(RX0, TX0, 8), (RX1, TX1, 6), (RX2, TX2, 2), (RX3, TX3, 15), (RX4, TX4, 4), (RX5, TX5, 6), (RX6, TX6, 7), (RX7, TX7, 7), (RX8, TX8, 8), (RX9, TX9, 2), (RX10, TX10, 4), (RX11, TX11, 18), (RX12, TX12, 83)]
def fTL : List (List Nat) := [[0, 0, 0, 3, 3, 3, 3, 3], [0, 3, 3, 3, 3, 3], [0, 0], [1, 0, 0, 0, 3, 3, 3, 3, 3, 3, 3, 3, 3, 3, 3], [0, 3, 3, 3], [0, 0, 3, 3, 3, 3], [0, 0, 0, 0, 0, 3, 3], [0, 3, 3, 3, 3, 3, 3], [0, 0, 0, 0, 3, 3, 3, 3], [3, 3], [0, 3, 3, 3], [0, 1, 1, 3, 3, 3, 3, 3, 3, 3, 3, 3, 3, 3, 3, 3, 3, 3], [0, 3, 3, 3, 0, 0, 3, 3, 3, 3, 3, 3, 3, 3, 3, 3, 3, 3, 3, 3, 0, 3, 3, 3, 3, 3, 0, 0, 0, 3, 0, 0, 0, 0, 0, 0, 0, 0, 2, 3, 0, 0, 3, 0, 0, 3, 3, 3, 3, 3, 3, 3, 3, 3, 3, 0, 0, 0, 1, 3, 3, 3, 3, 3, 3, 3, 3, 0, 0, 0, 3, 3, 3, 3, 3, 0, 0, 3, 3, 3, 3, 3, 3]]
def strB : List (List Int) := [[98, 97, 114], [108, 105, 110, 107], [119, 104, 101, 110], [110, 111, 116], [115, 111, 117, 114, 99, 101], [108, 97, 99, 107, 115], [110, 101, 97, 114], [115, 97, 109, 101], [111, 114], [97, 110, 100]]
def strN : List (Nat × String) := [(42, "bar"), (48, "link"), (60, "when"), (81, "not"), (86, "source"), (88, "lacks"), (90, "near"), (92, "same"), (73, "or"), (75, "and")]
end
section
-- THE ABSTRACT MACHINE: values, worlds, one step of straight code, branches, calls; no proofs of the real machine here
abbrev AV : Type := Int ⊕ (Int ⊕ Option Nat)
abbrev vI (x : Int) : AV := Sum.inl x
abbrev vL (x : Int) : AV := Sum.inr (Sum.inl x)
abbrev vR (r : Nat) : AV := Sum.inr (Sum.inr (some r))
abbrev vO (r : Option Nat) : AV := Sum.inr (Sum.inr r)
/-- a world: its cells' kinds ((0, class, fields) or (1, kind of element, length)), its ints, its longs, its references -/
abbrev AW : Type := List (Nat × Nat × Nat) × (Nat → Nat → Int) × (Nat → Nat → Int) × (Nat → Nat → Option Nat)
/-- place in the code, locals, operands, world -/
abbrev AS : Type := Nat × List (Option AV) × List AV × AW
/-- place, instruction, length, a number, two places -/
abbrev AE : Type := Nat × Instr × Nat × Int × Nat × Nat
/-- the script: its length and its ints -/
abbrev AX : Type := Nat × (Nat → Int32)
end
section
-- DATA: the code of every method, by program
def cd0 : List AE := [(0, .aload_n 0, 1, 0, 0, 0), (1, .invokespecial 3, 3, 0, 990, 0), (4, .aload_n 0, 1, 0, 0, 0), (5, .bipush 10, 2, 0, 0, 0), (7, .newarray .int, 2, 0, 0, 0), (9, .putfield 9, 3, 0, 0, 3), (12, .aload_n 0, 1, 0, 0, 0), (13, .bipush 10, 2, 0, 0, 0), (15, .newarray .int, 2, 0, 0, 0), (17, .putfield 15, 3, 0, 0, 4), (20, .aload_n 0, 1, 0, 0, 0), (21, .sipush 250, 3, 0, 0, 0), (24, .newarray .int, 2, 0, 0, 0), (26, .putfield 18, 3, 0, 0, 5), (29, .aload_n 0, 1, 0, 0, 0), (30, .sipush 250, 3, 0, 0, 0), (33, .newarray .int, 2, 0, 0, 0), (35, .putfield 21, 3, 0, 0, 6), (38, .aload_n 0, 1, 0, 0, 0), (39, .sipush 250, 3, 0, 0, 0), (42, .newarray .int, 2, 0, 0, 0), (44, .putfield 24, 3, 0, 0, 7), (47, .return_, 1, 0, 0, 0)] -- X0_init
def cd1 : List AE := [(0, .aload_n 0, 1, 0, 0, 0), (1, .iconst 0, 1, 0, 0, 0), (2, .putfield 27, 3, 0, 0, 0), (5, .aload_n 0, 1, 0, 0, 0), (6, .iconst 0, 1, 0, 0, 0), (7, .putfield 31, 3, 0, 0, 1), (10, .aload_n 0, 1, 0, 0, 0), (11, .iconst 0, 1, 0, 0, 0), (12, .putfield 34, 3, 0, 0, 2), (15, .return_, 1, 0, 0, 0)] -- X0_clear
def cd2 : List AE := [(0, .aload_n 0, 1, 0, 0, 0), (1, .getfield 34, 3, 0, 0, 2), (4, .sipush 250, 3, 0, 0, 0), (7, .if_icmp .ge 43, 3, 0, 0, 0), (10, .aload_n 0, 1, 0, 0, 0), (11, .getfield 18, 3, 0, 0, 5), (14, .aload_n 0, 1, 0, 0, 0), (15, .getfield 34, 3, 0, 0, 2), (18, .iload_n 1, 1, 0, 0, 0), (19, .iastore, 1, 0, 0, 0), (20, .aload_n 0, 1, 0, 0, 0), (21, .getfield 21, 3, 0, 0, 6), (24, .aload_n 0, 1, 0, 0, 0), (25, .getfield 34, 3, 0, 0, 2), (28, .iload_n 2, 1, 0, 0, 0), (29, .iastore, 1, 0, 0, 0), (30, .aload_n 0, 1, 0, 0, 0), (31, .getfield 24, 3, 0, 0, 7), (34, .aload_n 0, 1, 0, 0, 0), (35, .getfield 34, 3, 0, 0, 2), (38, .iload_n 3, 1, 0, 0, 0), (39, .iastore, 1, 0, 0, 0), (40, .aload_n 0, 1, 0, 0, 0), (41, .dup, 1, 0, 0, 0), (42, .getfield 34, 3, 0, 0, 2), (45, .iconst 1, 1, 0, 0, 0), (46, .iadd, 1, 0, 0, 0), (47, .putfield 34, 3, 0, 0, 2), (50, .return_, 1, 0, 0, 0)] -- X0_addStep
def cd3 : List AE := [(0, .aload_n 0, 1, 0, 0, 0), (1, .getfield 27, 3, 0, 0, 0), (4, .bipush 10, 2, 0, 0, 0), (6, .if_icmp .ge 36, 3, 0, 0, 0), (9, .aload_n 0, 1, 0, 0, 0), (10, .getfield 9, 3, 0, 0, 3), (13, .aload_n 0, 1, 0, 0, 0), (14, .getfield 27, 3, 0, 0, 0), (17, .iload_n 1, 1, 0, 0, 0), (18, .iastore, 1, 0, 0, 0), (19, .aload_n 0, 1, 0, 0, 0), (20, .getfield 15, 3, 0, 0, 4), (23, .aload_n 0, 1, 0, 0, 0), (24, .getfield 27, 3, 0, 0, 0), (27, .aload_n 0, 1, 0, 0, 0), (28, .getfield 34, 3, 0, 0, 2), (31, .iastore, 1, 0, 0, 0), (32, .aload_n 0, 1, 0, 0, 0), (33, .dup, 1, 0, 0, 0), (34, .getfield 27, 3, 0, 0, 0), (37, .iconst 1, 1, 0, 0, 0), (38, .iadd, 1, 0, 0, 0), (39, .putfield 27, 3, 0, 0, 0), (42, .return_, 1, 0, 0, 0)] -- X0_closeLine
def cd4 : List AE := [(0, .iconst 0, 1, 0, 0, 0), (1, .istore 5, 2, 0, 0, 0), (3, .iconst 0, 1, 0, 0, 0), (4, .istore 6, 2, 0, 0, 0), (6, .iconst 0, 1, 0, 0, 0), (7, .istore 7, 2, 0, 0, 0), (9, .iload 7, 2, 0, 0, 0), (11, .aload_n 0, 1, 0, 0, 0), (12, .getfield 27, 3, 0, 0, 0), (15, .if_icmp .ge 51, 3, 0, 0, 0), (18, .aload_n 0, 1, 0, 0, 0), (19, .iload 6, 2, 0, 0, 0), (21, .aload_n 0, 1, 0, 0, 0), (22, .getfield 15, 3, 0, 0, 4), (25, .iload 7, 2, 0, 0, 0), (27, .iaload, 1, 0, 0, 0), (28, .aload_n 1, 1, 0, 0, 0), (29, .aload_n 2, 1, 0, 0, 0), (30, .iload_n 3, 1, 0, 0, 0), (31, .iload 4, 2, 0, 0, 0), (33, .invokevirtual 37, 3, 0, 5, 0), (36, .ifCond .eq 15, 3, 0, 0, 0), (39, .iload 5, 2, 0, 0, 0), (41, .aload_n 0, 1, 0, 0, 0), (42, .getfield 9, 3, 0, 0, 3), (45, .iload 7, 2, 0, 0, 0), (47, .iaload, 1, 0, 0, 0), (48, .iadd, 1, 0, 0, 0), (49, .istore 5, 2, 0, 0, 0), (51, .aload_n 0, 1, 0, 0, 0), (52, .getfield 15, 3, 0, 0, 4), (55, .iload 7, 2, 0, 0, 0), (57, .iaload, 1, 0, 0, 0), (58, .istore 6, 2, 0, 0, 0), (60, .iinc 7 1, 3, 0, 0, 0), (63, .goto (-54), 3, 0, 0, 0), (66, .iload 5, 2, 0, 0, 0), (68, .ireturn, 1, 0, 0, 0)] -- X0_sum
def cd5 : List AE := [(0, .lconst 0, 1, 0, 0, 0), (1, .lstore 7, 2, 0, 0, 0), (3, .iload_n 1, 1, 0, 0, 0), (4, .istore 9, 2, 0, 0, 0), (6, .iload 9, 2, 0, 0, 0), (8, .iload_n 2, 1, 0, 0, 0), (9, .if_icmp .ge 108, 3, 0, 0, 0), (12, .aload_n 0, 1, 0, 0, 0), (13, .getfield 18, 3, 0, 0, 5), (16, .iload 9, 2, 0, 0, 0), (18, .iaload, 1, 0, 0, 0), (19, .tableswitch 64 3 5 #[25, 34, 50], 25, 0, 0, 0), (44, .lload 7, 2, 0, 0, 0), (46, .lconst 1, 1, 0, 0, 0), (47, .lxor, 1, 0, 0, 0), (48, .lstore 7, 2, 0, 0, 0), (50, .goto 61, 3, 0, 0, 0), (53, .lload 7, 2, 0, 0, 0), (55, .iconst 1, 1, 0, 0, 0), (56, .lushr, 1, 0, 0, 0), (57, .lload 7, 2, 0, 0, 0), (59, .ldc2_w 41, 3, (-2), 0, 0), (62, .lor, 1, 0, 0, 0), (63, .land, 1, 0, 0, 0), (64, .lstore 7, 2, 0, 0, 0), (66, .goto 45, 3, 0, 0, 0), (69, .lload 7, 2, 0, 0, 0), (71, .iconst 1, 1, 0, 0, 0), (72, .lushr, 1, 0, 0, 0), (73, .lload 7, 2, 0, 0, 0), (75, .lconst 1, 1, 0, 0, 0), (76, .land, 1, 0, 0, 0), (77, .lor, 1, 0, 0, 0), (78, .lstore 7, 2, 0, 0, 0), (80, .goto 31, 3, 0, 0, 0), (83, .lload 7, 2, 0, 0, 0), (85, .iconst 1, 1, 0, 0, 0), (86, .lshl, 1, 0, 0, 0), (87, .aload_n 0, 1, 0, 0, 0), (88, .iload 9, 2, 0, 0, 0), (90, .aload_n 3, 1, 0, 0, 0), (91, .aload 4, 2, 0, 0, 0), (93, .iload 5, 2, 0, 0, 0), (95, .iload 6, 2, 0, 0, 0), (97, .invokevirtual 43, 3, 0, 6, 0), (100, .ifCond .eq 7, 3, 0, 0, 0), (103, .lconst 1, 1, 0, 0, 0), (104, .goto 4, 3, 0, 0, 0), (107, .lconst 0, 1, 0, 0, 0), (108, .lor, 1, 0, 0, 0), (109, .lstore 7, 2, 0, 0, 0), (111, .iinc 9 1, 3, 0, 0, 0), (114, .goto (-108), 3, 0, 0, 0), (117, .lload 7, 2, 0, 0, 0), (119, .lconst 1, 1, 0, 0, 0), (120, .land, 1, 0, 0, 0), (121, .lconst 1, 1, 0, 0, 0), (122, .lcmp, 1, 0, 0, 0), (123, .ifCond .ne 7, 3, 0, 0, 0), (126, .iconst 1, 1, 0, 0, 0), (127, .goto 4, 3, 0, 0, 0), (130, .iconst 0, 1, 0, 0, 0), (131, .ireturn, 1, 0, 0, 0)] -- X0_isMet
def cd6 : List AE := [(0, .aload_n 0, 1, 0, 0, 0), (1, .getfield 18, 3, 0, 0, 5), (4, .iload_n 1, 1, 0, 0, 0), (5, .iaload, 1, 0, 0, 0), (6, .iconst 2, 1, 0, 0, 0), (7, .if_icmp .ne 26, 3, 0, 0, 0), (10, .aload_n 3, 1, 0, 0, 0), (11, .getfield 47, 3, 0, 4, 1), (14, .iload 4, 2, 0, 0, 0), (16, .iaload, 1, 0, 0, 0), (17, .aload_n 3, 1, 0, 0, 0), (18, .getfield 47, 3, 0, 4, 1), (21, .iload 5, 2, 0, 0, 0), (23, .iaload, 1, 0, 0, 0), (24, .if_icmp .ne 7, 3, 0, 0, 0), (27, .iconst 1, 1, 0, 0, 0), (28, .goto 4, 3, 0, 0, 0), (31, .iconst 0, 1, 0, 0, 0), (32, .ireturn, 1, 0, 0, 0), (33, .aload_n 2, 1, 0, 0, 0), (34, .getfield 52, 3, 0, 5, 3), (37, .iload 4, 2, 0, 0, 0), (39, .bipush 6, 2, 0, 0, 0), (41, .imul, 1, 0, 0, 0), (42, .aload_n 0, 1, 0, 0, 0), (43, .getfield 21, 3, 0, 0, 6), (46, .iload_n 1, 1, 0, 0, 0), (47, .iaload, 1, 0, 0, 0), (48, .iadd, 1, 0, 0, 0), (49, .iaload, 1, 0, 0, 0), (50, .istore 6, 2, 0, 0, 0), (52, .aload_n 2, 1, 0, 0, 0), (53, .getfield 52, 3, 0, 5, 3), (56, .iload 5, 2, 0, 0, 0), (58, .bipush 6, 2, 0, 0, 0), (60, .imul, 1, 0, 0, 0), (61, .aload_n 0, 1, 0, 0, 0), (62, .getfield 21, 3, 0, 0, 6), (65, .iload_n 1, 1, 0, 0, 0), (66, .iaload, 1, 0, 0, 0), (67, .iadd, 1, 0, 0, 0), (68, .iaload, 1, 0, 0, 0), (69, .istore 7, 2, 0, 0, 0), (71, .iload 6, 2, 0, 0, 0), (73, .iconst (-1), 1, 0, 0, 0), (74, .if_icmp .eq 9, 3, 0, 0, 0), (77, .iload 7, 2, 0, 0, 0), (79, .iconst (-1), 1, 0, 0, 0), (80, .if_icmp .ne 7, 3, 0, 0, 0), (83, .iconst 1, 1, 0, 0, 0), (84, .goto 4, 3, 0, 0, 0), (87, .iconst 0, 1, 0, 0, 0), (88, .istore 8, 2, 0, 0, 0), (90, .aload_n 0, 1, 0, 0, 0), (91, .getfield 18, 3, 0, 0, 5), (94, .iload_n 1, 1, 0, 0, 0), (95, .iaload, 1, 0, 0, 0), (96, .iconst 1, 1, 0, 0, 0), (97, .if_icmp .ne 6, 3, 0, 0, 0), (100, .iload 8, 2, 0, 0, 0), (102, .ireturn, 1, 0, 0, 0), (103, .iload 8, 2, 0, 0, 0), (105, .ifCond .ne 35, 3, 0, 0, 0), (108, .iload 6, 2, 0, 0, 0), (110, .iload 7, 2, 0, 0, 0), (112, .isub, 1, 0, 0, 0), (113, .aload_n 0, 1, 0, 0, 0), (114, .getfield 24, 3, 0, 0, 7), (117, .iload_n 1, 1, 0, 0, 0), (118, .iaload, 1, 0, 0, 0), (119, .if_icmp .gt 21, 3, 0, 0, 0), (122, .iload 7, 2, 0, 0, 0), (124, .iload 6, 2, 0, 0, 0), (126, .isub, 1, 0, 0, 0), (127, .aload_n 0, 1, 0, 0, 0), (128, .getfield 24, 3, 0, 0, 7), (131, .iload_n 1, 1, 0, 0, 0), (132, .iaload, 1, 0, 0, 0), (133, .if_icmp .gt 7, 3, 0, 0, 0), (136, .iconst 1, 1, 0, 0, 0), (137, .goto 4, 3, 0, 0, 0), (140, .iconst 0, 1, 0, 0, 0), (141, .ireturn, 1, 0, 0, 0)] -- X0_isTestMet
def cd7 : List AE := [(0, .aload_n 0, 1, 0, 0, 0), (1, .invokespecial 3, 3, 0, 990, 0), (4, .iload_n 1, 1, 0, 0, 0), (5, .iconst 0, 1, 0, 0, 0), (6, .invokestatic 9, 3, 0, 991, 0), (9, .istore_n 2, 1, 0, 0, 0), (10, .aload_n 0, 1, 0, 0, 0), (11, .iload_n 2, 1, 0, 0, 0), (12, .newarray .int, 2, 0, 0, 0), (14, .putfield 15, 3, 0, 1, 1), (17, .aload_n 0, 1, 0, 0, 0), (18, .iload_n 2, 1, 0, 0, 0), (19, .newarray .int, 2, 0, 0, 0), (21, .putfield 21, 3, 0, 1, 2), (24, .aload_n 0, 1, 0, 0, 0), (25, .iload_n 2, 1, 0, 0, 0), (26, .newarray .int, 2, 0, 0, 0), (28, .putfield 24, 3, 0, 1, 3), (31, .aload_n 0, 1, 0, 0, 0), (32, .iload_n 2, 1, 0, 0, 0), (33, .newarray .int, 2, 0, 0, 0), (35, .putfield 27, 3, 0, 1, 4), (38, .aload_n 0, 1, 0, 0, 0), (39, .iload_n 2, 1, 0, 0, 0), (40, .newarray .int, 2, 0, 0, 0), (42, .putfield 30, 3, 0, 1, 5), (45, .return_, 1, 0, 0, 0)] -- X1_init
def cd8 : List AE := [(0, .aload_n 0, 1, 0, 0, 0), (1, .getfield 33, 3, 0, 1, 0), (4, .istore 5, 2, 0, 0, 0), (6, .iload 5, 2, 0, 0, 0), (8, .aload_n 0, 1, 0, 0, 0), (9, .getfield 15, 3, 0, 1, 1), (12, .arraylength, 1, 0, 0, 0), (13, .if_icmp .lt 5, 3, 0, 0, 0), (16, .iconst (-1), 1, 0, 0, 0), (17, .ireturn, 1, 0, 0, 0), (18, .aload_n 0, 1, 0, 0, 0), (19, .getfield 15, 3, 0, 1, 1), (22, .iload 5, 2, 0, 0, 0), (24, .iload_n 1, 1, 0, 0, 0), (25, .iastore, 1, 0, 0, 0), (26, .aload_n 0, 1, 0, 0, 0), (27, .getfield 21, 3, 0, 1, 2), (30, .iload 5, 2, 0, 0, 0), (32, .iload_n 2, 1, 0, 0, 0), (33, .iastore, 1, 0, 0, 0), (34, .aload_n 0, 1, 0, 0, 0), (35, .getfield 24, 3, 0, 1, 3), (38, .iload 5, 2, 0, 0, 0), (40, .iload_n 3, 1, 0, 0, 0), (41, .iastore, 1, 0, 0, 0), (42, .aload_n 0, 1, 0, 0, 0), (43, .getfield 27, 3, 0, 1, 4), (46, .iload 5, 2, 0, 0, 0), (48, .iload 4, 2, 0, 0, 0), (50, .iastore, 1, 0, 0, 0), (51, .aload_n 0, 1, 0, 0, 0), (52, .getfield 30, 3, 0, 1, 5), (55, .iload 5, 2, 0, 0, 0), (57, .iconst (-1), 1, 0, 0, 0), (58, .iastore, 1, 0, 0, 0), (59, .aload_n 0, 1, 0, 0, 0), (60, .dup, 1, 0, 0, 0), (61, .getfield 33, 3, 0, 1, 0), (64, .iconst 1, 1, 0, 0, 0), (65, .iadd, 1, 0, 0, 0), (66, .putfield 33, 3, 0, 1, 0), (69, .iload 5, 2, 0, 0, 0), (71, .ireturn, 1, 0, 0, 0)] -- X1_tell
def cd9 : List AE := [(0, .iload_n 1, 1, 0, 0, 0), (1, .ifCond .lt 21, 3, 0, 0, 0), (4, .iload_n 1, 1, 0, 0, 0), (5, .aload_n 0, 1, 0, 0, 0), (6, .getfield 33, 3, 0, 1, 0), (9, .if_icmp .ge 13, 3, 0, 0, 0), (12, .aload_n 0, 1, 0, 0, 0), (13, .getfield 30, 3, 0, 1, 5), (16, .iload_n 1, 1, 0, 0, 0), (17, .iaload, 1, 0, 0, 0), (18, .iconst (-1), 1, 0, 0, 0), (19, .if_icmp .eq 5, 3, 0, 0, 0), (22, .iconst 0, 1, 0, 0, 0), (23, .ireturn, 1, 0, 0, 0), (24, .aload_n 0, 1, 0, 0, 0), (25, .getfield 30, 3, 0, 1, 5), (28, .iload_n 1, 1, 0, 0, 0), (29, .iload_n 2, 1, 0, 0, 0), (30, .iastore, 1, 0, 0, 0), (31, .iconst 1, 1, 0, 0, 0), (32, .ireturn, 1, 0, 0, 0)] -- X1_untell
def cd10 : List AE := [(0, .iload_n 1, 1, 0, 0, 0), (1, .ifCond .lt 11, 3, 0, 0, 0), (4, .iload_n 1, 1, 0, 0, 0), (5, .aload_n 0, 1, 0, 0, 0), (6, .getfield 33, 3, 0, 1, 0), (9, .if_icmp .lt 5, 3, 0, 0, 0), (12, .iconst 0, 1, 0, 0, 0), (13, .ireturn, 1, 0, 0, 0), (14, .aload_n 0, 1, 0, 0, 0), (15, .getfield 27, 3, 0, 1, 4), (18, .iload_n 1, 1, 0, 0, 0), (19, .iaload, 1, 0, 0, 0), (20, .iload_n 2, 1, 0, 0, 0), (21, .if_icmp .gt 27, 3, 0, 0, 0), (24, .aload_n 0, 1, 0, 0, 0), (25, .getfield 30, 3, 0, 1, 5), (28, .iload_n 1, 1, 0, 0, 0), (29, .iaload, 1, 0, 0, 0), (30, .iconst (-1), 1, 0, 0, 0), (31, .if_icmp .eq 13, 3, 0, 0, 0), (34, .aload_n 0, 1, 0, 0, 0), (35, .getfield 30, 3, 0, 1, 5), (38, .iload_n 1, 1, 0, 0, 0), (39, .iaload, 1, 0, 0, 0), (40, .iload_n 2, 1, 0, 0, 0), (41, .if_icmp .le 7, 3, 0, 0, 0), (44, .iconst 1, 1, 0, 0, 0), (45, .goto 4, 3, 0, 0, 0), (48, .iconst 0, 1, 0, 0, 0), (49, .ireturn, 1, 0, 0, 0)] -- X1_isHeld
def cd11 : List AE := [(0, .aload_n 0, 1, 0, 0, 0), (1, .invokespecial 3, 3, 0, 990, 0), (4, .aload_n 0, 1, 0, 0, 0), (5, .iconst (-1), 1, 0, 0, 0), (6, .putfield 9, 3, 0, 2, 1), (9, .return_, 1, 0, 0, 0)] -- X2_init
def cd12 : List AE := [(0, .aload_n 0, 1, 0, 0, 0), (1, .iconst 0, 1, 0, 0, 0), (2, .putfield 15, 3, 0, 2, 0), (5, .aload_n 0, 1, 0, 0, 0), (6, .iconst (-1), 1, 0, 0, 0), (7, .putfield 9, 3, 0, 2, 1), (10, .aload_n 2, 1, 0, 0, 0), (11, .invokevirtual 18, 3, 0, 1, 0), (14, .aload_n 1, 1, 0, 0, 0), (15, .invokevirtual 23, 3, 0, 41, 0), (18, .iconst 0, 1, 0, 0, 0), (19, .istore_n 3, 1, 0, 0, 0), (20, .iload_n 3, 1, 0, 0, 0), (21, .bipush 10, 2, 0, 0, 0), (23, .if_icmp .gt 40, 3, 0, 0, 0), (26, .aload_n 1, 1, 0, 0, 0), (27, .getfield 28, 3, 0, 6, 1), (30, .ifCond .eq 33, 3, 0, 0, 0), (33, .iload_n 3, 1, 0, 0, 0), (34, .bipush 10, 2, 0, 0, 0), (36, .if_icmp .ne 10, 3, 0, 0, 0), (39, .aload_n 0, 1, 0, 0, 0), (40, .aload_n 1, 1, 0, 0, 0), (41, .iconst 2, 1, 0, 0, 0), (42, .invokevirtual 31, 3, 0, 13, 0), (45, .ireturn, 1, 0, 0, 0), (46, .aload_n 0, 1, 0, 0, 0), (47, .aload_n 1, 1, 0, 0, 0), (48, .aload_n 2, 1, 0, 0, 0), (49, .invokevirtual 35, 3, 0, 14, 0), (52, .ifCond .ne 5, 3, 0, 0, 0), (55, .iconst 0, 1, 0, 0, 0), (56, .ireturn, 1, 0, 0, 0), (57, .iinc 3 1, 3, 0, 0, 0), (60, .goto (-40), 3, 0, 0, 0), (63, .iconst 1, 1, 0, 0, 0), (64, .ireturn, 1, 0, 0, 0)] -- X2_readAll
def cd13 : List AE := [(0, .aload_n 0, 1, 0, 0, 0), (1, .aload_n 1, 1, 0, 0, 0), (2, .getfield 28, 3, 0, 6, 1), (5, .iconst 1, 1, 0, 0, 0), (6, .if_icmp .ne 7, 3, 0, 0, 0), (9, .iconst 1, 1, 0, 0, 0), (10, .goto 4, 3, 0, 0, 0), (13, .iload_n 2, 1, 0, 0, 0), (14, .putfield 15, 3, 0, 2, 0), (17, .aload_n 0, 1, 0, 0, 0), (18, .aload_n 1, 1, 0, 0, 0), (19, .getfield 39, 3, 0, 6, 2), (22, .putfield 9, 3, 0, 2, 1), (25, .iconst 0, 1, 0, 0, 0), (26, .ireturn, 1, 0, 0, 0)] -- X2_stop
def cd14 : List AE := [(0, .aload_n 1, 1, 0, 0, 0), (1, .ldc 42, 2, 0, 1, 0), (3, .invokevirtual 44, 3, 0, 45, 0), (6, .istore_n 3, 1, 0, 0, 0), (7, .iload_n 3, 1, 0, 0, 0), (8, .ifCond .ne 19, 3, 0, 0, 0), (11, .aload_n 1, 1, 0, 0, 0), (12, .ldc 48, 2, 0, 1, 1), (14, .invokevirtual 44, 3, 0, 45, 0), (17, .ifCond .ne 10, 3, 0, 0, 0), (20, .aload_n 0, 1, 0, 0, 0), (21, .aload_n 1, 1, 0, 0, 0), (22, .iconst 2, 1, 0, 0, 0), (23, .invokevirtual 31, 3, 0, 13, 0), (26, .ireturn, 1, 0, 0, 0), (27, .aload_n 1, 1, 0, 0, 0), (28, .invokevirtual 50, 3, 0, 42, 0), (31, .aload_n 0, 1, 0, 0, 0), (32, .aload_n 1, 1, 0, 0, 0), (33, .iconst 1, 1, 0, 0, 0), (34, .sipush 1000, 3, 0, 0, 0), (37, .invokevirtual 53, 3, 0, 15, 0), (40, .ifCond .ne 5, 3, 0, 0, 0), (43, .iconst 0, 1, 0, 0, 0), (44, .ireturn, 1, 0, 0, 0), (45, .aload_n 1, 1, 0, 0, 0), (46, .getfield 57, 3, 0, 6, 3), (49, .istore 4, 2, 0, 0, 0), (51, .aload_n 1, 1, 0, 0, 0), (52, .invokevirtual 50, 3, 0, 42, 0), (55, .aload_n 1, 1, 0, 0, 0), (56, .ldc 60, 2, 0, 1, 2), (58, .invokevirtual 44, 3, 0, 45, 0), (61, .ifCond .ne 10, 3, 0, 0, 0), (64, .aload_n 0, 1, 0, 0, 0), (65, .aload_n 1, 1, 0, 0, 0), (66, .iconst 2, 1, 0, 0, 0), (67, .invokevirtual 31, 3, 0, 13, 0), (70, .ireturn, 1, 0, 0, 0), (71, .aload_n 1, 1, 0, 0, 0), (72, .invokevirtual 50, 3, 0, 42, 0), (75, .aload_n 0, 1, 0, 0, 0), (76, .aload_n 1, 1, 0, 0, 0), (77, .aload_n 2, 1, 0, 0, 0), (78, .iconst 0, 1, 0, 0, 0), (79, .invokevirtual 62, 3, 0, 16, 0), (82, .ifCond .ne 5, 3, 0, 0, 0), (85, .iconst 0, 1, 0, 0, 0), (86, .ireturn, 1, 0, 0, 0), (87, .aload_n 1, 1, 0, 0, 0), (88, .getfield 28, 3, 0, 6, 1), (91, .bipush 59, 2, 0, 0, 0), (93, .if_icmp .eq 10, 3, 0, 0, 0), (96, .aload_n 0, 1, 0, 0, 0), (97, .aload_n 1, 1, 0, 0, 0), (98, .iconst 2, 1, 0, 0, 0), (99, .invokevirtual 31, 3, 0, 13, 0), (102, .ireturn, 1, 0, 0, 0), (103, .aload_n 1, 1, 0, 0, 0), (104, .invokevirtual 50, 3, 0, 42, 0), (107, .aload_n 2, 1, 0, 0, 0), (108, .iload_n 3, 1, 0, 0, 0), (109, .ifCond .eq 9, 3, 0, 0, 0), (112, .iload 4, 2, 0, 0, 0), (114, .ineg, 1, 0, 0, 0), (115, .goto 5, 3, 0, 0, 0), (118, .iload 4, 2, 0, 0, 0), (120, .invokevirtual 66, 3, 0, 3, 0), (123, .iconst 1, 1, 0, 0, 0), (124, .ireturn, 1, 0, 0, 0)] -- X2_readLine
def cd15 : List AE := [(0, .aload_n 1, 1, 0, 0, 0), (1, .getfield 28, 3, 0, 6, 1), (4, .iconst 3, 1, 0, 0, 0), (5, .if_icmp .eq 10, 3, 0, 0, 0), (8, .aload_n 0, 1, 0, 0, 0), (9, .aload_n 1, 1, 0, 0, 0), (10, .iconst 2, 1, 0, 0, 0), (11, .invokevirtual 31, 3, 0, 13, 0), (14, .ireturn, 1, 0, 0, 0), (15, .aload_n 1, 1, 0, 0, 0), (16, .getfield 57, 3, 0, 6, 3), (19, .iload_n 2, 1, 0, 0, 0), (20, .if_icmp .lt 11, 3, 0, 0, 0), (23, .aload_n 1, 1, 0, 0, 0), (24, .getfield 57, 3, 0, 6, 3), (27, .iload_n 3, 1, 0, 0, 0), (28, .if_icmp .le 10, 3, 0, 0, 0), (31, .aload_n 0, 1, 0, 0, 0), (32, .aload_n 1, 1, 0, 0, 0), (33, .iconst 3, 1, 0, 0, 0), (34, .invokevirtual 31, 3, 0, 13, 0), (37, .ireturn, 1, 0, 0, 0), (38, .iconst 1, 1, 0, 0, 0), (39, .ireturn, 1, 0, 0, 0)] -- X2_readNumber
def cd16 : List AE := [(0, .aload_n 0, 1, 0, 0, 0), (1, .aload_n 1, 1, 0, 0, 0), (2, .aload_n 2, 1, 0, 0, 0), (3, .iload_n 3, 1, 0, 0, 0), (4, .invokevirtual 70, 3, 0, 17, 0), (7, .ifCond .ne 5, 3, 0, 0, 0), (10, .iconst 0, 1, 0, 0, 0), (11, .ireturn, 1, 0, 0, 0), (12, .iconst 0, 1, 0, 0, 0), (13, .istore 4, 2, 0, 0, 0), (15, .iconst 0, 1, 0, 0, 0), (16, .istore 5, 2, 0, 0, 0), (18, .iload 5, 2, 0, 0, 0), (20, .sipush 500, 3, 0, 0, 0), (23, .if_icmp .ge 87, 3, 0, 0, 0), (26, .aload_n 1, 1, 0, 0, 0), (27, .ldc 73, 2, 0, 1, 8), (29, .invokevirtual 44, 3, 0, 45, 0), (32, .ifCond .ne 12, 3, 0, 0, 0), (35, .aload_n 1, 1, 0, 0, 0), (36, .ldc 75, 2, 0, 1, 9), (38, .invokevirtual 44, 3, 0, 45, 0), (41, .ifCond .eq 69, 3, 0, 0, 0), (44, .aload_n 1, 1, 0, 0, 0), (45, .ldc 73, 2, 0, 1, 8), (47, .invokevirtual 44, 3, 0, 45, 0), (50, .istore 6, 2, 0, 0, 0), (52, .iload 6, 2, 0, 0, 0), (54, .ifCond .eq 15, 3, 0, 0, 0), (57, .iload 4, 2, 0, 0, 0), (59, .ifCond .eq 10, 3, 0, 0, 0), (62, .aload_n 2, 1, 0, 0, 0), (63, .iconst 5, 1, 0, 0, 0), (64, .iconst 0, 1, 0, 0, 0), (65, .iconst 0, 1, 0, 0, 0), (66, .invokevirtual 77, 3, 0, 2, 0), (69, .iload 4, 2, 0, 0, 0), (71, .iload 6, 2, 0, 0, 0), (73, .ior, 1, 0, 0, 0), (74, .istore 4, 2, 0, 0, 0), (76, .aload_n 1, 1, 0, 0, 0), (77, .invokevirtual 50, 3, 0, 42, 0), (80, .aload_n 0, 1, 0, 0, 0), (81, .aload_n 1, 1, 0, 0, 0), (82, .aload_n 2, 1, 0, 0, 0), (83, .iload_n 3, 1, 0, 0, 0), (84, .invokevirtual 70, 3, 0, 17, 0), (87, .ifCond .ne 5, 3, 0, 0, 0), (90, .iconst 0, 1, 0, 0, 0), (91, .ireturn, 1, 0, 0, 0), (92, .iload 6, 2, 0, 0, 0), (94, .ifCond .ne 10, 3, 0, 0, 0), (97, .aload_n 2, 1, 0, 0, 0), (98, .iconst 4, 1, 0, 0, 0), (99, .iconst 0, 1, 0, 0, 0), (100, .iconst 0, 1, 0, 0, 0), (101, .invokevirtual 77, 3, 0, 2, 0), (104, .iinc 5 1, 3, 0, 0, 0), (107, .goto (-89), 3, 0, 0, 0), (110, .iload 4, 2, 0, 0, 0), (112, .ifCond .eq 10, 3, 0, 0, 0), (115, .aload_n 2, 1, 0, 0, 0), (116, .iconst 5, 1, 0, 0, 0), (117, .iconst 0, 1, 0, 0, 0), (118, .iconst 0, 1, 0, 0, 0), (119, .invokevirtual 77, 3, 0, 2, 0), (122, .iconst 1, 1, 0, 0, 0), (123, .ireturn, 1, 0, 0, 0)] -- X2_readEither
def cd17 : List AE := [(0, .iload_n 3, 1, 0, 0, 0), (1, .bipush 8, 2, 0, 0, 0), (3, .if_icmp .lt 10, 3, 0, 0, 0), (6, .aload_n 0, 1, 0, 0, 0), (7, .aload_n 1, 1, 0, 0, 0), (8, .iconst 2, 1, 0, 0, 0), (9, .invokevirtual 31, 3, 0, 13, 0), (12, .ireturn, 1, 0, 0, 0), (13, .aload_n 1, 1, 0, 0, 0), (14, .ldc 81, 2, 0, 1, 3), (16, .invokevirtual 44, 3, 0, 45, 0), (19, .ifCond .eq 30, 3, 0, 0, 0), (22, .aload_n 1, 1, 0, 0, 0), (23, .invokevirtual 50, 3, 0, 42, 0), (26, .aload_n 0, 1, 0, 0, 0), (27, .aload_n 1, 1, 0, 0, 0), (28, .aload_n 2, 1, 0, 0, 0), (29, .iload_n 3, 1, 0, 0, 0), (30, .iconst 1, 1, 0, 0, 0), (31, .iadd, 1, 0, 0, 0), (32, .invokevirtual 70, 3, 0, 17, 0), (35, .ifCond .ne 5, 3, 0, 0, 0), (38, .iconst 0, 1, 0, 0, 0), (39, .ireturn, 1, 0, 0, 0), (40, .aload_n 2, 1, 0, 0, 0), (41, .iconst 3, 1, 0, 0, 0), (42, .iconst 0, 1, 0, 0, 0), (43, .iconst 0, 1, 0, 0, 0), (44, .invokevirtual 77, 3, 0, 2, 0), (47, .iconst 1, 1, 0, 0, 0), (48, .ireturn, 1, 0, 0, 0), (49, .aload_n 1, 1, 0, 0, 0), (50, .getfield 28, 3, 0, 6, 1), (53, .bipush 40, 2, 0, 0, 0), (55, .if_icmp .eq 10, 3, 0, 0, 0), (58, .aload_n 0, 1, 0, 0, 0), (59, .aload_n 1, 1, 0, 0, 0), (60, .aload_n 2, 1, 0, 0, 0), (61, .invokevirtual 83, 3, 0, 18, 0), (64, .ireturn, 1, 0, 0, 0), (65, .aload_n 1, 1, 0, 0, 0), (66, .invokevirtual 50, 3, 0, 42, 0), (69, .aload_n 0, 1, 0, 0, 0), (70, .aload_n 1, 1, 0, 0, 0), (71, .aload_n 2, 1, 0, 0, 0), (72, .iload_n 3, 1, 0, 0, 0), (73, .iconst 1, 1, 0, 0, 0), (74, .iadd, 1, 0, 0, 0), (75, .invokevirtual 62, 3, 0, 16, 0), (78, .ifCond .ne 5, 3, 0, 0, 0), (81, .iconst 0, 1, 0, 0, 0), (82, .ireturn, 1, 0, 0, 0), (83, .aload_n 1, 1, 0, 0, 0), (84, .getfield 28, 3, 0, 6, 1), (87, .bipush 41, 2, 0, 0, 0), (89, .if_icmp .eq 10, 3, 0, 0, 0), (92, .aload_n 0, 1, 0, 0, 0), (93, .aload_n 1, 1, 0, 0, 0), (94, .iconst 2, 1, 0, 0, 0), (95, .invokevirtual 31, 3, 0, 13, 0), (98, .ireturn, 1, 0, 0, 0), (99, .aload_n 1, 1, 0, 0, 0), (100, .invokevirtual 50, 3, 0, 42, 0), (103, .iconst 1, 1, 0, 0, 0), (104, .ireturn, 1, 0, 0, 0)] -- X2_readOne
def cd18 : List AE := [(0, .aload_n 1, 1, 0, 0, 0), (1, .ldc 86, 2, 0, 1, 4), (3, .invokevirtual 44, 3, 0, 45, 0), (6, .istore_n 3, 1, 0, 0, 0), (7, .aload_n 1, 1, 0, 0, 0), (8, .ldc 88, 2, 0, 1, 5), (10, .invokevirtual 44, 3, 0, 45, 0), (13, .istore 4, 2, 0, 0, 0), (15, .aload_n 1, 1, 0, 0, 0), (16, .ldc 90, 2, 0, 1, 6), (18, .invokevirtual 44, 3, 0, 45, 0), (21, .istore 5, 2, 0, 0, 0), (23, .iload_n 3, 1, 0, 0, 0), (24, .ifCond .ne 22, 3, 0, 0, 0), (27, .iload 4, 2, 0, 0, 0), (29, .ifCond .ne 17, 3, 0, 0, 0), (32, .iload 5, 2, 0, 0, 0), (34, .ifCond .ne 12, 3, 0, 0, 0), (37, .aload_n 1, 1, 0, 0, 0), (38, .ldc 92, 2, 0, 1, 7), (40, .invokevirtual 44, 3, 0, 45, 0), (43, .ifCond .eq 12, 3, 0, 0, 0), (46, .aload_n 2, 1, 0, 0, 0), (47, .getfield 94, 3, 0, 0, 1), (50, .bipush 60, 2, 0, 0, 0), (52, .if_icmp .lt 10, 3, 0, 0, 0), (55, .aload_n 0, 1, 0, 0, 0), (56, .aload_n 1, 1, 0, 0, 0), (57, .iconst 2, 1, 0, 0, 0), (58, .invokevirtual 31, 3, 0, 13, 0), (61, .ireturn, 1, 0, 0, 0), (62, .aload_n 2, 1, 0, 0, 0), (63, .dup, 1, 0, 0, 0), (64, .getfield 94, 3, 0, 0, 1), (67, .iconst 1, 1, 0, 0, 0), (68, .iadd, 1, 0, 0, 0), (69, .putfield 94, 3, 0, 0, 1), (72, .aload_n 1, 1, 0, 0, 0), (73, .invokevirtual 50, 3, 0, 42, 0), (76, .iload_n 3, 1, 0, 0, 0), (77, .ifCond .eq 12, 3, 0, 0, 0), (80, .aload_n 2, 1, 0, 0, 0), (81, .iconst 2, 1, 0, 0, 0), (82, .iconst 0, 1, 0, 0, 0), (83, .iconst 0, 1, 0, 0, 0), (84, .invokevirtual 77, 3, 0, 2, 0), (87, .iconst 1, 1, 0, 0, 0), (88, .ireturn, 1, 0, 0, 0), (89, .aload_n 0, 1, 0, 0, 0), (90, .aload_n 1, 1, 0, 0, 0), (91, .iconst 0, 1, 0, 0, 0), (92, .iconst 5, 1, 0, 0, 0), (93, .invokevirtual 53, 3, 0, 15, 0), (96, .ifCond .ne 5, 3, 0, 0, 0), (99, .iconst 0, 1, 0, 0, 0), (100, .ireturn, 1, 0, 0, 0), (101, .aload_n 1, 1, 0, 0, 0), (102, .getfield 57, 3, 0, 6, 3), (105, .istore 6, 2, 0, 0, 0), (107, .aload_n 1, 1, 0, 0, 0), (108, .invokevirtual 50, 3, 0, 42, 0), (111, .iconst 0, 1, 0, 0, 0), (112, .istore 7, 2, 0, 0, 0), (114, .iload 5, 2, 0, 0, 0), (116, .ifCond .eq 26, 3, 0, 0, 0), (119, .aload_n 0, 1, 0, 0, 0), (120, .aload_n 1, 1, 0, 0, 0), (121, .iconst 0, 1, 0, 0, 0), (122, .ldc 97, 2, 999999, 0, 0), (124, .invokevirtual 53, 3, 0, 15, 0), (127, .ifCond .ne 5, 3, 0, 0, 0), (130, .iconst 0, 1, 0, 0, 0), (131, .ireturn, 1, 0, 0, 0), (132, .aload_n 1, 1, 0, 0, 0), (133, .getfield 57, 3, 0, 6, 3), (136, .istore 7, 2, 0, 0, 0), (138, .aload_n 1, 1, 0, 0, 0), (139, .invokevirtual 50, 3, 0, 42, 0), (142, .aload_n 2, 1, 0, 0, 0), (143, .iload 4, 2, 0, 0, 0), (145, .ifCond .eq 7, 3, 0, 0, 0), (148, .iconst 1, 1, 0, 0, 0), (149, .goto 4, 3, 0, 0, 0), (152, .iconst 0, 1, 0, 0, 0), (153, .iload 6, 2, 0, 0, 0), (155, .iload 7, 2, 0, 0, 0), (157, .invokevirtual 77, 3, 0, 2, 0), (160, .iconst 1, 1, 0, 0, 0), (161, .ireturn, 1, 0, 0, 0)] -- X2_readTest
def cd19 : List AE := [(0, .aload_n 0, 1, 0, 0, 0), (1, .invokespecial 7, 3, 0, 990, 0), (4, .aload_n 0, 1, 0, 0, 0), (5, .bipush 10, 2, 0, 0, 0), (7, .newarray .int, 2, 0, 0, 0), (9, .putfield 13, 3, 0, 3, 4), (12, .aload_n 0, 1, 0, 0, 0), (13, .bipush 10, 2, 0, 0, 0), (15, .newarray .int, 2, 0, 0, 0), (17, .putfield 17, 3, 0, 3, 5), (20, .aload_n 0, 1, 0, 0, 0), (21, .bipush 10, 2, 0, 0, 0), (23, .newarray .int, 2, 0, 0, 0), (25, .putfield 20, 3, 0, 3, 6), (28, .aload_n 0, 1, 0, 0, 0), (29, .bipush 100, 2, 0, 0, 0), (31, .newarray .int, 2, 0, 0, 0), (33, .putfield 23, 3, 0, 3, 7), (36, .aload_n 0, 1, 0, 0, 0), (37, .bipush 10, 2, 0, 0, 0), (39, .newarray .int, 2, 0, 0, 0), (41, .putfield 26, 3, 0, 3, 8), (44, .aload_n 0, 1, 0, 0, 0), (45, .bipush 10, 2, 0, 0, 0), (47, .newarray .int, 2, 0, 0, 0), (49, .putfield 29, 3, 0, 3, 9), (52, .aload_n 0, 1, 0, 0, 0), (53, .sipush 512, 3, 0, 0, 0), (56, .newarray .int, 2, 0, 0, 0), (58, .putfield 32, 3, 0, 3, 10), (61, .aload_n 0, 1, 0, 0, 0), (62, .sipush 1024, 3, 0, 0, 0), (65, .newarray .int, 2, 0, 0, 0), (67, .putfield 35, 3, 0, 3, 11), (70, .aload_n 0, 1, 0, 0, 0), (71, .sipush 1024, 3, 0, 0, 0), (74, .newarray .int, 2, 0, 0, 0), (76, .putfield 38, 3, 0, 3, 12), (79, .aload_n 0, 1, 0, 0, 0), (80, .sipush 512, 3, 0, 0, 0), (83, .newarray .long, 2, 0, 0, 0), (85, .putfield 41, 3, 0, 3, 13), (88, .aload_n 0, 1, 0, 0, 0), (89, .sipush 512, 3, 0, 0, 0), (92, .newarray .long, 2, 0, 0, 0), (94, .putfield 45, 3, 0, 3, 14), (97, .return_, 1, 0, 0, 0)] -- X3_init
def cd20 : List AE := [(0, .iload_n 1, 1, 0, 0, 0), (1, .ifCond .lt 18, 3, 0, 0, 0), (4, .iload_n 1, 1, 0, 0, 0), (5, .bipush 10, 2, 0, 0, 0), (7, .if_icmp .ge 12, 3, 0, 0, 0), (10, .aload_n 0, 1, 0, 0, 0), (11, .getfield 13, 3, 0, 3, 4), (14, .iload_n 1, 1, 0, 0, 0), (15, .iaload, 1, 0, 0, 0), (16, .goto 4, 3, 0, 0, 0), (19, .iconst (-1), 1, 0, 0, 0), (20, .ireturn, 1, 0, 0, 0)] -- X3_personOf
def cd21 : List AE := [(0, .aload_n 0, 1, 0, 0, 0), (1, .iconst 0, 1, 0, 0, 0), (2, .putfield 48, 3, 0, 3, 3), (5, .bipush 9, 2, 0, 0, 0), (7, .istore_n 2, 1, 0, 0, 0), (8, .iload_n 2, 1, 0, 0, 0), (9, .ifCond .lt 82, 3, 0, 0, 0), (12, .aload_n 0, 1, 0, 0, 0), (13, .getfield 13, 3, 0, 3, 4), (16, .iload_n 2, 1, 0, 0, 0), (17, .iconst (-1), 1, 0, 0, 0), (18, .iastore, 1, 0, 0, 0), (19, .aload_n 0, 1, 0, 0, 0), (20, .getfield 20, 3, 0, 3, 6), (23, .iload_n 2, 1, 0, 0, 0), (24, .iconst (-1), 1, 0, 0, 0), (25, .iastore, 1, 0, 0, 0), (26, .aload_n 1, 1, 0, 0, 0), (27, .getfield 52, 3, 0, 5, 2), (30, .iload_n 2, 1, 0, 0, 0), (31, .baload, 1, 0, 0, 0), (32, .ifCond .eq 53, 3, 0, 0, 0), (35, .aload_n 0, 1, 0, 0, 0), (36, .getfield 20, 3, 0, 3, 6), (39, .iload_n 2, 1, 0, 0, 0), (40, .aload_n 0, 1, 0, 0, 0), (41, .getfield 48, 3, 0, 3, 3), (44, .iastore, 1, 0, 0, 0), (45, .aload_n 0, 1, 0, 0, 0), (46, .getfield 17, 3, 0, 3, 5), (49, .aload_n 0, 1, 0, 0, 0), (50, .getfield 48, 3, 0, 3, 3), (53, .iload_n 2, 1, 0, 0, 0), (54, .iastore, 1, 0, 0, 0), (55, .aload_n 0, 1, 0, 0, 0), (56, .getfield 26, 3, 0, 3, 8), (59, .aload_n 0, 1, 0, 0, 0), (60, .getfield 48, 3, 0, 3, 3), (63, .iconst 0, 1, 0, 0, 0), (64, .iastore, 1, 0, 0, 0), (65, .aload_n 0, 1, 0, 0, 0), (66, .getfield 29, 3, 0, 3, 9), (69, .aload_n 0, 1, 0, 0, 0), (70, .getfield 48, 3, 0, 3, 3), (73, .iconst 0, 1, 0, 0, 0), (74, .iastore, 1, 0, 0, 0), (75, .aload_n 0, 1, 0, 0, 0), (76, .dup, 1, 0, 0, 0), (77, .getfield 48, 3, 0, 3, 3), (80, .iconst 1, 1, 0, 0, 0), (81, .iadd, 1, 0, 0, 0), (82, .putfield 48, 3, 0, 3, 3), (85, .iinc 2 (-1), 3, 0, 0, 0), (88, .goto (-80), 3, 0, 0, 0), (91, .return_, 1, 0, 0, 0)] -- X3_gather
def cd22 : List AE := [(0, .iconst 0, 1, 0, 0, 0), (1, .istore_n 3, 1, 0, 0, 0), (2, .iload_n 3, 1, 0, 0, 0), (3, .aload_n 1, 1, 0, 0, 0), (4, .getfield 58, 3, 0, 1, 0), (7, .if_icmp .ge 103, 3, 0, 0, 0), (10, .aload_n 0, 1, 0, 0, 0), (11, .getfield 20, 3, 0, 3, 6), (14, .aload_n 1, 1, 0, 0, 0), (15, .getfield 63, 3, 0, 1, 1), (18, .iload_n 3, 1, 0, 0, 0), (19, .iaload, 1, 0, 0, 0), (20, .iaload, 1, 0, 0, 0), (21, .istore 4, 2, 0, 0, 0), (23, .aload_n 0, 1, 0, 0, 0), (24, .getfield 20, 3, 0, 3, 6), (27, .aload_n 1, 1, 0, 0, 0), (28, .getfield 66, 3, 0, 1, 2), (31, .iload_n 3, 1, 0, 0, 0), (32, .iaload, 1, 0, 0, 0), (33, .iaload, 1, 0, 0, 0), (34, .istore 5, 2, 0, 0, 0), (36, .iload 4, 2, 0, 0, 0), (38, .iconst (-1), 1, 0, 0, 0), (39, .if_icmp .eq 65, 3, 0, 0, 0), (42, .iload 5, 2, 0, 0, 0), (44, .iconst (-1), 1, 0, 0, 0), (45, .if_icmp .eq 59, 3, 0, 0, 0), (48, .aload_n 1, 1, 0, 0, 0), (49, .iload_n 3, 1, 0, 0, 0), (50, .iload_n 2, 1, 0, 0, 0), (51, .invokevirtual 69, 3, 0, 10, 0), (54, .ifCond .eq 50, 3, 0, 0, 0), (57, .aload_n 1, 1, 0, 0, 0), (58, .getfield 73, 3, 0, 1, 3), (61, .iload_n 3, 1, 0, 0, 0), (62, .iaload, 1, 0, 0, 0), (63, .iconst 1, 1, 0, 0, 0), (64, .if_icmp .ne 10, 3, 0, 0, 0), (67, .aload_n 0, 1, 0, 0, 0), (68, .getfield 26, 3, 0, 3, 8), (71, .goto 7, 3, 0, 0, 0), (74, .aload_n 0, 1, 0, 0, 0), (75, .getfield 29, 3, 0, 3, 9), (78, .astore 6, 2, 0, 0, 0), (80, .aload 6, 2, 0, 0, 0), (82, .iload 4, 2, 0, 0, 0), (84, .dup2, 1, 0, 0, 0), (85, .iaload, 1, 0, 0, 0), (86, .iconst 1, 1, 0, 0, 0), (87, .iload 5, 2, 0, 0, 0), (89, .ishl, 1, 0, 0, 0), (90, .ior, 1, 0, 0, 0), (91, .iastore, 1, 0, 0, 0), (92, .aload 6, 2, 0, 0, 0), (94, .iload 5, 2, 0, 0, 0), (96, .dup2, 1, 0, 0, 0), (97, .iaload, 1, 0, 0, 0), (98, .iconst 1, 1, 0, 0, 0), (99, .iload 4, 2, 0, 0, 0), (101, .ishl, 1, 0, 0, 0), (102, .ior, 1, 0, 0, 0), (103, .iastore, 1, 0, 0, 0), (104, .iinc 3 1, 3, 0, 0, 0), (107, .goto (-105), 3, 0, 0, 0), (110, .return_, 1, 0, 0, 0)] -- X3_bind
def cd23 : List AE := [(0, .iconst 0, 1, 0, 0, 0), (1, .istore 4, 2, 0, 0, 0), (3, .iload 4, 2, 0, 0, 0), (5, .aload_n 0, 1, 0, 0, 0), (6, .getfield 48, 3, 0, 3, 3), (9, .if_icmp .ge 58, 3, 0, 0, 0), (12, .iconst 0, 1, 0, 0, 0), (13, .istore 5, 2, 0, 0, 0), (15, .iload 5, 2, 0, 0, 0), (17, .iload 4, 2, 0, 0, 0), (19, .if_icmp .ge 42, 3, 0, 0, 0), (22, .aload_n 0, 1, 0, 0, 0), (23, .getfield 23, 3, 0, 3, 7), (26, .iload 4, 2, 0, 0, 0), (28, .bipush 10, 2, 0, 0, 0), (30, .imul, 1, 0, 0, 0), (31, .iload 5, 2, 0, 0, 0), (33, .iadd, 1, 0, 0, 0), (34, .aload_n 1, 1, 0, 0, 0), (35, .aload_n 2, 1, 0, 0, 0), (36, .aload_n 3, 1, 0, 0, 0), (37, .aload_n 0, 1, 0, 0, 0), (38, .getfield 17, 3, 0, 3, 5), (41, .iload 4, 2, 0, 0, 0), (43, .iaload, 1, 0, 0, 0), (44, .aload_n 0, 1, 0, 0, 0), (45, .getfield 17, 3, 0, 3, 5), (48, .iload 5, 2, 0, 0, 0), (50, .iaload, 1, 0, 0, 0), (51, .invokevirtual 76, 3, 0, 4, 0), (54, .iastore, 1, 0, 0, 0), (55, .iinc 5 1, 3, 0, 0, 0), (58, .goto (-43), 3, 0, 0, 0), (61, .iinc 4 1, 3, 0, 0, 0), (64, .goto (-61), 3, 0, 0, 0), (67, .return_, 1, 0, 0, 0)] -- X3_weighPairs
def cd24 : List AE := [(0, .aload_n 0, 1, 0, 0, 0), (1, .iconst 1, 1, 0, 0, 0), (2, .putfield 82, 3, 0, 3, 0), (5, .aload_n 0, 1, 0, 0, 0), (6, .iconst 0, 1, 0, 0, 0), (7, .putfield 86, 3, 0, 3, 1), (10, .aload_n 0, 1, 0, 0, 0), (11, .iconst 0, 1, 0, 0, 0), (12, .putfield 89, 3, 0, 3, 2), (15, .aload_n 0, 1, 0, 0, 0), (16, .getfield 48, 3, 0, 3, 3), (19, .ifCond .ne 4, 3, 0, 0, 0), (22, .return_, 1, 0, 0, 0), (23, .aload_n 0, 1, 0, 0, 0), (24, .invokevirtual 92, 3, 0, 25, 0), (27, .aload_n 0, 1, 0, 0, 0), (28, .invokevirtual 95, 3, 0, 27, 0), (31, .iconst 1, 1, 0, 0, 0), (32, .aload_n 0, 1, 0, 0, 0), (33, .getfield 48, 3, 0, 3, 3), (36, .iconst 1, 1, 0, 0, 0), (37, .isub, 1, 0, 0, 0), (38, .ishl, 1, 0, 0, 0), (39, .istore_n 1, 1, 0, 0, 0), (40, .aload_n 0, 1, 0, 0, 0), (41, .iload_n 1, 1, 0, 0, 0), (42, .iload_n 1, 1, 0, 0, 0), (43, .iconst 1, 1, 0, 0, 0), (44, .isub, 1, 0, 0, 0), (45, .invokevirtual 98, 3, 0, 28, 0), (48, .lstore_n 2, 1, 0, 0, 0), (49, .aload_n 0, 1, 0, 0, 0), (50, .lload_n 2, 1, 0, 0, 0), (51, .ldc2_w 102, 3, (-9223372036854775808), 0, 0), (54, .lcmp, 1, 0, 0, 0), (55, .ifCond .eq 7, 3, 0, 0, 0), (58, .iconst 1, 1, 0, 0, 0), (59, .goto 4, 3, 0, 0, 0), (62, .iconst 0, 1, 0, 0, 0), (63, .putfield 82, 3, 0, 3, 0), (66, .aload_n 0, 1, 0, 0, 0), (67, .getfield 82, 3, 0, 3, 0), (70, .ifCond .eq 8, 3, 0, 0, 0), (73, .aload_n 0, 1, 0, 0, 0), (74, .lload_n 2, 1, 0, 0, 0), (75, .invokevirtual 104, 3, 0, 29, 0), (78, .return_, 1, 0, 0, 0)] -- X3_choose
def cd25 : List AE := [(0, .aload_n 0, 1, 0, 0, 0), (1, .getfield 35, 3, 0, 3, 11), (4, .iconst 0, 1, 0, 0, 0), (5, .iconst 0, 1, 0, 0, 0), (6, .iastore, 1, 0, 0, 0), (7, .aload_n 0, 1, 0, 0, 0), (8, .getfield 38, 3, 0, 3, 12), (11, .iconst 0, 1, 0, 0, 0), (12, .iconst 0, 1, 0, 0, 0), (13, .iastore, 1, 0, 0, 0), (14, .iconst 0, 1, 0, 0, 0), (15, .istore_n 1, 1, 0, 0, 0), (16, .iload_n 1, 1, 0, 0, 0), (17, .aload_n 0, 1, 0, 0, 0), (18, .getfield 48, 3, 0, 3, 3), (21, .if_icmp .ge 95, 3, 0, 0, 0), (24, .aload_n 0, 1, 0, 0, 0), (25, .iload_n 1, 1, 0, 0, 0), (26, .invokevirtual 108, 3, 0, 26, 0), (29, .iconst 1, 1, 0, 0, 0), (30, .iload_n 1, 1, 0, 0, 0), (31, .ishl, 1, 0, 0, 0), (32, .istore_n 2, 1, 0, 0, 0), (33, .iconst 0, 1, 0, 0, 0), (34, .istore_n 3, 1, 0, 0, 0), (35, .iload_n 3, 1, 0, 0, 0), (36, .iload_n 2, 1, 0, 0, 0), (37, .if_icmp .ge 73, 3, 0, 0, 0), (40, .aload_n 0, 1, 0, 0, 0), (41, .getfield 35, 3, 0, 3, 11), (44, .iload_n 2, 1, 0, 0, 0), (45, .iload_n 3, 1, 0, 0, 0), (46, .ior, 1, 0, 0, 0), (47, .aload_n 0, 1, 0, 0, 0), (48, .getfield 35, 3, 0, 3, 11), (51, .iload_n 3, 1, 0, 0, 0), (52, .iaload, 1, 0, 0, 0), (53, .aload_n 0, 1, 0, 0, 0), (54, .getfield 32, 3, 0, 3, 10), (57, .iload_n 3, 1, 0, 0, 0), (58, .iaload, 1, 0, 0, 0), (59, .iadd, 1, 0, 0, 0), (60, .iastore, 1, 0, 0, 0), (61, .aload_n 0, 1, 0, 0, 0), (62, .getfield 29, 3, 0, 3, 9), (65, .iload_n 1, 1, 0, 0, 0), (66, .iaload, 1, 0, 0, 0), (67, .iload_n 3, 1, 0, 0, 0), (68, .iand, 1, 0, 0, 0), (69, .ifCond .ne 7, 3, 0, 0, 0), (72, .iconst 0, 1, 0, 0, 0), (73, .goto 5, 3, 0, 0, 0), (76, .ldc 112, 2, 1048576, 0, 0), (78, .istore 4, 2, 0, 0, 0), (80, .aload_n 0, 1, 0, 0, 0), (81, .getfield 38, 3, 0, 3, 12), (84, .iload_n 2, 1, 0, 0, 0), (85, .iload_n 3, 1, 0, 0, 0), (86, .ior, 1, 0, 0, 0), (87, .aload_n 0, 1, 0, 0, 0), (88, .getfield 38, 3, 0, 3, 12), (91, .iload_n 3, 1, 0, 0, 0), (92, .iaload, 1, 0, 0, 0), (93, .aload_n 0, 1, 0, 0, 0), (94, .getfield 26, 3, 0, 3, 8), (97, .iload_n 1, 1, 0, 0, 0), (98, .iaload, 1, 0, 0, 0), (99, .ior, 1, 0, 0, 0), (100, .iload 4, 2, 0, 0, 0), (102, .ior, 1, 0, 0, 0), (103, .iastore, 1, 0, 0, 0), (104, .iinc 3 1, 3, 0, 0, 0), (107, .goto (-72), 3, 0, 0, 0), (110, .iinc 1 1, 3, 0, 0, 0), (113, .goto (-97), 3, 0, 0, 0), (116, .return_, 1, 0, 0, 0)] -- X3_weighSets
def cd26 : List AE := [(0, .aload_n 0, 1, 0, 0, 0), (1, .getfield 32, 3, 0, 3, 10), (4, .iconst 0, 1, 0, 0, 0), (5, .iconst 0, 1, 0, 0, 0), (6, .iastore, 1, 0, 0, 0), (7, .iconst 0, 1, 0, 0, 0), (8, .istore_n 2, 1, 0, 0, 0), (9, .iload_n 2, 1, 0, 0, 0), (10, .iload_n 1, 1, 0, 0, 0), (11, .if_icmp .ge 56, 3, 0, 0, 0), (14, .iconst 1, 1, 0, 0, 0), (15, .iload_n 2, 1, 0, 0, 0), (16, .ishl, 1, 0, 0, 0), (17, .istore_n 3, 1, 0, 0, 0), (18, .iconst 0, 1, 0, 0, 0), (19, .istore 4, 2, 0, 0, 0), (21, .iload 4, 2, 0, 0, 0), (23, .iload_n 3, 1, 0, 0, 0), (24, .if_icmp .ge 37, 3, 0, 0, 0), (27, .aload_n 0, 1, 0, 0, 0), (28, .getfield 32, 3, 0, 3, 10), (31, .iload_n 3, 1, 0, 0, 0), (32, .iload 4, 2, 0, 0, 0), (34, .ior, 1, 0, 0, 0), (35, .aload_n 0, 1, 0, 0, 0), (36, .getfield 32, 3, 0, 3, 10), (39, .iload 4, 2, 0, 0, 0), (41, .iaload, 1, 0, 0, 0), (42, .aload_n 0, 1, 0, 0, 0), (43, .getfield 23, 3, 0, 3, 7), (46, .iload_n 1, 1, 0, 0, 0), (47, .bipush 10, 2, 0, 0, 0), (49, .imul, 1, 0, 0, 0), (50, .iload_n 2, 1, 0, 0, 0), (51, .iadd, 1, 0, 0, 0), (52, .iaload, 1, 0, 0, 0), (53, .iadd, 1, 0, 0, 0), (54, .iastore, 1, 0, 0, 0), (55, .iinc 4 1, 3, 0, 0, 0), (58, .goto (-37), 3, 0, 0, 0), (61, .iinc 2 1, 3, 0, 0, 0), (64, .goto (-55), 3, 0, 0, 0), (67, .return_, 1, 0, 0, 0)] -- X3_weighBonds
def cd27 : List AE := [(0, .aload_n 0, 1, 0, 0, 0), (1, .getfield 41, 3, 0, 3, 13), (4, .iconst 0, 1, 0, 0, 0), (5, .lconst 0, 1, 0, 0, 0), (6, .lastore, 1, 0, 0, 0), (7, .aload_n 0, 1, 0, 0, 0), (8, .getfield 45, 3, 0, 3, 14), (11, .iconst 0, 1, 0, 0, 0), (12, .lconst 0, 1, 0, 0, 0), (13, .lastore, 1, 0, 0, 0), (14, .iconst 0, 1, 0, 0, 0), (15, .istore_n 1, 1, 0, 0, 0), (16, .iload_n 1, 1, 0, 0, 0), (17, .aload_n 0, 1, 0, 0, 0), (18, .getfield 48, 3, 0, 3, 3), (21, .iconst 1, 1, 0, 0, 0), (22, .isub, 1, 0, 0, 0), (23, .if_icmp .ge 88, 3, 0, 0, 0), (26, .iconst 1, 1, 0, 0, 0), (27, .iload_n 1, 1, 0, 0, 0), (28, .ishl, 1, 0, 0, 0), (29, .istore_n 2, 1, 0, 0, 0), (30, .iconst 0, 1, 0, 0, 0), (31, .istore_n 3, 1, 0, 0, 0), (32, .iload_n 3, 1, 0, 0, 0), (33, .iload_n 2, 1, 0, 0, 0), (34, .if_icmp .ge 71, 3, 0, 0, 0), (37, .aload_n 0, 1, 0, 0, 0), (38, .getfield 45, 3, 0, 3, 14), (41, .iload_n 2, 1, 0, 0, 0), (42, .iload_n 3, 1, 0, 0, 0), (43, .ior, 1, 0, 0, 0), (44, .aload_n 0, 1, 0, 0, 0), (45, .getfield 45, 3, 0, 3, 14), (48, .iload_n 3, 1, 0, 0, 0), (49, .laload, 1, 0, 0, 0), (50, .lconst 1, 1, 0, 0, 0), (51, .iconst 4, 1, 0, 0, 0), (52, .iload_n 1, 1, 0, 0, 0), (53, .imul, 1, 0, 0, 0), (54, .lshl, 1, 0, 0, 0), (55, .lor, 1, 0, 0, 0), (56, .lastore, 1, 0, 0, 0), (57, .aload_n 0, 1, 0, 0, 0), (58, .iload_n 2, 1, 0, 0, 0), (59, .iload_n 3, 1, 0, 0, 0), (60, .invokevirtual 98, 3, 0, 28, 0), (63, .lstore 4, 2, 0, 0, 0), (65, .aload_n 0, 1, 0, 0, 0), (66, .getfield 41, 3, 0, 3, 13), (69, .iload_n 2, 1, 0, 0, 0), (70, .iload_n 3, 1, 0, 0, 0), (71, .ior, 1, 0, 0, 0), (72, .lload 4, 2, 0, 0, 0), (74, .ldc2_w 102, 3, (-9223372036854775808), 0, 0), (77, .lcmp, 1, 0, 0, 0), (78, .ifCond .ne 9, 3, 0, 0, 0), (81, .ldc2_w 102, 3, (-9223372036854775808), 0, 0), (84, .goto 14, 3, 0, 0, 0), (87, .lload 4, 2, 0, 0, 0), (89, .aload_n 0, 1, 0, 0, 0), (90, .getfield 45, 3, 0, 3, 14), (93, .iload_n 2, 1, 0, 0, 0), (94, .iload_n 3, 1, 0, 0, 0), (95, .ior, 1, 0, 0, 0), (96, .laload, 1, 0, 0, 0), (97, .ladd, 1, 0, 0, 0), (98, .lastore, 1, 0, 0, 0), (99, .iinc 3 1, 3, 0, 0, 0), (102, .goto (-70), 3, 0, 0, 0), (105, .iinc 1 1, 3, 0, 0, 0), (108, .goto (-92), 3, 0, 0, 0), (111, .return_, 1, 0, 0, 0)] -- X3_chooseTails
def cd28 : List AE := [(0, .ldc2_w 102, 3, (-9223372036854775808), 0, 0), (3, .lstore_n 3, 1, 0, 0, 0), (4, .iload_n 2, 1, 0, 0, 0), (5, .istore 5, 2, 0, 0, 0), (7, .iconst 1, 1, 0, 0, 0), (8, .iload_n 2, 1, 0, 0, 0), (9, .invokestatic 113, 3, 0, 166, 0), (12, .ishl, 1, 0, 0, 0), (13, .istore 6, 2, 0, 0, 0), (15, .iload 6, 2, 0, 0, 0), (17, .ifCond .le 77, 3, 0, 0, 0), (20, .iload_n 1, 1, 0, 0, 0), (21, .iload 5, 2, 0, 0, 0), (23, .ior, 1, 0, 0, 0), (24, .istore 7, 2, 0, 0, 0), (26, .aload_n 0, 1, 0, 0, 0), (27, .getfield 41, 3, 0, 3, 13), (30, .iload_n 2, 1, 0, 0, 0), (31, .iload 5, 2, 0, 0, 0), (33, .ixor, 1, 0, 0, 0), (34, .laload, 1, 0, 0, 0), (35, .lstore 8, 2, 0, 0, 0), (37, .aload_n 0, 1, 0, 0, 0), (38, .getfield 38, 3, 0, 3, 12), (41, .iload 7, 2, 0, 0, 0), (43, .iaload, 1, 0, 0, 0), (44, .iload 7, 2, 0, 0, 0), (46, .iconst (-1), 1, 0, 0, 0), (47, .ixor, 1, 0, 0, 0), (48, .iand, 1, 0, 0, 0), (49, .ifCond .ne 31, 3, 0, 0, 0), (52, .lload 8, 2, 0, 0, 0), (54, .ldc2_w 102, 3, (-9223372036854775808), 0, 0), (57, .lcmp, 1, 0, 0, 0), (58, .ifCond .eq 22, 3, 0, 0, 0), (61, .lload_n 3, 1, 0, 0, 0), (62, .aload_n 0, 1, 0, 0, 0), (63, .getfield 35, 3, 0, 3, 11), (66, .iload 7, 2, 0, 0, 0), (68, .iaload, 1, 0, 0, 0), (69, .i2l, 1, 0, 0, 0), (70, .bipush 40, 2, 0, 0, 0), (72, .lshl, 1, 0, 0, 0), (73, .lload 8, 2, 0, 0, 0), (75, .ladd, 1, 0, 0, 0), (76, .invokestatic 119, 3, 0, 992, 0), (79, .lstore_n 3, 1, 0, 0, 0), (80, .iload 5, 2, 0, 0, 0), (82, .iconst 1, 1, 0, 0, 0), (83, .isub, 1, 0, 0, 0), (84, .iload_n 2, 1, 0, 0, 0), (85, .iand, 1, 0, 0, 0), (86, .istore 5, 2, 0, 0, 0), (88, .iinc 6 (-1), 3, 0, 0, 0), (91, .goto (-76), 3, 0, 0, 0), (94, .lload_n 3, 1, 0, 0, 0), (95, .lreturn, 1, 0, 0, 0)] -- X3_greatestKey
def cd29 : List AE := [(0, .aload_n 0, 1, 0, 0, 0), (1, .lload_n 1, 1, 0, 0, 0), (2, .bipush 40, 2, 0, 0, 0), (4, .lshr, 1, 0, 0, 0), (5, .l2i, 1, 0, 0, 0), (6, .putfield 89, 3, 0, 3, 2), (9, .iconst 0, 1, 0, 0, 0), (10, .istore_n 3, 1, 0, 0, 0), (11, .iload_n 3, 1, 0, 0, 0), (12, .aload_n 0, 1, 0, 0, 0), (13, .getfield 48, 3, 0, 3, 3), (16, .if_icmp .ge 48, 3, 0, 0, 0), (19, .lload_n 1, 1, 0, 0, 0), (20, .iconst 4, 1, 0, 0, 0), (21, .iload_n 3, 1, 0, 0, 0), (22, .imul, 1, 0, 0, 0), (23, .lshr, 1, 0, 0, 0), (24, .l2i, 1, 0, 0, 0), (25, .bipush 15, 2, 0, 0, 0), (27, .iand, 1, 0, 0, 0), (28, .istore 4, 2, 0, 0, 0), (30, .aload_n 0, 1, 0, 0, 0), (31, .getfield 13, 3, 0, 3, 4), (34, .aload_n 0, 1, 0, 0, 0), (35, .getfield 17, 3, 0, 3, 5), (38, .iload_n 3, 1, 0, 0, 0), (39, .iaload, 1, 0, 0, 0), (40, .iload 4, 2, 0, 0, 0), (42, .iastore, 1, 0, 0, 0), (43, .aload_n 0, 1, 0, 0, 0), (44, .aload_n 0, 1, 0, 0, 0), (45, .getfield 86, 3, 0, 3, 1), (48, .iload 4, 2, 0, 0, 0), (50, .iconst 1, 1, 0, 0, 0), (51, .iadd, 1, 0, 0, 0), (52, .invokestatic 125, 3, 0, 991, 0), (55, .putfield 86, 3, 0, 3, 1), (58, .iinc 3 1, 3, 0, 0, 0), (61, .goto (-50), 3, 0, 0, 0), (64, .return_, 1, 0, 0, 0)] -- X3_readKey
def cd30 : List AE := [(0, .aload_n 0, 1, 0, 0, 0), (1, .invokespecial 3, 3, 0, 990, 0), (4, .aload_n 0, 1, 0, 0, 0), (5, .bipush 10, 2, 0, 0, 0), (7, .newarray .int, 2, 0, 0, 0), (9, .putfield 9, 3, 0, 4, 1), (12, .aload_n 0, 1, 0, 0, 0), (13, .bipush 10, 2, 0, 0, 0), (15, .newarray .int, 2, 0, 0, 0), (17, .putfield 15, 3, 0, 4, 2), (20, .aload_n 0, 1, 0, 0, 0), (21, .bipush 10, 2, 0, 0, 0), (23, .newarray .boolean, 2, 0, 0, 0), (25, .putfield 18, 3, 0, 4, 3), (28, .return_, 1, 0, 0, 0)] -- X4_init
def cd31 : List AE := [(0, .aload_n 0, 1, 0, 0, 0), (1, .getfield 22, 3, 0, 4, 0), (4, .istore_n 3, 1, 0, 0, 0), (5, .iload_n 3, 1, 0, 0, 0), (6, .bipush 10, 2, 0, 0, 0), (8, .if_icmp .lt 5, 3, 0, 0, 0), (11, .iconst (-1), 1, 0, 0, 0), (12, .ireturn, 1, 0, 0, 0), (13, .aload_n 0, 1, 0, 0, 0), (14, .getfield 9, 3, 0, 4, 1), (17, .iload_n 3, 1, 0, 0, 0), (18, .iload_n 1, 1, 0, 0, 0), (19, .iastore, 1, 0, 0, 0), (20, .aload_n 0, 1, 0, 0, 0), (21, .getfield 15, 3, 0, 4, 2), (24, .iload_n 3, 1, 0, 0, 0), (25, .iload_n 2, 1, 0, 0, 0), (26, .iastore, 1, 0, 0, 0), (27, .aload_n 0, 1, 0, 0, 0), (28, .dup, 1, 0, 0, 0), (29, .getfield 22, 3, 0, 4, 0), (32, .iconst 1, 1, 0, 0, 0), (33, .iadd, 1, 0, 0, 0), (34, .putfield 22, 3, 0, 4, 0), (37, .iload_n 3, 1, 0, 0, 0), (38, .ireturn, 1, 0, 0, 0)] -- X4_add
def cd32 : List AE := [(0, .iload_n 1, 1, 0, 0, 0), (1, .ifCond .lt 24, 3, 0, 0, 0), (4, .iload_n 1, 1, 0, 0, 0), (5, .aload_n 0, 1, 0, 0, 0), (6, .getfield 22, 3, 0, 4, 0), (9, .if_icmp .ge 16, 3, 0, 0, 0), (12, .aload_n 0, 1, 0, 0, 0), (13, .getfield 18, 3, 0, 4, 3), (16, .iload_n 1, 1, 0, 0, 0), (17, .baload, 1, 0, 0, 0), (18, .ifCond .ne 7, 3, 0, 0, 0), (21, .iconst 1, 1, 0, 0, 0), (22, .goto 4, 3, 0, 0, 0), (25, .iconst 0, 1, 0, 0, 0), (26, .ireturn, 1, 0, 0, 0)] -- X4_isAlive
def cd33 : List AE := [(0, .aload_n 0, 1, 0, 0, 0), (1, .invokespecial 3, 3, 0, 990, 0), (4, .aload_n 0, 1, 0, 0, 0), (5, .bipush 10, 2, 0, 0, 0), (7, .newarray .boolean, 2, 0, 0, 0), (9, .putfield 9, 3, 0, 5, 2), (12, .aload_n 0, 1, 0, 0, 0), (13, .bipush 60, 2, 0, 0, 0), (15, .newarray .int, 2, 0, 0, 0), (17, .putfield 15, 3, 0, 5, 3), (20, .aload_n 0, 1, 0, 0, 0), (21, .bipush 60, 2, 0, 0, 0), (23, .newarray .int, 2, 0, 0, 0), (25, .putfield 19, 3, 0, 5, 4), (28, .aload_n 0, 1, 0, 0, 0), (29, .bipush 60, 2, 0, 0, 0), (31, .newarray .boolean, 2, 0, 0, 0), (33, .putfield 22, 3, 0, 5, 5), (36, .return_, 1, 0, 0, 0)] -- X5_init
def cd34 : List AE := [(0, .aload_n 0, 1, 0, 0, 0), (1, .iload_n 3, 1, 0, 0, 0), (2, .putfield 25, 3, 0, 5, 0), (5, .aload_n 0, 1, 0, 0, 0), (6, .iload 4, 2, 0, 0, 0), (8, .putfield 29, 3, 0, 5, 1), (11, .iconst 0, 1, 0, 0, 0), (12, .istore 5, 2, 0, 0, 0), (14, .iload 5, 2, 0, 0, 0), (16, .bipush 10, 2, 0, 0, 0), (18, .if_icmp .ge 42, 3, 0, 0, 0), (21, .aload_n 0, 1, 0, 0, 0), (22, .getfield 9, 3, 0, 5, 2), (25, .iload 5, 2, 0, 0, 0), (27, .aload_n 1, 1, 0, 0, 0), (28, .iload 5, 2, 0, 0, 0), (30, .invokevirtual 32, 3, 0, 32, 0), (33, .ifCond .eq 19, 3, 0, 0, 0), (36, .aload_n 1, 1, 0, 0, 0), (37, .getfield 38, 3, 0, 4, 2), (40, .iload 5, 2, 0, 0, 0), (42, .iaload, 1, 0, 0, 0), (43, .iload 4, 2, 0, 0, 0), (45, .if_icmp .gt 7, 3, 0, 0, 0), (48, .iconst 1, 1, 0, 0, 0), (49, .goto 4, 3, 0, 0, 0), (52, .iconst 0, 1, 0, 0, 0), (53, .bastore, 1, 0, 0, 0), (54, .iinc 5 1, 3, 0, 0, 0), (57, .goto (-43), 3, 0, 0, 0), (60, .iconst 0, 1, 0, 0, 0), (61, .istore 5, 2, 0, 0, 0), (63, .iload 5, 2, 0, 0, 0), (65, .bipush 60, 2, 0, 0, 0), (67, .if_icmp .ge 17, 3, 0, 0, 0), (70, .aload_n 0, 1, 0, 0, 0), (71, .getfield 15, 3, 0, 5, 3), (74, .iload 5, 2, 0, 0, 0), (76, .iconst (-1), 1, 0, 0, 0), (77, .iastore, 1, 0, 0, 0), (78, .iinc 5 1, 3, 0, 0, 0), (81, .goto (-18), 3, 0, 0, 0), (84, .iconst 0, 1, 0, 0, 0), (85, .istore 5, 2, 0, 0, 0), (87, .iload 5, 2, 0, 0, 0), (89, .aload_n 2, 1, 0, 0, 0), (90, .getfield 41, 3, 0, 7, 0), (93, .if_icmp .ge 54, 3, 0, 0, 0), (96, .aload_n 2, 1, 0, 0, 0), (97, .getfield 46, 3, 0, 7, 5), (100, .iload 5, 2, 0, 0, 0), (102, .iaload, 1, 0, 0, 0), (103, .iload 4, 2, 0, 0, 0), (105, .if_icmp .gt 36, 3, 0, 0, 0), (108, .aload_n 2, 1, 0, 0, 0), (109, .getfield 47, 3, 0, 7, 4), (112, .iload 5, 2, 0, 0, 0), (114, .iaload, 1, 0, 0, 0), (115, .iload_n 3, 1, 0, 0, 0), (116, .if_icmp .gt 25, 3, 0, 0, 0), (119, .aload_n 0, 1, 0, 0, 0), (120, .getfield 9, 3, 0, 5, 2), (123, .aload_n 2, 1, 0, 0, 0), (124, .getfield 48, 3, 0, 7, 1), (127, .iload 5, 2, 0, 0, 0), (129, .iaload, 1, 0, 0, 0), (130, .baload, 1, 0, 0, 0), (131, .ifCond .eq 10, 3, 0, 0, 0), (134, .aload_n 0, 1, 0, 0, 0), (135, .aload_n 2, 1, 0, 0, 0), (136, .iload 5, 2, 0, 0, 0), (138, .invokevirtual 51, 3, 0, 35, 0), (141, .iinc 5 1, 3, 0, 0, 0), (144, .goto (-57), 3, 0, 0, 0), (147, .return_, 1, 0, 0, 0)] -- X5_take
def cd35 : List AE := [(0, .aload_n 1, 1, 0, 0, 0), (1, .getfield 48, 3, 0, 7, 1), (4, .iload_n 2, 1, 0, 0, 0), (5, .iaload, 1, 0, 0, 0), (6, .bipush 6, 2, 0, 0, 0), (8, .imul, 1, 0, 0, 0), (9, .aload_n 1, 1, 0, 0, 0), (10, .getfield 55, 3, 0, 7, 2), (13, .iload_n 2, 1, 0, 0, 0), (14, .iaload, 1, 0, 0, 0), (15, .iadd, 1, 0, 0, 0), (16, .istore_n 3, 1, 0, 0, 0), (17, .aload_n 0, 1, 0, 0, 0), (18, .getfield 15, 3, 0, 5, 3), (21, .iload_n 3, 1, 0, 0, 0), (22, .iaload, 1, 0, 0, 0), (23, .iconst (-1), 1, 0, 0, 0), (24, .if_icmp .eq 18, 3, 0, 0, 0), (27, .aload_n 1, 1, 0, 0, 0), (28, .getfield 47, 3, 0, 7, 4), (31, .iload_n 2, 1, 0, 0, 0), (32, .iaload, 1, 0, 0, 0), (33, .aload_n 0, 1, 0, 0, 0), (34, .getfield 19, 3, 0, 5, 4), (37, .iload_n 3, 1, 0, 0, 0), (38, .iaload, 1, 0, 0, 0), (39, .if_icmp .lt 39, 3, 0, 0, 0), (42, .aload_n 0, 1, 0, 0, 0), (43, .getfield 15, 3, 0, 5, 3), (46, .iload_n 3, 1, 0, 0, 0), (47, .aload_n 1, 1, 0, 0, 0), (48, .getfield 58, 3, 0, 7, 3), (51, .iload_n 2, 1, 0, 0, 0), (52, .iaload, 1, 0, 0, 0), (53, .iastore, 1, 0, 0, 0), (54, .aload_n 0, 1, 0, 0, 0), (55, .getfield 19, 3, 0, 5, 4), (58, .iload_n 3, 1, 0, 0, 0), (59, .aload_n 1, 1, 0, 0, 0), (60, .getfield 47, 3, 0, 7, 4), (63, .iload_n 2, 1, 0, 0, 0), (64, .iaload, 1, 0, 0, 0), (65, .iastore, 1, 0, 0, 0), (66, .aload_n 0, 1, 0, 0, 0), (67, .getfield 22, 3, 0, 5, 5), (70, .iload_n 3, 1, 0, 0, 0), (71, .aload_n 1, 1, 0, 0, 0), (72, .getfield 59, 3, 0, 7, 6), (75, .iload_n 2, 1, 0, 0, 0), (76, .baload, 1, 0, 0, 0), (77, .bastore, 1, 0, 0, 0), (78, .return_, 1, 0, 0, 0)] -- X5_takeVersion
def cd36 : List AE := [(0, .iload_n 1, 1, 0, 0, 0), (1, .ifCond .lt 22, 3, 0, 0, 0), (4, .iload_n 1, 1, 0, 0, 0), (5, .bipush 10, 2, 0, 0, 0), (7, .if_icmp .ge 16, 3, 0, 0, 0), (10, .aload_n 0, 1, 0, 0, 0), (11, .getfield 9, 3, 0, 5, 2), (14, .iload_n 1, 1, 0, 0, 0), (15, .baload, 1, 0, 0, 0), (16, .ifCond .eq 7, 3, 0, 0, 0), (19, .iconst 1, 1, 0, 0, 0), (20, .goto 4, 3, 0, 0, 0), (23, .iconst 0, 1, 0, 0, 0), (24, .ireturn, 1, 0, 0, 0)] -- X5_isThere
def cd37 : List AE := [(0, .aload_n 0, 1, 0, 0, 0), (1, .iload_n 1, 1, 0, 0, 0), (2, .invokevirtual 60, 3, 0, 36, 0), (5, .ifCond .eq 24, 3, 0, 0, 0), (8, .iload_n 2, 1, 0, 0, 0), (9, .invokestatic 63, 3, 0, 91, 0), (12, .ifCond .eq 17, 3, 0, 0, 0), (15, .aload_n 0, 1, 0, 0, 0), (16, .getfield 15, 3, 0, 5, 3), (19, .iload_n 1, 1, 0, 0, 0), (20, .bipush 6, 2, 0, 0, 0), (22, .imul, 1, 0, 0, 0), (23, .iload_n 2, 1, 0, 0, 0), (24, .iadd, 1, 0, 0, 0), (25, .iaload, 1, 0, 0, 0), (26, .goto 4, 3, 0, 0, 0), (29, .iconst (-1), 1, 0, 0, 0), (30, .ireturn, 1, 0, 0, 0)] -- X5_valueOf
def cd38 : List AE := [(0, .aload_n 0, 1, 0, 0, 0), (1, .invokespecial 3, 3, 0, 990, 0), (4, .aload_n 0, 1, 0, 0, 0), (5, .sipush 500, 3, 0, 0, 0), (8, .newarray .int, 2, 0, 0, 0), (10, .putfield 9, 3, 0, 6, 5), (13, .aload_n 0, 1, 0, 0, 0), (14, .sipush 500, 3, 0, 0, 0), (17, .newarray .int, 2, 0, 0, 0), (19, .putfield 15, 3, 0, 6, 6), (22, .return_, 1, 0, 0, 0)] -- X6_init
def cd39 : List AE := [(0, .bipush 24, 2, 0, 0, 0), (2, .istore_n 2, 1, 0, 0, 0), (3, .iload_n 2, 1, 0, 0, 0), (4, .ifCond .lt 66, 3, 0, 0, 0), (7, .aload_n 0, 1, 0, 0, 0), (8, .getfield 18, 3, 0, 6, 0), (11, .sipush 500, 3, 0, 0, 0), (14, .if_icmp .ge 50, 3, 0, 0, 0), (17, .aload_n 0, 1, 0, 0, 0), (18, .getfield 9, 3, 0, 6, 5), (21, .aload_n 0, 1, 0, 0, 0), (22, .getfield 18, 3, 0, 6, 0), (25, .iload_n 1, 1, 0, 0, 0), (26, .iload_n 2, 1, 0, 0, 0), (27, .iushr, 1, 0, 0, 0), (28, .sipush 255, 3, 0, 0, 0), (31, .iand, 1, 0, 0, 0), (32, .iastore, 1, 0, 0, 0), (33, .aload_n 0, 1, 0, 0, 0), (34, .getfield 15, 3, 0, 6, 6), (37, .aload_n 0, 1, 0, 0, 0), (38, .getfield 18, 3, 0, 6, 0), (41, .aload_n 0, 1, 0, 0, 0), (42, .getfield 9, 3, 0, 6, 5), (45, .aload_n 0, 1, 0, 0, 0), (46, .getfield 18, 3, 0, 6, 0), (49, .iaload, 1, 0, 0, 0), (50, .invokestatic 22, 3, 0, 40, 0), (53, .iastore, 1, 0, 0, 0), (54, .aload_n 0, 1, 0, 0, 0), (55, .dup, 1, 0, 0, 0), (56, .getfield 18, 3, 0, 6, 0), (59, .iconst 1, 1, 0, 0, 0), (60, .iadd, 1, 0, 0, 0), (61, .putfield 18, 3, 0, 6, 0), (64, .iinc 2 (-8), 3, 0, 0, 0), (67, .goto (-64), 3, 0, 0, 0), (70, .return_, 1, 0, 0, 0)] -- X6_append
def cd40 : List AE := [(0, .iload_n 0, 1, 0, 0, 0), (1, .bipush 97, 2, 0, 0, 0), (3, .if_icmp .lt 11, 3, 0, 0, 0), (6, .iload_n 0, 1, 0, 0, 0), (7, .bipush 122, 2, 0, 0, 0), (9, .if_icmp .gt 5, 3, 0, 0, 0), (12, .iconst 2, 1, 0, 0, 0), (13, .ireturn, 1, 0, 0, 0), (14, .iload_n 0, 1, 0, 0, 0), (15, .bipush 48, 2, 0, 0, 0), (17, .if_icmp .lt 11, 3, 0, 0, 0), (20, .iload_n 0, 1, 0, 0, 0), (21, .bipush 57, 2, 0, 0, 0), (23, .if_icmp .gt 5, 3, 0, 0, 0), (26, .iconst 3, 1, 0, 0, 0), (27, .ireturn, 1, 0, 0, 0), (28, .iload_n 0, 1, 0, 0, 0), (29, .bipush 59, 2, 0, 0, 0), (31, .if_icmp .eq 15, 3, 0, 0, 0), (34, .iload_n 0, 1, 0, 0, 0), (35, .bipush 40, 2, 0, 0, 0), (37, .if_icmp .eq 9, 3, 0, 0, 0), (40, .iload_n 0, 1, 0, 0, 0), (41, .bipush 41, 2, 0, 0, 0), (43, .if_icmp .ne 5, 3, 0, 0, 0), (46, .iconst 4, 1, 0, 0, 0), (47, .ireturn, 1, 0, 0, 0), (48, .iload_n 0, 1, 0, 0, 0), (49, .bipush 32, 2, 0, 0, 0), (51, .if_icmp .eq 9, 3, 0, 0, 0), (54, .iload_n 0, 1, 0, 0, 0), (55, .bipush 10, 2, 0, 0, 0), (57, .if_icmp .ne 7, 3, 0, 0, 0), (60, .iconst 1, 1, 0, 0, 0), (61, .goto 4, 3, 0, 0, 0), (64, .iconst 0, 1, 0, 0, 0), (65, .ireturn, 1, 0, 0, 0)] -- X6_sortOf
def cd41 : List AE := [(0, .aload_n 0, 1, 0, 0, 0), (1, .iconst 0, 1, 0, 0, 0), (2, .putfield 26, 3, 0, 6, 4), (5, .aload_n 0, 1, 0, 0, 0), (6, .invokevirtual 29, 3, 0, 42, 0), (9, .return_, 1, 0, 0, 0)] -- X6_rewind
def cd42 : List AE := [(0, .aload_n 0, 1, 0, 0, 0), (1, .getfield 26, 3, 0, 6, 4), (4, .aload_n 0, 1, 0, 0, 0), (5, .getfield 18, 3, 0, 6, 0), (8, .if_icmp .ge 29, 3, 0, 0, 0), (11, .aload_n 0, 1, 0, 0, 0), (12, .getfield 15, 3, 0, 6, 6), (15, .aload_n 0, 1, 0, 0, 0), (16, .getfield 26, 3, 0, 6, 4), (19, .iaload, 1, 0, 0, 0), (20, .iconst 1, 1, 0, 0, 0), (21, .if_icmp .ne 16, 3, 0, 0, 0), (24, .aload_n 0, 1, 0, 0, 0), (25, .dup, 1, 0, 0, 0), (26, .getfield 26, 3, 0, 6, 4), (29, .iconst 1, 1, 0, 0, 0), (30, .iadd, 1, 0, 0, 0), (31, .putfield 26, 3, 0, 6, 4), (34, .goto (-34), 3, 0, 0, 0), (37, .aload_n 0, 1, 0, 0, 0), (38, .aload_n 0, 1, 0, 0, 0), (39, .getfield 26, 3, 0, 6, 4), (42, .putfield 32, 3, 0, 6, 2), (45, .aload_n 0, 1, 0, 0, 0), (46, .getfield 26, 3, 0, 6, 4), (49, .aload_n 0, 1, 0, 0, 0), (50, .getfield 18, 3, 0, 6, 0), (53, .if_icmp .lt 11, 3, 0, 0, 0), (56, .aload_n 0, 1, 0, 0, 0), (57, .iconst 0, 1, 0, 0, 0), (58, .putfield 35, 3, 0, 6, 1), (61, .goto 83, 3, 0, 0, 0), (64, .aload_n 0, 1, 0, 0, 0), (65, .getfield 15, 3, 0, 6, 6), (68, .aload_n 0, 1, 0, 0, 0), (69, .getfield 26, 3, 0, 6, 4), (72, .iaload, 1, 0, 0, 0), (73, .iconst 2, 1, 0, 0, 0), (74, .if_icmp .ne 10, 3, 0, 0, 0), (77, .aload_n 0, 1, 0, 0, 0), (78, .invokevirtual 38, 3, 0, 43, 0), (81, .goto 63, 3, 0, 0, 0), (84, .aload_n 0, 1, 0, 0, 0), (85, .getfield 15, 3, 0, 6, 6), (88, .aload_n 0, 1, 0, 0, 0), (89, .getfield 26, 3, 0, 6, 4), (92, .iaload, 1, 0, 0, 0), (93, .iconst 3, 1, 0, 0, 0), (94, .if_icmp .ne 10, 3, 0, 0, 0), (97, .aload_n 0, 1, 0, 0, 0), (98, .invokevirtual 41, 3, 0, 44, 0), (101, .goto 43, 3, 0, 0, 0), (104, .aload_n 0, 1, 0, 0, 0), (105, .aload_n 0, 1, 0, 0, 0), (106, .getfield 15, 3, 0, 6, 6), (109, .aload_n 0, 1, 0, 0, 0), (110, .getfield 26, 3, 0, 6, 4), (113, .iaload, 1, 0, 0, 0), (114, .iconst 4, 1, 0, 0, 0), (115, .if_icmp .ne 15, 3, 0, 0, 0), (118, .aload_n 0, 1, 0, 0, 0), (119, .getfield 9, 3, 0, 6, 5), (122, .aload_n 0, 1, 0, 0, 0), (123, .getfield 26, 3, 0, 6, 4), (126, .iaload, 1, 0, 0, 0), (127, .goto 4, 3, 0, 0, 0), (130, .iconst 1, 1, 0, 0, 0), (131, .putfield 35, 3, 0, 6, 1), (134, .aload_n 0, 1, 0, 0, 0), (135, .dup, 1, 0, 0, 0), (136, .getfield 26, 3, 0, 6, 4), (139, .iconst 1, 1, 0, 0, 0), (140, .iadd, 1, 0, 0, 0), (141, .putfield 26, 3, 0, 6, 4), (144, .return_, 1, 0, 0, 0)] -- X6_advance
def cd43 : List AE := [(0, .aload_n 0, 1, 0, 0, 0), (1, .getfield 26, 3, 0, 6, 4), (4, .aload_n 0, 1, 0, 0, 0), (5, .getfield 18, 3, 0, 6, 0), (8, .if_icmp .ge 29, 3, 0, 0, 0), (11, .aload_n 0, 1, 0, 0, 0), (12, .getfield 15, 3, 0, 6, 6), (15, .aload_n 0, 1, 0, 0, 0), (16, .getfield 26, 3, 0, 6, 4), (19, .iaload, 1, 0, 0, 0), (20, .iconst 2, 1, 0, 0, 0), (21, .if_icmp .ne 16, 3, 0, 0, 0), (24, .aload_n 0, 1, 0, 0, 0), (25, .dup, 1, 0, 0, 0), (26, .getfield 26, 3, 0, 6, 4), (29, .iconst 1, 1, 0, 0, 0), (30, .iadd, 1, 0, 0, 0), (31, .putfield 26, 3, 0, 6, 4), (34, .goto (-34), 3, 0, 0, 0), (37, .aload_n 0, 1, 0, 0, 0), (38, .aload_n 0, 1, 0, 0, 0), (39, .getfield 26, 3, 0, 6, 4), (42, .aload_n 0, 1, 0, 0, 0), (43, .getfield 32, 3, 0, 6, 2), (46, .isub, 1, 0, 0, 0), (47, .bipush 8, 2, 0, 0, 0), (49, .if_icmp .le 7, 3, 0, 0, 0), (52, .iconst 1, 1, 0, 0, 0), (53, .goto 4, 3, 0, 0, 0), (56, .iconst 2, 1, 0, 0, 0), (57, .putfield 35, 3, 0, 6, 1), (60, .return_, 1, 0, 0, 0)] -- X6_takeWord
def cd44 : List AE := [(0, .aload_n 0, 1, 0, 0, 0), (1, .iconst 0, 1, 0, 0, 0), (2, .putfield 44, 3, 0, 6, 3), (5, .aload_n 0, 1, 0, 0, 0), (6, .getfield 26, 3, 0, 6, 4), (9, .aload_n 0, 1, 0, 0, 0), (10, .getfield 18, 3, 0, 6, 0), (13, .if_icmp .ge 53, 3, 0, 0, 0), (16, .aload_n 0, 1, 0, 0, 0), (17, .getfield 15, 3, 0, 6, 6), (20, .aload_n 0, 1, 0, 0, 0), (21, .getfield 26, 3, 0, 6, 4), (24, .iaload, 1, 0, 0, 0), (25, .iconst 3, 1, 0, 0, 0), (26, .if_icmp .ne 40, 3, 0, 0, 0), (29, .aload_n 0, 1, 0, 0, 0), (30, .aload_n 0, 1, 0, 0, 0), (31, .getfield 44, 3, 0, 6, 3), (34, .bipush 10, 2, 0, 0, 0), (36, .imul, 1, 1, 0, 0), (37, .aload_n 0, 1, 0, 0, 0), (38, .getfield 9, 3, 0, 6, 5), (41, .aload_n 0, 1, 0, 0, 0), (42, .getfield 26, 3, 0, 6, 4), (45, .iaload, 1, 0, 0, 0), (46, .bipush 48, 2, 0, 0, 0), (48, .isub, 1, 0, 0, 0), (49, .iadd, 1, 1, 0, 0), (50, .putfield 44, 3, 0, 6, 3), (53, .aload_n 0, 1, 0, 0, 0), (54, .dup, 1, 0, 0, 0), (55, .getfield 26, 3, 0, 6, 4), (58, .iconst 1, 1, 0, 0, 0), (59, .iadd, 1, 1, 0, 0), (60, .putfield 26, 3, 0, 6, 4), (63, .goto (-58), 3, 0, 0, 0), (66, .aload_n 0, 1, 0, 0, 0), (67, .getfield 26, 3, 0, 6, 4), (70, .aload_n 0, 1, 0, 0, 0), (71, .getfield 18, 3, 0, 6, 0), (74, .if_icmp .ge 20, 3, 0, 0, 0), (77, .aload_n 0, 1, 0, 0, 0), (78, .getfield 15, 3, 0, 6, 6), (81, .aload_n 0, 1, 0, 0, 0), (82, .getfield 26, 3, 0, 6, 4), (85, .iaload, 1, 0, 0, 0), (86, .iconst 2, 1, 0, 0, 0), (87, .if_icmp .ne 7, 3, 0, 0, 0), (90, .iconst 1, 1, 0, 0, 0), (91, .goto 4, 3, 0, 0, 0), (94, .iconst 0, 1, 0, 0, 0), (95, .istore_n 1, 1, 0, 0, 0), (96, .aload_n 0, 1, 0, 0, 0), (97, .iload_n 1, 1, 0, 0, 0), (98, .ifCond .ne 17, 3, 0, 0, 0), (101, .aload_n 0, 1, 0, 0, 0), (102, .getfield 26, 3, 0, 6, 4), (105, .aload_n 0, 1, 0, 0, 0), (106, .getfield 32, 3, 0, 6, 2), (109, .isub, 1, 0, 0, 0), (110, .bipush 6, 2, 0, 0, 0), (112, .if_icmp .le 7, 3, 0, 0, 0), (115, .iconst 1, 1, 0, 0, 0), (116, .goto 4, 3, 0, 0, 0), (119, .iconst 3, 1, 0, 0, 0), (120, .putfield 35, 3, 0, 6, 1), (123, .return_, 1, 0, 0, 0)] -- X6_takeNumber
def cd45 : List AE := [(0, .aload_n 0, 1, 0, 0, 0), (1, .getfield 35, 3, 0, 6, 1), (4, .iconst 2, 1, 0, 0, 0), (5, .if_icmp .ne 19, 3, 0, 0, 0), (8, .aload_n 1, 1, 0, 0, 0), (9, .invokevirtual 47, 3, 0, 167, 0), (12, .aload_n 0, 1, 0, 0, 0), (13, .getfield 26, 3, 0, 6, 4), (16, .aload_n 0, 1, 0, 0, 0), (17, .getfield 32, 3, 0, 6, 2), (20, .isub, 1, 0, 0, 0), (21, .if_icmp .eq 5, 3, 0, 0, 0), (24, .iconst 0, 1, 0, 0, 0), (25, .ireturn, 1, 0, 0, 0), (26, .iconst 0, 1, 0, 0, 0), (27, .istore_n 2, 1, 0, 0, 0), (28, .iload_n 2, 1, 0, 0, 0), (29, .aload_n 1, 1, 0, 0, 0), (30, .invokevirtual 47, 3, 0, 167, 0), (33, .if_icmp .ge 30, 3, 0, 0, 0), (36, .aload_n 0, 1, 0, 0, 0), (37, .getfield 9, 3, 0, 6, 5), (40, .aload_n 0, 1, 0, 0, 0), (41, .getfield 32, 3, 0, 6, 2), (44, .iload_n 2, 1, 0, 0, 0), (45, .iadd, 1, 0, 0, 0), (46, .iaload, 1, 0, 0, 0), (47, .aload_n 1, 1, 0, 0, 0), (48, .iload_n 2, 1, 0, 0, 0), (49, .invokevirtual 52, 3, 0, 168, 0), (52, .if_icmp .eq 5, 3, 0, 0, 0), (55, .iconst 0, 1, 0, 0, 0), (56, .ireturn, 1, 0, 0, 0), (57, .iinc 2 1, 3, 0, 0, 0), (60, .goto (-32), 3, 0, 0, 0), (63, .iconst 1, 1, 0, 0, 0), (64, .ireturn, 1, 0, 0, 0)] -- X6_reads
def cd46 : List AE := [(0, .aload_n 0, 1, 0, 0, 0), (1, .invokespecial 3, 3, 0, 990, 0), (4, .aload_n 0, 1, 0, 0, 0), (5, .sipush 150, 3, 0, 0, 0), (8, .newarray .int, 2, 0, 0, 0), (10, .putfield 9, 3, 0, 7, 1), (13, .aload_n 0, 1, 0, 0, 0), (14, .sipush 150, 3, 0, 0, 0), (17, .newarray .int, 2, 0, 0, 0), (19, .putfield 15, 3, 0, 7, 2), (22, .aload_n 0, 1, 0, 0, 0), (23, .sipush 150, 3, 0, 0, 0), (26, .newarray .int, 2, 0, 0, 0), (28, .putfield 18, 3, 0, 7, 3), (31, .aload_n 0, 1, 0, 0, 0), (32, .sipush 150, 3, 0, 0, 0), (35, .newarray .int, 2, 0, 0, 0), (37, .putfield 21, 3, 0, 7, 4), (40, .aload_n 0, 1, 0, 0, 0), (41, .sipush 150, 3, 0, 0, 0), (44, .newarray .int, 2, 0, 0, 0), (46, .putfield 24, 3, 0, 7, 5), (49, .aload_n 0, 1, 0, 0, 0), (50, .sipush 150, 3, 0, 0, 0), (53, .newarray .boolean, 2, 0, 0, 0), (55, .putfield 27, 3, 0, 7, 6), (58, .return_, 1, 0, 0, 0)] -- X7_init
def cd47 : List AE := [(0, .aload_n 0, 1, 0, 0, 0), (1, .getfield 31, 3, 0, 7, 0), (4, .sipush 150, 3, 0, 0, 0), (7, .if_icmp .lt 4, 3, 0, 0, 0), (10, .return_, 1, 0, 0, 0), (11, .aload_n 0, 1, 0, 0, 0), (12, .getfield 9, 3, 0, 7, 1), (15, .aload_n 0, 1, 0, 0, 0), (16, .getfield 31, 3, 0, 7, 0), (19, .iload_n 1, 1, 0, 0, 0), (20, .iastore, 1, 0, 0, 0), (21, .aload_n 0, 1, 0, 0, 0), (22, .getfield 15, 3, 0, 7, 2), (25, .aload_n 0, 1, 0, 0, 0), (26, .getfield 31, 3, 0, 7, 0), (29, .iload_n 2, 1, 0, 0, 0), (30, .iastore, 1, 0, 0, 0), (31, .aload_n 0, 1, 0, 0, 0), (32, .getfield 18, 3, 0, 7, 3), (35, .aload_n 0, 1, 0, 0, 0), (36, .getfield 31, 3, 0, 7, 0), (39, .iload_n 3, 1, 0, 0, 0), (40, .iastore, 1, 0, 0, 0), (41, .aload_n 0, 1, 0, 0, 0), (42, .getfield 21, 3, 0, 7, 4), (45, .aload_n 0, 1, 0, 0, 0), (46, .getfield 31, 3, 0, 7, 0), (49, .iload 4, 2, 0, 0, 0), (51, .iastore, 1, 0, 0, 0), (52, .aload_n 0, 1, 0, 0, 0), (53, .getfield 24, 3, 0, 7, 5), (56, .aload_n 0, 1, 0, 0, 0), (57, .getfield 31, 3, 0, 7, 0), (60, .iload 5, 2, 0, 0, 0), (62, .iastore, 1, 0, 0, 0), (63, .aload_n 0, 1, 0, 0, 0), (64, .getfield 27, 3, 0, 7, 6), (67, .aload_n 0, 1, 0, 0, 0), (68, .getfield 31, 3, 0, 7, 0), (71, .iload 6, 2, 0, 0, 0), (73, .bastore, 1, 0, 0, 0), (74, .aload_n 0, 1, 0, 0, 0), (75, .dup, 1, 0, 0, 0), (76, .getfield 31, 3, 0, 7, 0), (79, .iconst 1, 1, 0, 0, 0), (80, .iadd, 1, 0, 0, 0), (81, .putfield 31, 3, 0, 7, 0), (84, .return_, 1, 0, 0, 0)] -- X7_add
def cd48 : List AE := [(0, .aload_n 0, 1, 0, 0, 0), (1, .invokespecial 3, 3, 0, 990, 0), (4, .aload_n 0, 1, 0, 0, 0), (5, .bipush 10, 2, 0, 0, 0), (7, .newarray .int, 2, 0, 0, 0), (9, .putfield 9, 3, 0, 8, 4), (12, .aload_n 0, 1, 0, 0, 0), (13, .bipush 10, 2, 0, 0, 0), (15, .newarray .int, 2, 0, 0, 0), (17, .putfield 15, 3, 0, 8, 5), (20, .aload_n 0, 1, 0, 0, 0), (21, .bipush 10, 2, 0, 0, 0), (23, .newarray .int, 2, 0, 0, 0), (25, .putfield 18, 3, 0, 8, 6), (28, .aload_n 0, 1, 0, 0, 0), (29, .bipush 10, 2, 0, 0, 0), (31, .newarray .int, 2, 0, 0, 0), (33, .putfield 21, 3, 0, 8, 7), (36, .return_, 1, 0, 0, 0)] -- X8_init
def cd49 : List AE := [(0, .aload_n 0, 1, 0, 0, 0), (1, .iconst 0, 1, 0, 0, 0), (2, .putfield 24, 3, 0, 8, 3), (5, .iconst 0, 1, 0, 0, 0), (6, .istore 7, 2, 0, 0, 0), (8, .iload 7, 2, 0, 0, 0), (10, .bipush 10, 2, 0, 0, 0), (12, .if_icmp .ge 141, 3, 0, 0, 0), (15, .iload 7, 2, 0, 0, 0), (17, .bipush 6, 2, 0, 0, 0), (19, .imul, 1, 0, 0, 0), (20, .iload 6, 2, 0, 0, 0), (22, .iadd, 1, 0, 0, 0), (23, .istore 8, 2, 0, 0, 0), (25, .aload_n 3, 1, 0, 0, 0), (26, .iload 7, 2, 0, 0, 0), (28, .invokevirtual 28, 3, 0, 20, 0), (31, .iload 5, 2, 0, 0, 0), (33, .if_icmp .ne 114, 3, 0, 0, 0), (36, .aload_n 1, 1, 0, 0, 0), (37, .getfield 34, 3, 0, 5, 3), (40, .iload 8, 2, 0, 0, 0), (42, .iaload, 1, 0, 0, 0), (43, .iconst (-1), 1, 0, 0, 0), (44, .if_icmp .eq 103, 3, 0, 0, 0), (47, .aload_n 1, 1, 0, 0, 0), (48, .getfield 37, 3, 0, 5, 5), (51, .iload 8, 2, 0, 0, 0), (53, .baload, 1, 0, 0, 0), (54, .ifCond .ne 93, 3, 0, 0, 0), (57, .aload_n 0, 1, 0, 0, 0), (58, .getfield 9, 3, 0, 8, 4), (61, .aload_n 0, 1, 0, 0, 0), (62, .getfield 24, 3, 0, 8, 3), (65, .iload 7, 2, 0, 0, 0), (67, .iastore, 1, 0, 0, 0), (68, .aload_n 0, 1, 0, 0, 0), (69, .getfield 15, 3, 0, 8, 5), (72, .aload_n 0, 1, 0, 0, 0), (73, .getfield 24, 3, 0, 8, 3), (76, .aload_n 1, 1, 0, 0, 0), (77, .getfield 34, 3, 0, 5, 3), (80, .iload 8, 2, 0, 0, 0), (82, .iaload, 1, 0, 0, 0), (83, .iastore, 1, 0, 0, 0), (84, .aload_n 0, 1, 0, 0, 0), (85, .getfield 18, 3, 0, 8, 6), (88, .aload_n 0, 1, 0, 0, 0), (89, .getfield 24, 3, 0, 8, 3), (92, .aload_n 1, 1, 0, 0, 0), (93, .getfield 41, 3, 0, 5, 4), (96, .iload 8, 2, 0, 0, 0), (98, .iaload, 1, 0, 0, 0), (99, .iastore, 1, 0, 0, 0), (100, .aload_n 0, 1, 0, 0, 0), (101, .getfield 21, 3, 0, 8, 7), (104, .aload_n 0, 1, 0, 0, 0), (105, .getfield 24, 3, 0, 8, 3), (108, .aload 4, 2, 0, 0, 0), (110, .aload_n 2, 1, 0, 0, 0), (111, .getfield 42, 3, 0, 4, 1), (114, .iload 7, 2, 0, 0, 0), (116, .iaload, 1, 0, 0, 0), (117, .iload 6, 2, 0, 0, 0), (119, .aload_n 1, 1, 0, 0, 0), (120, .getfield 47, 3, 0, 5, 0), (123, .i2l, 1, 0, 0, 0), (124, .aload_n 1, 1, 0, 0, 0), (125, .getfield 41, 3, 0, 5, 4), (128, .iload 8, 2, 0, 0, 0), (130, .iaload, 1, 0, 0, 0), (131, .i2l, 1, 0, 0, 0), (132, .lsub, 1, 0, 0, 0), (133, .invokevirtual 50, 3, 0, 57, 0), (136, .iastore, 1, 0, 0, 0), (137, .aload_n 0, 1, 0, 0, 0), (138, .dup, 1, 0, 0, 0), (139, .getfield 24, 3, 0, 8, 3), (142, .iconst 1, 1, 0, 0, 0), (143, .iadd, 1, 0, 0, 0), (144, .putfield 24, 3, 0, 8, 3), (147, .iinc 7 1, 3, 0, 0, 0), (150, .goto (-142), 3, 0, 0, 0), (153, .return_, 1, 0, 0, 0)] -- X8_gather
def cd50 : List AE := [(0, .aload_n 0, 1, 0, 0, 0), (1, .iconst (-1), 1, 0, 0, 0), (2, .putfield 55, 3, 0, 8, 0), (5, .aload_n 0, 1, 0, 0, 0), (6, .iconst (-1), 1, 0, 0, 0), (7, .putfield 58, 3, 0, 8, 1), (10, .aload_n 0, 1, 0, 0, 0), (11, .iconst 0, 1, 0, 0, 0), (12, .putfield 61, 3, 0, 8, 2), (15, .iconst (-1), 1, 0, 0, 0), (16, .istore_n 1, 1, 0, 0, 0), (17, .iconst (-1), 1, 0, 0, 0), (18, .istore_n 2, 1, 0, 0, 0), (19, .iconst 0, 1, 0, 0, 0), (20, .istore_n 3, 1, 0, 0, 0), (21, .iload_n 3, 1, 0, 0, 0), (22, .aload_n 0, 1, 0, 0, 0), (23, .getfield 24, 3, 0, 8, 3), (26, .if_icmp .ge 92, 3, 0, 0, 0), (29, .aload_n 0, 1, 0, 0, 0), (30, .iload_n 3, 1, 0, 0, 0), (31, .invokevirtual 64, 3, 0, 52, 0), (34, .ifCond .eq 78, 3, 0, 0, 0), (37, .aload_n 0, 1, 0, 0, 0), (38, .dup, 1, 0, 0, 0), (39, .getfield 61, 3, 0, 8, 2), (42, .iconst 1, 1, 0, 0, 0), (43, .iadd, 1, 0, 0, 0), (44, .putfield 61, 3, 0, 8, 2), (47, .aload_n 0, 1, 0, 0, 0), (48, .aload_n 0, 1, 0, 0, 0), (49, .getfield 15, 3, 0, 8, 5), (52, .iload_n 3, 1, 0, 0, 0), (53, .iaload, 1, 0, 0, 0), (54, .invokevirtual 68, 3, 0, 53, 0), (57, .istore 4, 2, 0, 0, 0), (59, .aload_n 0, 1, 0, 0, 0), (60, .aload_n 0, 1, 0, 0, 0), (61, .getfield 15, 3, 0, 8, 5), (64, .iload_n 3, 1, 0, 0, 0), (65, .iaload, 1, 0, 0, 0), (66, .invokevirtual 71, 3, 0, 54, 0), (69, .istore 5, 2, 0, 0, 0), (71, .iload 4, 2, 0, 0, 0), (73, .iload_n 1, 1, 0, 0, 0), (74, .isub, 1, 0, 0, 0), (75, .iload 5, 2, 0, 0, 0), (77, .iload_n 2, 1, 0, 0, 0), (78, .isub, 1, 0, 0, 0), (79, .aload_n 0, 1, 0, 0, 0), (80, .getfield 55, 3, 0, 8, 0), (83, .aload_n 0, 1, 0, 0, 0), (84, .getfield 15, 3, 0, 8, 5), (87, .iload_n 3, 1, 0, 0, 0), (88, .iaload, 1, 0, 0, 0), (89, .isub, 1, 0, 0, 0), (90, .invokestatic 74, 3, 0, 51, 0), (93, .ifCond .eq 19, 3, 0, 0, 0), (96, .iload 4, 2, 0, 0, 0), (98, .istore_n 1, 1, 0, 0, 0), (99, .iload 5, 2, 0, 0, 0), (101, .istore_n 2, 1, 0, 0, 0), (102, .aload_n 0, 1, 0, 0, 0), (103, .aload_n 0, 1, 0, 0, 0), (104, .getfield 15, 3, 0, 8, 5), (107, .iload_n 3, 1, 0, 0, 0), (108, .iaload, 1, 0, 0, 0), (109, .putfield 55, 3, 0, 8, 0), (112, .iinc 3 1, 3, 0, 0, 0), (115, .goto (-94), 3, 0, 0, 0), (118, .aload_n 0, 1, 0, 0, 0), (119, .aload_n 0, 1, 0, 0, 0), (120, .aload_n 0, 1, 0, 0, 0), (121, .getfield 55, 3, 0, 8, 0), (124, .invokevirtual 78, 3, 0, 55, 0), (127, .putfield 58, 3, 0, 8, 1), (130, .return_, 1, 0, 0, 0)] -- X8_choose
def cd51 : List AE := [(0, .iload_n 0, 1, 0, 0, 0), (1, .ifCond .eq 13, 3, 0, 0, 0), (4, .iload_n 0, 1, 0, 0, 0), (5, .ifCond .le 7, 3, 0, 0, 0), (8, .iconst 1, 1, 0, 0, 0), (9, .goto 4, 3, 0, 0, 0), (12, .iconst 0, 1, 0, 0, 0), (13, .ireturn, 1, 0, 0, 0), (14, .iload_n 1, 1, 0, 0, 0), (15, .ifCond .eq 15, 3, 0, 0, 0), (18, .iload_n 1, 1, 0, 0, 0), (19, .ifCond .le 7, 3, 0, 0, 0), (22, .iconst 1, 1, 0, 0, 0), (23, .goto 16, 3, 0, 0, 0), (26, .iconst 0, 1, 0, 0, 0), (27, .goto 12, 3, 0, 0, 0), (30, .iload_n 2, 1, 0, 0, 0), (31, .ifCond .le 7, 3, 0, 0, 0), (34, .iconst 1, 1, 0, 0, 0), (35, .goto 4, 3, 0, 0, 0), (38, .iconst 0, 1, 0, 0, 0), (39, .ireturn, 1, 0, 0, 0)] -- X8_isAhead
def cd52 : List AE := [(0, .iconst 0, 1, 0, 0, 0), (1, .istore_n 2, 1, 0, 0, 0), (2, .iload_n 2, 1, 0, 0, 0), (3, .iload_n 1, 1, 0, 0, 0), (4, .if_icmp .ge 26, 3, 0, 0, 0), (7, .aload_n 0, 1, 0, 0, 0), (8, .getfield 15, 3, 0, 8, 5), (11, .iload_n 2, 1, 0, 0, 0), (12, .iaload, 1, 0, 0, 0), (13, .aload_n 0, 1, 0, 0, 0), (14, .getfield 15, 3, 0, 8, 5), (17, .iload_n 1, 1, 0, 0, 0), (18, .iaload, 1, 0, 0, 0), (19, .if_icmp .ne 5, 3, 0, 0, 0), (22, .iconst 0, 1, 0, 0, 0), (23, .ireturn, 1, 0, 0, 0), (24, .iinc 2 1, 3, 0, 0, 0), (27, .goto (-25), 3, 0, 0, 0), (30, .iconst 1, 1, 0, 0, 0), (31, .ireturn, 1, 0, 0, 0)] -- X8_isFirst
def cd53 : List AE := [(0, .iconst 0, 1, 0, 0, 0), (1, .istore_n 2, 1, 0, 0, 0), (2, .iconst 0, 1, 0, 0, 0), (3, .istore_n 3, 1, 0, 0, 0), (4, .iload_n 3, 1, 0, 0, 0), (5, .aload_n 0, 1, 0, 0, 0), (6, .getfield 24, 3, 0, 8, 3), (9, .if_icmp .ge 28, 3, 0, 0, 0), (12, .aload_n 0, 1, 0, 0, 0), (13, .getfield 15, 3, 0, 8, 5), (16, .iload_n 3, 1, 0, 0, 0), (17, .iaload, 1, 0, 0, 0), (18, .iload_n 1, 1, 0, 0, 0), (19, .if_icmp .ne 12, 3, 0, 0, 0), (22, .iload_n 2, 1, 0, 0, 0), (23, .aload_n 0, 1, 0, 0, 0), (24, .getfield 21, 3, 0, 8, 7), (27, .iload_n 3, 1, 0, 0, 0), (28, .iaload, 1, 0, 0, 0), (29, .iadd, 1, 0, 0, 0), (30, .istore_n 2, 1, 0, 0, 0), (31, .iinc 3 1, 3, 0, 0, 0), (34, .goto (-30), 3, 0, 0, 0), (37, .iload_n 2, 1, 0, 0, 0), (38, .ireturn, 1, 0, 0, 0)] -- X8_sumFor
def cd54 : List AE := [(0, .iconst (-1), 1, 0, 0, 0), (1, .istore_n 2, 1, 0, 0, 0), (2, .iconst 0, 1, 0, 0, 0), (3, .istore_n 3, 1, 0, 0, 0), (4, .iload_n 3, 1, 0, 0, 0), (5, .aload_n 0, 1, 0, 0, 0), (6, .getfield 24, 3, 0, 8, 3), (9, .if_icmp .ge 30, 3, 0, 0, 0), (12, .aload_n 0, 1, 0, 0, 0), (13, .getfield 15, 3, 0, 8, 5), (16, .iload_n 3, 1, 0, 0, 0), (17, .iaload, 1, 0, 0, 0), (18, .iload_n 1, 1, 0, 0, 0), (19, .if_icmp .ne 14, 3, 0, 0, 0), (22, .iload_n 2, 1, 0, 0, 0), (23, .aload_n 0, 1, 0, 0, 0), (24, .getfield 18, 3, 0, 8, 6), (27, .iload_n 3, 1, 0, 0, 0), (28, .iaload, 1, 0, 0, 0), (29, .invokestatic 81, 3, 0, 991, 0), (32, .istore_n 2, 1, 0, 0, 0), (33, .iinc 3 1, 3, 0, 0, 0), (36, .goto (-32), 3, 0, 0, 0), (39, .iload_n 2, 1, 0, 0, 0), (40, .ireturn, 1, 0, 0, 0)] -- X8_latestFor
def cd55 : List AE := [(0, .iconst (-1), 1, 0, 0, 0), (1, .istore_n 2, 1, 0, 0, 0), (2, .iconst (-1), 1, 0, 0, 0), (3, .istore_n 3, 1, 0, 0, 0), (4, .iconst 0, 1, 0, 0, 0), (5, .istore 4, 2, 0, 0, 0), (7, .iload 4, 2, 0, 0, 0), (9, .aload_n 0, 1, 0, 0, 0), (10, .getfield 24, 3, 0, 8, 3), (13, .if_icmp .ge 47, 3, 0, 0, 0), (16, .aload_n 0, 1, 0, 0, 0), (17, .getfield 15, 3, 0, 8, 5), (20, .iload 4, 2, 0, 0, 0), (22, .iaload, 1, 0, 0, 0), (23, .iload_n 1, 1, 0, 0, 0), (24, .if_icmp .ne 30, 3, 0, 0, 0), (27, .aload_n 0, 1, 0, 0, 0), (28, .getfield 21, 3, 0, 8, 7), (31, .iload 4, 2, 0, 0, 0), (33, .iaload, 1, 0, 0, 0), (34, .iload_n 3, 1, 0, 0, 0), (35, .if_icmp .le 19, 3, 0, 0, 0), (38, .aload_n 0, 1, 0, 0, 0), (39, .getfield 21, 3, 0, 8, 7), (42, .iload 4, 2, 0, 0, 0), (44, .iaload, 1, 0, 0, 0), (45, .istore_n 3, 1, 0, 0, 0), (46, .aload_n 0, 1, 0, 0, 0), (47, .getfield 9, 3, 0, 8, 4), (50, .iload 4, 2, 0, 0, 0), (52, .iaload, 1, 0, 0, 0), (53, .istore_n 2, 1, 0, 0, 0), (54, .iinc 4 1, 3, 0, 0, 0), (57, .goto (-50), 3, 0, 0, 0), (60, .iload_n 2, 1, 0, 0, 0), (61, .ireturn, 1, 0, 0, 0)] -- X8_strongestFor
def cd56 : List AE := [(0, .aload_n 0, 1, 0, 0, 0), (1, .invokespecial 3, 3, 0, 990, 0), (4, .aload_n 0, 1, 0, 0, 0), (5, .bipush 36, 2, 0, 0, 0), (7, .newarray .int, 2, 0, 0, 0), (9, .putfield 9, 3, 0, 9, 0), (12, .aload_n 0, 1, 0, 0, 0), (13, .bipush 6, 2, 0, 0, 0), (15, .newarray .int, 2, 0, 0, 0), (17, .putfield 15, 3, 0, 9, 1), (20, .iconst 0, 1, 0, 0, 0), (21, .istore_n 1, 1, 0, 0, 0), (22, .iload_n 1, 1, 0, 0, 0), (23, .aload_n 0, 1, 0, 0, 0), (24, .getfield 9, 3, 0, 9, 0), (27, .arraylength, 1, 0, 0, 0), (28, .if_icmp .ge 16, 3, 0, 0, 0), (31, .aload_n 0, 1, 0, 0, 0), (32, .getfield 9, 3, 0, 9, 0), (35, .iload_n 1, 1, 0, 0, 0), (36, .iconst 1, 1, 0, 0, 0), (37, .iastore, 1, 0, 0, 0), (38, .iinc 1 1, 3, 0, 0, 0), (41, .goto (-19), 3, 0, 0, 0), (44, .return_, 1, 0, 0, 0)] -- X9_init
def cd57 : List AE := [(0, .ldc2_w 18, 3, 100, 0, 0), (3, .aload_n 0, 1, 0, 0, 0), (4, .getfield 9, 3, 0, 9, 0), (7, .iload_n 1, 1, 0, 0, 0), (8, .bipush 6, 2, 0, 0, 0), (10, .imul, 1, 0, 0, 0), (11, .iload_n 2, 1, 0, 0, 0), (12, .iadd, 1, 0, 0, 0), (13, .iaload, 1, 0, 0, 0), (14, .i2l, 1, 0, 0, 0), (15, .lmul, 1, 0, 0, 0), (16, .aload_n 0, 1, 0, 0, 0), (17, .getfield 15, 3, 0, 9, 1), (20, .iload_n 2, 1, 0, 0, 0), (21, .iaload, 1, 0, 0, 0), (22, .i2l, 1, 0, 0, 0), (23, .lload_n 3, 1, 0, 0, 0), (24, .lmul, 1, 0, 0, 0), (25, .lsub, 1, 0, 0, 0), (26, .lstore 5, 2, 0, 0, 0), (28, .lload 5, 2, 0, 0, 0), (30, .lconst 0, 1, 0, 0, 0), (31, .lcmp, 1, 0, 0, 0), (32, .ifCond .le 9, 3, 0, 0, 0), (35, .lload 5, 2, 0, 0, 0), (37, .l2i, 1, 0, 0, 0), (38, .goto 4, 3, 0, 0, 0), (41, .iconst 0, 1, 0, 0, 0), (42, .ireturn, 1, 0, 0, 0)] -- X9_weight
def cd58 : List AE := [(0, .aload_n 0, 1, 0, 0, 0), (1, .invokespecial 1, 3, 0, 990, 0), (4, .iload_n 1, 1, 0, 0, 0), (5, .iconst 0, 1, 0, 0, 0), (6, .invokestatic 7, 3, 0, 991, 0), (9, .istore_n 2, 1, 0, 0, 0), (10, .aload_n 0, 1, 0, 0, 0), (11, .iload_n 2, 1, 0, 0, 0), (12, .newarray .int, 2, 0, 0, 0), (14, .putfield 13, 3, 0, 10, 1), (17, .aload_n 0, 1, 0, 0, 0), (18, .iload_n 2, 1, 0, 0, 0), (19, .newarray .int, 2, 0, 0, 0), (21, .putfield 19, 3, 0, 10, 2), (24, .aload_n 0, 1, 0, 0, 0), (25, .iload_n 2, 1, 0, 0, 0), (26, .newarray .int, 2, 0, 0, 0), (28, .putfield 22, 3, 0, 10, 3), (31, .return_, 1, 0, 0, 0)] -- X10_init
def cd59 : List AE := [(0, .aload_n 0, 1, 0, 0, 0), (1, .getfield 25, 3, 0, 10, 0), (4, .aload_n 0, 1, 0, 0, 0), (5, .getfield 13, 3, 0, 10, 1), (8, .arraylength, 1, 0, 0, 0), (9, .if_icmp .lt 4, 3, 0, 0, 0), (12, .return_, 1, 0, 0, 0), (13, .aload_n 0, 1, 0, 0, 0), (14, .getfield 13, 3, 0, 10, 1), (17, .aload_n 0, 1, 0, 0, 0), (18, .getfield 25, 3, 0, 10, 0), (21, .iload_n 1, 1, 0, 0, 0), (22, .iastore, 1, 0, 0, 0), (23, .aload_n 0, 1, 0, 0, 0), (24, .getfield 19, 3, 0, 10, 2), (27, .aload_n 0, 1, 0, 0, 0), (28, .getfield 25, 3, 0, 10, 0), (31, .iload_n 2, 1, 0, 0, 0), (32, .iastore, 1, 0, 0, 0), (33, .aload_n 0, 1, 0, 0, 0), (34, .getfield 22, 3, 0, 10, 3), (37, .aload_n 0, 1, 0, 0, 0), (38, .getfield 25, 3, 0, 10, 0), (41, .iload_n 3, 1, 0, 0, 0), (42, .iastore, 1, 0, 0, 0), (43, .aload_n 0, 1, 0, 0, 0), (44, .dup, 1, 0, 0, 0), (45, .getfield 25, 3, 0, 10, 0), (48, .iconst 1, 1, 0, 0, 0), (49, .iadd, 1, 0, 0, 0), (50, .putfield 25, 3, 0, 10, 0), (53, .return_, 1, 0, 0, 0)] -- X10_add
def cd60 : List AE := [(0, .iconst 0, 1, 0, 0, 0), (1, .istore 4, 2, 0, 0, 0), (3, .iload 4, 2, 0, 0, 0), (5, .aload_n 0, 1, 0, 0, 0), (6, .getfield 25, 3, 0, 10, 0), (9, .if_icmp .ge 44, 3, 0, 0, 0), (12, .aload_n 0, 1, 0, 0, 0), (13, .getfield 13, 3, 0, 10, 1), (16, .iload 4, 2, 0, 0, 0), (18, .iaload, 1, 0, 0, 0), (19, .iload_n 1, 1, 0, 0, 0), (20, .if_icmp .ne 27, 3, 0, 0, 0), (23, .aload_n 0, 1, 0, 0, 0), (24, .getfield 19, 3, 0, 10, 2), (27, .iload 4, 2, 0, 0, 0), (29, .iaload, 1, 0, 0, 0), (30, .iload_n 2, 1, 0, 0, 0), (31, .if_icmp .ne 16, 3, 0, 0, 0), (34, .aload_n 0, 1, 0, 0, 0), (35, .getfield 22, 3, 0, 10, 3), (38, .iload 4, 2, 0, 0, 0), (40, .iaload, 1, 0, 0, 0), (41, .iload_n 3, 1, 0, 0, 0), (42, .if_icmp .ne 5, 3, 0, 0, 0), (45, .iconst 1, 1, 0, 0, 0), (46, .ireturn, 1, 0, 0, 0), (47, .iinc 4 1, 3, 0, 0, 0), (50, .goto (-47), 3, 0, 0, 0), (53, .iconst 0, 1, 0, 0, 0), (54, .ireturn, 1, 0, 0, 0)] -- X10_has
def cd61 : List AE := [(0, .aload_n 0, 1, 0, 0, 0), (1, .invokespecial 3, 3, 0, 990, 0), (4, .aload_n 0, 1, 0, 0, 0), (5, .new 9, 3, 0, 0, 8), (8, .dup, 1, 0, 0, 0), (9, .invokespecial 11, 3, 0, 0, 0), (12, .putfield 12, 3, 0, 11, 3), (15, .aload_n 0, 1, 0, 0, 0), (16, .new 9, 3, 0, 0, 8), (19, .dup, 1, 0, 0, 0), (20, .invokespecial 11, 3, 0, 0, 0), (23, .putfield 16, 3, 0, 11, 4), (26, .aload_n 0, 1, 0, 0, 0), (27, .new 19, 3, 0, 9, 2), (30, .dup, 1, 0, 0, 0), (31, .invokespecial 21, 3, 0, 56, 0), (34, .putfield 22, 3, 0, 11, 5), (37, .aload_n 0, 1, 0, 0, 0), (38, .bipush 6, 2, 0, 0, 0), (40, .newarray .int, 2, 0, 0, 0), (42, .putfield 26, 3, 0, 11, 6), (45, .aload_n 0, 1, 0, 0, 0), (46, .new 30, 3, 0, 4, 4), (49, .dup, 1, 0, 0, 0), (50, .invokespecial 32, 3, 0, 30, 0), (53, .putfield 33, 3, 0, 11, 7), (56, .aload_n 0, 1, 0, 0, 0), (57, .new 37, 3, 0, 7, 7), (60, .dup, 1, 0, 0, 0), (61, .invokespecial 39, 3, 0, 46, 0), (64, .putfield 40, 3, 0, 11, 8), (67, .aload_n 0, 1, 0, 0, 0), (68, .new 44, 3, 0, 6, 7), (71, .dup, 1, 0, 0, 0), (72, .invokespecial 46, 3, 0, 38, 0), (75, .putfield 47, 3, 0, 11, 9), (78, .aload_n 0, 1, 0, 0, 0), (79, .new 51, 3, 0, 2, 2), (82, .dup, 1, 0, 0, 0), (83, .invokespecial 53, 3, 0, 11, 0), (86, .putfield 54, 3, 0, 11, 10), (89, .aload_n 0, 1, 0, 0, 0), (90, .new 58, 3, 0, 1, 6), (93, .dup, 1, 0, 0, 0), (94, .bipush 20, 2, 0, 0, 0), (96, .invokespecial 60, 3, 0, 7, 0), (99, .putfield 63, 3, 0, 11, 11), (102, .aload_n 0, 1, 0, 0, 0), (103, .new 58, 3, 0, 1, 6), (106, .dup, 1, 0, 0, 0), (107, .bipush 20, 2, 0, 0, 0), (109, .invokespecial 60, 3, 0, 7, 0), (112, .putfield 67, 3, 0, 11, 12), (115, .aload_n 0, 1, 0, 0, 0), (116, .new 70, 3, 0, 5, 6), (119, .dup, 1, 0, 0, 0), (120, .invokespecial 72, 3, 0, 33, 0), (123, .putfield 73, 3, 0, 11, 13), (126, .aload_n 0, 1, 0, 0, 0), (127, .new 77, 3, 0, 3, 15), (130, .dup, 1, 0, 0, 0), (131, .invokespecial 79, 3, 0, 19, 0), (134, .putfield 80, 3, 0, 11, 14), (137, .aload_n 0, 1, 0, 0, 0), (138, .new 84, 3, 0, 8, 8), (141, .dup, 1, 0, 0, 0), (142, .invokespecial 86, 3, 0, 48, 0), (145, .putfield 87, 3, 0, 11, 15), (148, .aload_n 0, 1, 0, 0, 0), (149, .new 91, 3, 0, 10, 4), (152, .dup, 1, 0, 0, 0), (153, .bipush 60, 2, 0, 0, 0), (155, .invokespecial 93, 3, 0, 58, 0), (158, .putfield 94, 3, 0, 11, 16), (161, .aload_n 0, 1, 0, 0, 0), (162, .new 91, 3, 0, 10, 4), (165, .dup, 1, 0, 0, 0), (166, .bipush 60, 2, 0, 0, 0), (168, .invokespecial 93, 3, 0, 58, 0), (171, .putfield 98, 3, 0, 11, 17), (174, .return_, 1, 0, 0, 0)] -- X11_init
def cd62 : List AE := [(0, .iload_n 1, 1, 0, 0, 0), (1, .invokestatic 101, 3, 0, 90, 0), (4, .ifCond .eq 20, 3, 0, 0, 0), (7, .iload_n 2, 1, 0, 0, 0), (8, .invokestatic 105, 3, 0, 91, 0), (11, .ifCond .eq 13, 3, 0, 0, 0), (14, .iload_n 3, 1, 0, 0, 0), (15, .ifCond .lt 9, 3, 0, 0, 0), (18, .iload_n 3, 1, 0, 0, 0), (19, .bipush 9, 2, 0, 0, 0), (21, .if_icmp .le 5, 3, 0, 0, 0), (24, .iconst 0, 1, 0, 0, 0), (25, .ireturn, 1, 0, 0, 0), (26, .aload_n 0, 1, 0, 0, 0), (27, .getfield 22, 3, 0, 11, 5), (30, .getfield 108, 3, 0, 9, 0), (33, .iload_n 1, 1, 0, 0, 0), (34, .bipush 6, 2, 0, 0, 0), (36, .imul, 1, 0, 0, 0), (37, .iload_n 2, 1, 0, 0, 0), (38, .iadd, 1, 0, 0, 0), (39, .iload_n 3, 1, 0, 0, 0), (40, .iastore, 1, 0, 0, 0), (41, .iconst 1, 1, 0, 0, 0), (42, .ireturn, 1, 0, 0, 0)] -- X11_trust
def cd63 : List AE := [(0, .iload_n 1, 1, 0, 0, 0), (1, .invokestatic 105, 3, 0, 91, 0), (4, .ifCond .eq 13, 3, 0, 0, 0), (7, .iload_n 2, 1, 0, 0, 0), (8, .ifCond .lt 9, 3, 0, 0, 0), (11, .iload_n 2, 1, 0, 0, 0), (12, .bipush 50, 2, 0, 0, 0), (14, .if_icmp .le 5, 3, 0, 0, 0), (17, .iconst 0, 1, 0, 0, 0), (18, .ireturn, 1, 0, 0, 0), (19, .aload_n 0, 1, 0, 0, 0), (20, .getfield 22, 3, 0, 11, 5), (23, .getfield 111, 3, 0, 9, 1), (26, .iload_n 1, 1, 0, 0, 0), (27, .iload_n 2, 1, 0, 0, 0), (28, .iastore, 1, 0, 0, 0), (29, .iconst 1, 1, 0, 0, 0), (30, .ireturn, 1, 0, 0, 0)] -- X11_fade
def cd64 : List AE := [(0, .iload_n 1, 1, 0, 0, 0), (1, .invokestatic 101, 3, 0, 90, 0), (4, .ifCond .eq 13, 3, 0, 0, 0), (7, .iload_n 2, 1, 0, 0, 0), (8, .ifCond .lt 9, 3, 0, 0, 0), (11, .iload_n 2, 1, 0, 0, 0), (12, .bipush 63, 2, 0, 0, 0), (14, .if_icmp .le 5, 3, 0, 0, 0), (17, .iconst 0, 1, 0, 0, 0), (18, .ireturn, 1, 0, 0, 0), (19, .aload_n 0, 1, 0, 0, 0), (20, .getfield 26, 3, 0, 11, 6), (23, .iload_n 1, 1, 0, 0, 0), (24, .iload_n 2, 1, 0, 0, 0), (25, .iastore, 1, 0, 0, 0), (26, .iconst 1, 1, 0, 0, 0), (27, .ireturn, 1, 0, 0, 0)] -- X11_rights
def cd65 : List AE := [(0, .iload_n 1, 1, 0, 0, 0), (1, .invokestatic 101, 3, 0, 90, 0), (4, .ifCond .ne 5, 3, 0, 0, 0), (7, .iconst (-1), 1, 0, 0, 0), (8, .ireturn, 1, 0, 0, 0), (9, .aload_n 0, 1, 0, 0, 0), (10, .iconst 0, 1, 0, 0, 0), (11, .putfield 114, 3, 0, 11, 1), (14, .aload_n 0, 1, 0, 0, 0), (15, .getfield 33, 3, 0, 11, 7), (18, .iload_n 1, 1, 0, 0, 0), (19, .aload_n 0, 1, 0, 0, 0), (20, .getfield 118, 3, 0, 11, 0), (23, .invokevirtual 122, 3, 0, 31, 0), (26, .ireturn, 1, 0, 0, 0)] -- X11_row
def cd66 : List AE := [(0, .aload_n 0, 1, 0, 0, 0), (1, .getfield 33, 3, 0, 11, 7), (4, .iload_n 1, 1, 0, 0, 0), (5, .invokevirtual 126, 3, 0, 32, 0), (8, .ifCond .eq 29, 3, 0, 0, 0), (11, .iload_n 2, 1, 0, 0, 0), (12, .invokestatic 105, 3, 0, 91, 0), (15, .ifCond .eq 22, 3, 0, 0, 0), (18, .iload_n 3, 1, 0, 0, 0), (19, .invokestatic 129, 3, 0, 92, 0), (22, .ifCond .eq 15, 3, 0, 0, 0), (25, .iload 4, 2, 0, 0, 0), (27, .ifCond .lt 10, 3, 0, 0, 0), (30, .iload 4, 2, 0, 0, 0), (32, .ldc 132, 2, 100000, 0, 0), (34, .if_icmp .le 5, 3, 0, 0, 0), (37, .iconst (-1), 1, 0, 0, 0), (38, .ireturn, 1, 0, 0, 0), (39, .aload_n 0, 1, 0, 0, 0), (40, .getfield 40, 3, 0, 11, 8), (43, .getfield 133, 3, 0, 7, 0), (46, .sipush 150, 3, 0, 0, 0), (49, .if_icmp .lt 5, 3, 0, 0, 0), (52, .iconst (-1), 1, 0, 0, 0), (53, .ireturn, 1, 0, 0, 0), (54, .aload_n 0, 1, 0, 0, 0), (55, .iconst 0, 1, 0, 0, 0), (56, .putfield 114, 3, 0, 11, 1), (59, .aload_n 0, 1, 0, 0, 0), (60, .getfield 40, 3, 0, 11, 8), (63, .iload_n 1, 1, 0, 0, 0), (64, .iload_n 2, 1, 0, 0, 0), (65, .iload_n 3, 1, 0, 0, 0), (66, .iload 4, 2, 0, 0, 0), (68, .aload_n 0, 1, 0, 0, 0), (69, .getfield 118, 3, 0, 11, 0), (72, .iconst 0, 1, 0, 0, 0), (73, .invokevirtual 136, 3, 0, 47, 0), (76, .aload_n 0, 1, 0, 0, 0), (77, .getfield 40, 3, 0, 11, 8), (80, .getfield 133, 3, 0, 7, 0), (83, .ireturn, 1, 0, 0, 0)] -- X11_set
def cd67 : List AE := [(0, .aload_n 0, 1, 0, 0, 0), (1, .iload_n 3, 1, 0, 0, 0), (2, .iload 4, 2, 0, 0, 0), (4, .invokevirtual 139, 3, 0, 93, 0), (7, .aload_n 0, 1, 0, 0, 0), (8, .getfield 73, 3, 0, 11, 13), (11, .iload_n 1, 1, 0, 0, 0), (12, .iload_n 2, 1, 0, 0, 0), (13, .invokevirtual 143, 3, 0, 37, 0), (16, .ireturn, 1, 0, 0, 0)] -- X11_value
def cd68 : List AE := [(0, .aload_n 0, 1, 0, 0, 0), (1, .getfield 33, 3, 0, 11, 7), (4, .iload_n 1, 1, 0, 0, 0), (5, .invokevirtual 126, 3, 0, 32, 0), (8, .ifCond .ne 5, 3, 0, 0, 0), (11, .iconst 0, 1, 0, 0, 0), (12, .ireturn, 1, 0, 0, 0), (13, .aload_n 0, 1, 0, 0, 0), (14, .iconst 0, 1, 0, 0, 0), (15, .putfield 114, 3, 0, 11, 1), (18, .aload_n 0, 1, 0, 0, 0), (19, .getfield 33, 3, 0, 11, 7), (22, .getfield 146, 3, 0, 4, 3), (25, .iload_n 1, 1, 0, 0, 0), (26, .iconst 1, 1, 0, 0, 0), (27, .bastore, 1, 0, 0, 0), (28, .iconst 1, 1, 0, 0, 0), (29, .ireturn, 1, 0, 0, 0)] -- X11_forget
def cd69 : List AE := [(0, .iload_n 1, 1, 0, 0, 0), (1, .ifCond .lt 21, 3, 0, 0, 0), (4, .iload_n 1, 1, 0, 0, 0), (5, .sipush 1000, 3, 0, 0, 0), (8, .if_icmp .gt 14, 3, 0, 0, 0), (11, .aload_n 0, 1, 0, 0, 0), (12, .getfield 118, 3, 0, 11, 0), (15, .iload_n 1, 1, 0, 0, 0), (16, .iadd, 1, 0, 0, 0), (17, .ldc 132, 2, 100000, 0, 0), (19, .if_icmp .le 5, 3, 0, 0, 0), (22, .iconst (-1), 1, 0, 0, 0), (23, .ireturn, 1, 0, 0, 0), (24, .aload_n 0, 1, 0, 0, 0), (25, .dup, 1, 0, 0, 0), (26, .getfield 118, 3, 0, 11, 0), (29, .iload_n 1, 1, 0, 0, 0), (30, .iadd, 1, 0, 0, 0), (31, .putfield 118, 3, 0, 11, 0), (34, .aload_n 0, 1, 0, 0, 0), (35, .getfield 118, 3, 0, 11, 0), (38, .ireturn, 1, 0, 0, 0)] -- X11_later
def cd70 : List AE := [(0, .aload_n 0, 1, 0, 0, 0), (1, .getfield 47, 3, 0, 11, 9), (4, .getfield 150, 3, 0, 6, 0), (7, .bipush 20, 2, 0, 0, 0), (9, .iadd, 1, 0, 0, 0), (10, .sipush 500, 3, 0, 0, 0), (13, .if_icmp .le 5, 3, 0, 0, 0), (16, .iconst (-1), 1, 0, 0, 0), (17, .ireturn, 1, 0, 0, 0), (18, .aload_n 0, 1, 0, 0, 0), (19, .getfield 47, 3, 0, 11, 9), (22, .iload_n 1, 1, 0, 0, 0), (23, .invokevirtual 153, 3, 0, 39, 0), (26, .aload_n 0, 1, 0, 0, 0), (27, .getfield 47, 3, 0, 11, 9), (30, .iload_n 2, 1, 0, 0, 0), (31, .invokevirtual 153, 3, 0, 39, 0), (34, .aload_n 0, 1, 0, 0, 0), (35, .getfield 47, 3, 0, 11, 9), (38, .iload_n 3, 1, 0, 0, 0), (39, .invokevirtual 153, 3, 0, 39, 0), (42, .aload_n 0, 1, 0, 0, 0), (43, .getfield 47, 3, 0, 11, 9), (46, .iload 4, 2, 0, 0, 0), (48, .invokevirtual 153, 3, 0, 39, 0), (51, .aload_n 0, 1, 0, 0, 0), (52, .getfield 47, 3, 0, 11, 9), (55, .iload 5, 2, 0, 0, 0), (57, .invokevirtual 153, 3, 0, 39, 0), (60, .aload_n 0, 1, 0, 0, 0), (61, .getfield 47, 3, 0, 11, 9), (64, .getfield 150, 3, 0, 6, 0), (67, .ireturn, 1, 0, 0, 0)] -- X11_feed
def cd71 : List AE := [(0, .iload_n 1, 1, 0, 0, 0), (1, .ifCond .lt 14, 3, 0, 0, 0), (4, .iload_n 1, 1, 0, 0, 0), (5, .aload_n 0, 1, 0, 0, 0), (6, .getfield 47, 3, 0, 11, 9), (9, .getfield 150, 3, 0, 6, 0), (12, .if_icmp .le 5, 3, 0, 0, 0), (15, .iconst (-1), 1, 0, 0, 0), (16, .ireturn, 1, 0, 0, 0), (17, .aload_n 0, 1, 0, 0, 0), (18, .getfield 47, 3, 0, 11, 9), (21, .iload_n 1, 1, 0, 0, 0), (22, .putfield 150, 3, 0, 6, 0), (25, .iload_n 1, 1, 0, 0, 0), (26, .ireturn, 1, 0, 0, 0)] -- X11_end
def cd72 : List AE := [(0, .aload_n 0, 1, 0, 0, 0), (1, .getfield 54, 3, 0, 11, 10), (4, .aload_n 0, 1, 0, 0, 0), (5, .getfield 47, 3, 0, 11, 9), (8, .aload_n 0, 1, 0, 0, 0), (9, .getfield 16, 3, 0, 11, 4), (12, .invokevirtual 156, 3, 0, 12, 0), (15, .istore_n 1, 1, 0, 0, 0), (16, .aload_n 0, 1, 0, 0, 0), (17, .getfield 47, 3, 0, 11, 9), (20, .iconst 0, 1, 0, 0, 0), (21, .putfield 150, 3, 0, 6, 0), (24, .iload_n 1, 1, 0, 0, 0), (25, .ifCond .ne 5, 3, 0, 0, 0), (28, .iconst (-1), 1, 0, 0, 0), (29, .ireturn, 1, 0, 0, 0), (30, .aload_n 0, 1, 0, 0, 0), (31, .getfield 12, 3, 0, 11, 3), (34, .astore_n 2, 1, 0, 0, 0), (35, .aload_n 0, 1, 0, 0, 0), (36, .aload_n 0, 1, 0, 0, 0), (37, .getfield 16, 3, 0, 11, 4), (40, .putfield 12, 3, 0, 11, 3), (43, .aload_n 0, 1, 0, 0, 0), (44, .aload_n 2, 1, 0, 0, 0), (45, .putfield 16, 3, 0, 11, 4), (48, .aload_n 0, 1, 0, 0, 0), (49, .iconst 0, 1, 0, 0, 0), (50, .putfield 114, 3, 0, 11, 1), (53, .aload_n 0, 1, 0, 0, 0), (54, .getfield 12, 3, 0, 11, 3), (57, .getfield 160, 3, 0, 0, 0), (60, .ireturn, 1, 0, 0, 0)] -- X11_rules
def cd73 : List AE := [(0, .iload_n 1, 1, 0, 0, 0), (1, .lookupswitch 43 #[(0, 27), (1, 35)], 27, 0, 0, 0), (28, .aload_n 0, 1, 0, 0, 0), (29, .getfield 54, 3, 0, 11, 10), (32, .getfield 163, 3, 0, 2, 0), (35, .ireturn, 1, 0, 0, 0), (36, .aload_n 0, 1, 0, 0, 0), (37, .getfield 54, 3, 0, 11, 10), (40, .getfield 166, 3, 0, 2, 1), (43, .ireturn, 1, 0, 0, 0), (44, .iconst (-1), 1, 0, 0, 0), (45, .ireturn, 1, 0, 0, 0)] -- X11_fault
def cd74 : List AE := [(0, .aload_n 0, 1, 0, 0, 0), (1, .iload_n 3, 1, 0, 0, 0), (2, .iload 4, 2, 0, 0, 0), (4, .invokevirtual 139, 3, 0, 93, 0), (7, .iload_n 1, 1, 0, 0, 0), (8, .iload_n 2, 1, 0, 0, 0), (9, .if_icmp .eq 25, 3, 0, 0, 0), (12, .aload_n 0, 1, 0, 0, 0), (13, .getfield 73, 3, 0, 11, 13), (16, .iload_n 1, 1, 0, 0, 0), (17, .invokevirtual 169, 3, 0, 36, 0), (20, .ifCond .eq 14, 3, 0, 0, 0), (23, .aload_n 0, 1, 0, 0, 0), (24, .getfield 73, 3, 0, 11, 13), (27, .iload_n 2, 1, 0, 0, 0), (28, .invokevirtual 169, 3, 0, 36, 0), (31, .ifCond .ne 5, 3, 0, 0, 0), (34, .iconst 0, 1, 0, 0, 0), (35, .ireturn, 1, 0, 0, 0), (36, .aload_n 0, 1, 0, 0, 0), (37, .getfield 12, 3, 0, 11, 3), (40, .aload_n 0, 1, 0, 0, 0), (41, .getfield 73, 3, 0, 11, 13), (44, .aload_n 0, 1, 0, 0, 0), (45, .getfield 33, 3, 0, 11, 7), (48, .iload_n 1, 1, 0, 0, 0), (49, .iload_n 2, 1, 0, 0, 0), (50, .invokevirtual 172, 3, 0, 4, 0), (53, .ireturn, 1, 0, 0, 0)] -- X11_score
def cd75 : List AE := [(0, .iload_n 1, 1, 0, 0, 0), (1, .iload_n 2, 1, 0, 0, 0), (2, .if_icmp .eq 25, 3, 0, 0, 0), (5, .aload_n 0, 1, 0, 0, 0), (6, .getfield 33, 3, 0, 11, 7), (9, .iload_n 1, 1, 0, 0, 0), (10, .invokevirtual 126, 3, 0, 32, 0), (13, .ifCond .eq 14, 3, 0, 0, 0), (16, .aload_n 0, 1, 0, 0, 0), (17, .getfield 33, 3, 0, 11, 7), (20, .iload_n 2, 1, 0, 0, 0), (21, .invokevirtual 126, 3, 0, 32, 0), (24, .ifCond .ne 5, 3, 0, 0, 0), (27, .iconst (-1), 1, 0, 0, 0), (28, .ireturn, 1, 0, 0, 0), (29, .aload_n 0, 1, 0, 0, 0), (30, .iconst 0, 1, 0, 0, 0), (31, .putfield 114, 3, 0, 11, 1), (34, .aload_n 0, 1, 0, 0, 0), (35, .getfield 63, 3, 0, 11, 11), (38, .iload_n 1, 1, 0, 0, 0), (39, .iload_n 2, 1, 0, 0, 0), (40, .iload_n 3, 1, 0, 0, 0), (41, .ifCond .eq 7, 3, 0, 0, 0), (44, .iconst 1, 1, 0, 0, 0), (45, .goto 4, 3, 0, 0, 0), (48, .iconst 0, 1, 0, 0, 0), (49, .aload_n 0, 1, 0, 0, 0), (50, .getfield 118, 3, 0, 11, 0), (53, .invokevirtual 176, 3, 0, 8, 0), (56, .ireturn, 1, 0, 0, 0)] -- X11_hand
def cd76 : List AE := [(0, .aload_n 0, 1, 0, 0, 0), (1, .iconst 0, 1, 0, 0, 0), (2, .putfield 114, 3, 0, 11, 1), (5, .aload_n 0, 1, 0, 0, 0), (6, .getfield 63, 3, 0, 11, 11), (9, .iload_n 1, 1, 0, 0, 0), (10, .aload_n 0, 1, 0, 0, 0), (11, .getfield 118, 3, 0, 11, 0), (14, .invokevirtual 180, 3, 0, 9, 0), (17, .ireturn, 1, 0, 0, 0)] -- X11_unhand
def cd77 : List AE := [(0, .aload_n 0, 1, 0, 0, 0), (1, .iload_n 1, 1, 0, 0, 0), (2, .iload_n 2, 1, 0, 0, 0), (3, .invokevirtual 184, 3, 0, 94, 0), (6, .ifCond .eq 13, 3, 0, 0, 0), (9, .aload_n 0, 1, 0, 0, 0), (10, .getfield 80, 3, 0, 11, 14), (13, .getfield 187, 3, 0, 3, 1), (16, .goto 5, 3, 0, 0, 0), (19, .bipush (-2), 2, 0, 0, 0), (21, .ireturn, 1, 0, 0, 0)] -- X11_persons
def cd78 : List AE := [(0, .aload_n 0, 1, 0, 0, 0), (1, .iload_n 1, 1, 0, 0, 0), (2, .iload_n 2, 1, 0, 0, 0), (3, .invokevirtual 184, 3, 0, 94, 0), (6, .ifCond .eq 13, 3, 0, 0, 0), (9, .aload_n 0, 1, 0, 0, 0), (10, .getfield 80, 3, 0, 11, 14), (13, .getfield 190, 3, 0, 3, 2), (16, .goto 5, 3, 0, 0, 0), (19, .ldc 193, 2, (-2000000), 0, 0), (21, .ireturn, 1, 0, 0, 0)] -- X11_worth
def cd79 : List AE := [(0, .aload_n 0, 1, 0, 0, 0), (1, .iload_n 2, 1, 0, 0, 0), (2, .iload_n 3, 1, 0, 0, 0), (3, .invokevirtual 184, 3, 0, 94, 0), (6, .ifCond .eq 14, 3, 0, 0, 0), (9, .aload_n 0, 1, 0, 0, 0), (10, .getfield 80, 3, 0, 11, 14), (13, .iload_n 1, 1, 0, 0, 0), (14, .invokevirtual 194, 3, 0, 20, 0), (17, .goto 4, 3, 0, 0, 0), (20, .iconst (-1), 1, 0, 0, 0), (21, .ireturn, 1, 0, 0, 0)] -- X11_person
def cd80 : List AE := [(0, .aload_n 0, 1, 0, 0, 0), (1, .iload_n 1, 1, 0, 0, 0), (2, .iload_n 2, 1, 0, 0, 0), (3, .iload_n 3, 1, 0, 0, 0), (4, .iload 4, 2, 0, 0, 0), (6, .invokevirtual 198, 3, 0, 95, 0), (9, .istore 5, 2, 0, 0, 0), (11, .iload 5, 2, 0, 0, 0), (13, .iconst (-1), 1, 0, 0, 0), (14, .if_icmp .ne 7, 3, 0, 0, 0), (17, .iconst (-1), 1, 0, 0, 0), (18, .goto 10, 3, 0, 0, 0), (21, .aload_n 0, 1, 0, 0, 0), (22, .iload 5, 2, 0, 0, 0), (24, .iload_n 2, 1, 0, 0, 0), (25, .invokevirtual 201, 3, 0, 97, 0), (28, .ireturn, 1, 0, 0, 0)] -- X11_golden
def cd81 : List AE := [(0, .aload_n 0, 1, 0, 0, 0), (1, .iload_n 1, 1, 0, 0, 0), (2, .iload_n 2, 1, 0, 0, 0), (3, .iload_n 3, 1, 0, 0, 0), (4, .iload 4, 2, 0, 0, 0), (6, .invokevirtual 198, 3, 0, 95, 0), (9, .istore 5, 2, 0, 0, 0), (11, .iload 5, 2, 0, 0, 0), (13, .iconst (-1), 1, 0, 0, 0), (14, .if_icmp .ne 5, 3, 0, 0, 0), (17, .iconst (-1), 1, 0, 0, 0), (18, .ireturn, 1, 0, 0, 0), (19, .aload_n 0, 1, 0, 0, 0), (20, .iload 5, 2, 0, 0, 0), (22, .iload_n 2, 1, 0, 0, 0), (23, .invokevirtual 204, 3, 0, 98, 0), (26, .iconst (-1), 1, 0, 0, 0), (27, .if_icmp .eq 6, 3, 0, 0, 0), (30, .bipush (-2), 2, 0, 0, 0), (32, .ireturn, 1, 0, 0, 0), (33, .aload_n 0, 1, 0, 0, 0), (34, .iload 5, 2, 0, 0, 0), (36, .iload_n 2, 1, 0, 0, 0), (37, .invokevirtual 207, 3, 0, 96, 0), (40, .aload_n 0, 1, 0, 0, 0), (41, .getfield 87, 3, 0, 11, 15), (44, .getfield 210, 3, 0, 8, 1), (47, .ireturn, 1, 0, 0, 0)] -- X11_from
def cd82 : List AE := [(0, .aload_n 0, 1, 0, 0, 0), (1, .iload_n 1, 1, 0, 0, 0), (2, .iload_n 2, 1, 0, 0, 0), (3, .iload_n 3, 1, 0, 0, 0), (4, .iload 4, 2, 0, 0, 0), (6, .invokevirtual 198, 3, 0, 95, 0), (9, .istore 5, 2, 0, 0, 0), (11, .iload 5, 2, 0, 0, 0), (13, .iconst (-1), 1, 0, 0, 0), (14, .if_icmp .ne 5, 3, 0, 0, 0), (17, .iconst (-1), 1, 0, 0, 0), (18, .ireturn, 1, 0, 0, 0), (19, .aload_n 0, 1, 0, 0, 0), (20, .iload 5, 2, 0, 0, 0), (22, .iload_n 2, 1, 0, 0, 0), (23, .invokevirtual 207, 3, 0, 96, 0), (26, .aload_n 0, 1, 0, 0, 0), (27, .getfield 87, 3, 0, 11, 15), (30, .getfield 213, 3, 0, 8, 2), (33, .ireturn, 1, 0, 0, 0)] -- X11_torn
def cd83 : List AE := [(0, .aload_n 0, 1, 0, 0, 0), (1, .getfield 33, 3, 0, 11, 7), (4, .iload_n 1, 1, 0, 0, 0), (5, .invokevirtual 126, 3, 0, 32, 0), (8, .ifCond .eq 17, 3, 0, 0, 0), (11, .iload_n 2, 1, 0, 0, 0), (12, .invokestatic 105, 3, 0, 91, 0), (15, .ifCond .eq 10, 3, 0, 0, 0), (18, .iload_n 3, 1, 0, 0, 0), (19, .invokestatic 129, 3, 0, 92, 0), (22, .ifCond .ne 5, 3, 0, 0, 0), (25, .iconst (-1), 1, 0, 0, 0), (26, .ireturn, 1, 0, 0, 0), (27, .aload_n 0, 1, 0, 0, 0), (28, .getfield 67, 3, 0, 11, 12), (31, .iload_n 1, 1, 0, 0, 0), (32, .iload_n 2, 1, 0, 0, 0), (33, .iload_n 3, 1, 0, 0, 0), (34, .aload_n 0, 1, 0, 0, 0), (35, .getfield 118, 3, 0, 11, 0), (38, .invokevirtual 176, 3, 0, 8, 0), (41, .ireturn, 1, 0, 0, 0)] -- X11_fix
def cd84 : List AE := [(0, .aload_n 0, 1, 0, 0, 0), (1, .getfield 67, 3, 0, 11, 12), (4, .iload_n 1, 1, 0, 0, 0), (5, .aload_n 0, 1, 0, 0, 0), (6, .getfield 118, 3, 0, 11, 0), (9, .invokevirtual 180, 3, 0, 9, 0), (12, .ireturn, 1, 0, 0, 0)] -- X11_unfix
def cd85 : List AE := [(0, .iload_n 1, 1, 0, 0, 0), (1, .invokestatic 101, 3, 0, 90, 0), (4, .ifCond .ne 5, 3, 0, 0, 0), (7, .iconst (-1), 1, 0, 0, 0), (8, .ireturn, 1, 0, 0, 0), (9, .aload_n 0, 1, 0, 0, 0), (10, .iload_n 1, 1, 0, 0, 0), (11, .invokevirtual 216, 3, 0, 100, 0), (14, .aload_n 0, 1, 0, 0, 0), (15, .getfield 98, 3, 0, 11, 17), (18, .getfield 219, 3, 0, 10, 0), (21, .ireturn, 1, 0, 0, 0)] -- X11_changes
def cd86 : List AE := [(0, .aload_n 0, 1, 0, 0, 0), (1, .iload_n 1, 1, 0, 0, 0), (2, .iload_n 2, 1, 0, 0, 0), (3, .invokevirtual 220, 3, 0, 99, 0), (6, .ifCond .ne 5, 3, 0, 0, 0), (9, .iconst (-1), 1, 0, 0, 0), (10, .ireturn, 1, 0, 0, 0), (11, .iload_n 3, 1, 0, 0, 0), (12, .tableswitch 58 0 2 #[28, 38, 48], 28, 0, 0, 0), (40, .aload_n 0, 1, 0, 0, 0), (41, .getfield 98, 3, 0, 11, 17), (44, .getfield 223, 3, 0, 10, 1), (47, .iload_n 2, 1, 0, 0, 0), (48, .iaload, 1, 0, 0, 0), (49, .ireturn, 1, 0, 0, 0), (50, .aload_n 0, 1, 0, 0, 0), (51, .getfield 98, 3, 0, 11, 17), (54, .getfield 226, 3, 0, 10, 2), (57, .iload_n 2, 1, 0, 0, 0), (58, .iaload, 1, 0, 0, 0), (59, .ireturn, 1, 0, 0, 0), (60, .aload_n 0, 1, 0, 0, 0), (61, .getfield 98, 3, 0, 11, 17), (64, .getfield 229, 3, 0, 10, 3), (67, .iload_n 2, 1, 0, 0, 0), (68, .iaload, 1, 0, 0, 0), (69, .ireturn, 1, 0, 0, 0), (70, .iconst (-1), 1, 0, 0, 0), (71, .ireturn, 1, 0, 0, 0)] -- X11_change
def cd87 : List AE := [(0, .aload_n 0, 1, 0, 0, 0), (1, .iload_n 1, 1, 0, 0, 0), (2, .iload_n 2, 1, 0, 0, 0), (3, .invokevirtual 220, 3, 0, 99, 0), (6, .ifCond .eq 16, 3, 0, 0, 0), (9, .aload_n 0, 1, 0, 0, 0), (10, .getfield 40, 3, 0, 11, 8), (13, .getfield 133, 3, 0, 7, 0), (16, .sipush 150, 3, 0, 0, 0), (19, .if_icmp .lt 5, 3, 0, 0, 0), (22, .iconst 0, 1, 0, 0, 0), (23, .ireturn, 1, 0, 0, 0), (24, .aload_n 0, 1, 0, 0, 0), (25, .iconst 0, 1, 0, 0, 0), (26, .putfield 114, 3, 0, 11, 1), (29, .aload_n 0, 1, 0, 0, 0), (30, .getfield 40, 3, 0, 11, 8), (33, .aload_n 0, 1, 0, 0, 0), (34, .getfield 98, 3, 0, 11, 17), (37, .getfield 223, 3, 0, 10, 1), (40, .iload_n 2, 1, 0, 0, 0), (41, .iaload, 1, 0, 0, 0), (42, .aload_n 0, 1, 0, 0, 0), (43, .getfield 98, 3, 0, 11, 17), (46, .getfield 226, 3, 0, 10, 2), (49, .iload_n 2, 1, 0, 0, 0), (50, .iaload, 1, 0, 0, 0), (51, .aload_n 0, 1, 0, 0, 0), (52, .getfield 98, 3, 0, 11, 17), (55, .getfield 229, 3, 0, 10, 3), (58, .iload_n 2, 1, 0, 0, 0), (59, .iaload, 1, 0, 0, 0), (60, .aload_n 0, 1, 0, 0, 0), (61, .getfield 118, 3, 0, 11, 0), (64, .aload_n 0, 1, 0, 0, 0), (65, .getfield 118, 3, 0, 11, 0), (68, .iconst 1, 1, 0, 0, 0), (69, .invokevirtual 136, 3, 0, 47, 0), (72, .iconst 1, 1, 0, 0, 0), (73, .ireturn, 1, 0, 0, 0)] -- X11_accept
def cd88 : List AE := [(0, .aload_n 0, 1, 0, 0, 0), (1, .iload_n 1, 1, 0, 0, 0), (2, .iload_n 2, 1, 0, 0, 0), (3, .invokevirtual 220, 3, 0, 99, 0), (6, .ifCond .eq 15, 3, 0, 0, 0), (9, .aload_n 0, 1, 0, 0, 0), (10, .getfield 94, 3, 0, 11, 16), (13, .getfield 219, 3, 0, 10, 0), (16, .bipush 60, 2, 0, 0, 0), (18, .if_icmp .lt 5, 3, 0, 0, 0), (21, .iconst 0, 1, 0, 0, 0), (22, .ireturn, 1, 0, 0, 0), (23, .aload_n 0, 1, 0, 0, 0), (24, .getfield 94, 3, 0, 11, 16), (27, .aload_n 0, 1, 0, 0, 0), (28, .getfield 98, 3, 0, 11, 17), (31, .getfield 223, 3, 0, 10, 1), (34, .iload_n 2, 1, 0, 0, 0), (35, .iaload, 1, 0, 0, 0), (36, .aload_n 0, 1, 0, 0, 0), (37, .getfield 98, 3, 0, 11, 17), (40, .getfield 226, 3, 0, 10, 2), (43, .iload_n 2, 1, 0, 0, 0), (44, .iaload, 1, 0, 0, 0), (45, .aload_n 0, 1, 0, 0, 0), (46, .getfield 98, 3, 0, 11, 17), (49, .getfield 229, 3, 0, 10, 3), (52, .iload_n 2, 1, 0, 0, 0), (53, .iaload, 1, 0, 0, 0), (54, .invokevirtual 232, 3, 0, 59, 0), (57, .iconst 1, 1, 0, 0, 0), (58, .ireturn, 1, 0, 0, 0)] -- X11_refuse
def cd89 : List AE := [(0, .iload_n 1, 1, 0, 0, 0), (1, .tableswitch 108 0 7 #[47, 52, 60, 68, 76, 84, 92, 100], 47, 0, 0, 0), (48, .aload_n 0, 1, 0, 0, 0), (49, .getfield 118, 3, 0, 11, 0), (52, .ireturn, 1, 0, 0, 0), (53, .aload_n 0, 1, 0, 0, 0), (54, .getfield 33, 3, 0, 11, 7), (57, .getfield 235, 3, 0, 4, 0), (60, .ireturn, 1, 0, 0, 0), (61, .aload_n 0, 1, 0, 0, 0), (62, .getfield 40, 3, 0, 11, 8), (65, .getfield 133, 3, 0, 7, 0), (68, .ireturn, 1, 0, 0, 0), (69, .aload_n 0, 1, 0, 0, 0), (70, .getfield 63, 3, 0, 11, 11), (73, .getfield 236, 3, 0, 1, 0), (76, .ireturn, 1, 0, 0, 0), (77, .aload_n 0, 1, 0, 0, 0), (78, .getfield 67, 3, 0, 11, 12), (81, .getfield 236, 3, 0, 1, 0), (84, .ireturn, 1, 0, 0, 0), (85, .aload_n 0, 1, 0, 0, 0), (86, .getfield 12, 3, 0, 11, 3), (89, .getfield 160, 3, 0, 0, 0), (92, .ireturn, 1, 0, 0, 0), (93, .aload_n 0, 1, 0, 0, 0), (94, .getfield 94, 3, 0, 11, 16), (97, .getfield 219, 3, 0, 10, 0), (100, .ireturn, 1, 0, 0, 0), (101, .aload_n 0, 1, 0, 0, 0), (102, .getfield 47, 3, 0, 11, 9), (105, .getfield 150, 3, 0, 6, 0), (108, .ireturn, 1, 0, 0, 0), (109, .iconst (-1), 1, 0, 0, 0), (110, .ireturn, 1, 0, 0, 0)] -- X11_about
def cd90 : List AE := [(0, .iload_n 0, 1, 0, 0, 0), (1, .ifCond .lt 13, 3, 0, 0, 0), (4, .iload_n 0, 1, 0, 0, 0), (5, .bipush 6, 2, 0, 0, 0), (7, .if_icmp .ge 7, 3, 0, 0, 0), (10, .iconst 1, 1, 0, 0, 0), (11, .goto 4, 3, 0, 0, 0), (14, .iconst 0, 1, 0, 0, 0), (15, .ireturn, 1, 0, 0, 0)] -- X11_isSource
def cd91 : List AE := [(0, .iload_n 0, 1, 0, 0, 0), (1, .ifCond .lt 13, 3, 0, 0, 0), (4, .iload_n 0, 1, 0, 0, 0), (5, .bipush 6, 2, 0, 0, 0), (7, .if_icmp .ge 7, 3, 0, 0, 0), (10, .iconst 1, 1, 0, 0, 0), (11, .goto 4, 3, 0, 0, 0), (14, .iconst 0, 1, 0, 0, 0), (15, .ireturn, 1, 0, 0, 0)] -- X11_isField
def cd92 : List AE := [(0, .iload_n 0, 1, 0, 0, 0), (1, .ifCond .lt 13, 3, 0, 0, 0), (4, .iload_n 0, 1, 0, 0, 0), (5, .ldc 237, 2, 999999, 0, 0), (7, .if_icmp .gt 7, 3, 0, 0, 0), (10, .iconst 1, 1, 0, 0, 0), (11, .goto 4, 3, 0, 0, 0), (14, .iconst 0, 1, 0, 0, 0), (15, .ireturn, 1, 0, 0, 0)] -- X11_isValue
def cd93 : List AE := [(0, .aload_n 0, 1, 0, 0, 0), (1, .getfield 114, 3, 0, 11, 1), (4, .ifCond .eq 26, 3, 0, 0, 0), (7, .aload_n 0, 1, 0, 0, 0), (8, .getfield 73, 3, 0, 11, 13), (11, .getfield 238, 3, 0, 5, 0), (14, .iload_n 1, 1, 0, 0, 0), (15, .if_icmp .ne 15, 3, 0, 0, 0), (18, .aload_n 0, 1, 0, 0, 0), (19, .getfield 73, 3, 0, 11, 13), (22, .getfield 241, 3, 0, 5, 1), (25, .iload_n 2, 1, 0, 0, 0), (26, .if_icmp .ne 4, 3, 0, 0, 0), (29, .return_, 1, 0, 0, 0), (30, .aload_n 0, 1, 0, 0, 0), (31, .getfield 73, 3, 0, 11, 13), (34, .aload_n 0, 1, 0, 0, 0), (35, .getfield 33, 3, 0, 11, 7), (38, .aload_n 0, 1, 0, 0, 0), (39, .getfield 40, 3, 0, 11, 8), (42, .iload_n 1, 1, 0, 0, 0), (43, .iload_n 2, 1, 0, 0, 0), (44, .invokevirtual 244, 3, 0, 34, 0), (47, .aload_n 0, 1, 0, 0, 0), (48, .iconst 1, 1, 0, 0, 0), (49, .putfield 114, 3, 0, 11, 1), (52, .aload_n 0, 1, 0, 0, 0), (53, .iconst 0, 1, 0, 0, 0), (54, .putfield 248, 3, 0, 11, 2), (57, .return_, 1, 0, 0, 0)] -- X11_look
def cd94 : List AE := [(0, .aload_n 0, 1, 0, 0, 0), (1, .iload_n 1, 1, 0, 0, 0), (2, .iload_n 2, 1, 0, 0, 0), (3, .invokevirtual 139, 3, 0, 93, 0), (6, .aload_n 0, 1, 0, 0, 0), (7, .getfield 248, 3, 0, 11, 2), (10, .ifCond .ne 57, 3, 0, 0, 0), (13, .aload_n 0, 1, 0, 0, 0), (14, .getfield 80, 3, 0, 11, 14), (17, .aload_n 0, 1, 0, 0, 0), (18, .getfield 73, 3, 0, 11, 13), (21, .invokevirtual 251, 3, 0, 21, 0), (24, .aload_n 0, 1, 0, 0, 0), (25, .getfield 80, 3, 0, 11, 14), (28, .aload_n 0, 1, 0, 0, 0), (29, .getfield 63, 3, 0, 11, 11), (32, .iload_n 2, 1, 0, 0, 0), (33, .invokevirtual 255, 3, 0, 22, 0), (36, .aload_n 0, 1, 0, 0, 0), (37, .getfield 80, 3, 0, 11, 14), (40, .aload_n 0, 1, 0, 0, 0), (41, .getfield 12, 3, 0, 11, 3), (44, .aload_n 0, 1, 0, 0, 0), (45, .getfield 73, 3, 0, 11, 13), (48, .aload_n 0, 1, 0, 0, 0), (49, .getfield 33, 3, 0, 11, 7), (52, .invokevirtual 259, 3, 0, 23, 0), (55, .aload_n 0, 1, 0, 0, 0), (56, .getfield 80, 3, 0, 11, 14), (59, .invokevirtual 263, 3, 0, 24, 0), (62, .aload_n 0, 1, 0, 0, 0), (63, .iconst 1, 1, 0, 0, 0), (64, .putfield 248, 3, 0, 11, 2), (67, .aload_n 0, 1, 0, 0, 0), (68, .getfield 80, 3, 0, 11, 14), (71, .getfield 266, 3, 0, 3, 0), (74, .ireturn, 1, 0, 0, 0)] -- X11_part
def cd95 : List AE := [(0, .iload_n 2, 1, 0, 0, 0), (1, .invokestatic 105, 3, 0, 91, 0), (4, .ifCond .eq 24, 3, 0, 0, 0), (7, .aload_n 0, 1, 0, 0, 0), (8, .iload_n 3, 1, 0, 0, 0), (9, .iload 4, 2, 0, 0, 0), (11, .invokevirtual 184, 3, 0, 94, 0), (14, .ifCond .eq 14, 3, 0, 0, 0), (17, .aload_n 0, 1, 0, 0, 0), (18, .getfield 80, 3, 0, 11, 14), (21, .iload_n 1, 1, 0, 0, 0), (22, .invokevirtual 194, 3, 0, 20, 0), (25, .goto 4, 3, 0, 0, 0), (28, .iconst (-1), 1, 0, 0, 0), (29, .ireturn, 1, 0, 0, 0)] -- X11_personAsked
def cd96 : List AE := [(0, .aload_n 0, 1, 0, 0, 0), (1, .getfield 87, 3, 0, 11, 15), (4, .aload_n 0, 1, 0, 0, 0), (5, .getfield 73, 3, 0, 11, 13), (8, .aload_n 0, 1, 0, 0, 0), (9, .getfield 33, 3, 0, 11, 7), (12, .aload_n 0, 1, 0, 0, 0), (13, .getfield 80, 3, 0, 11, 14), (16, .aload_n 0, 1, 0, 0, 0), (17, .getfield 22, 3, 0, 11, 5), (20, .iload_n 1, 1, 0, 0, 0), (21, .iload_n 2, 1, 0, 0, 0), (22, .invokevirtual 269, 3, 0, 49, 0), (25, .aload_n 0, 1, 0, 0, 0), (26, .getfield 87, 3, 0, 11, 15), (29, .invokevirtual 272, 3, 0, 50, 0), (32, .return_, 1, 0, 0, 0)] -- X11_hear
def cd97 : List AE := [(0, .aload_n 0, 1, 0, 0, 0), (1, .iload_n 1, 1, 0, 0, 0), (2, .iload_n 2, 1, 0, 0, 0), (3, .invokevirtual 204, 3, 0, 98, 0), (6, .istore_n 3, 1, 0, 0, 0), (7, .iload_n 3, 1, 0, 0, 0), (8, .iconst (-1), 1, 0, 0, 0), (9, .if_icmp .eq 13, 3, 0, 0, 0), (12, .aload_n 0, 1, 0, 0, 0), (13, .getfield 67, 3, 0, 11, 12), (16, .getfield 273, 3, 0, 1, 3), (19, .iload_n 3, 1, 0, 0, 0), (20, .iaload, 1, 0, 0, 0), (21, .ireturn, 1, 0, 0, 0), (22, .aload_n 0, 1, 0, 0, 0), (23, .iload_n 1, 1, 0, 0, 0), (24, .iload_n 2, 1, 0, 0, 0), (25, .invokevirtual 207, 3, 0, 96, 0), (28, .aload_n 0, 1, 0, 0, 0), (29, .getfield 87, 3, 0, 11, 15), (32, .getfield 274, 3, 0, 8, 0), (35, .ireturn, 1, 0, 0, 0)] -- X11_goldenOf
def cd98 : List AE := [(0, .aload_n 0, 1, 0, 0, 0), (1, .getfield 67, 3, 0, 11, 12), (4, .getfield 236, 3, 0, 1, 0), (7, .iconst 1, 1, 0, 0, 0), (8, .isub, 1, 0, 0, 0), (9, .istore_n 3, 1, 0, 0, 0), (10, .iload_n 3, 1, 0, 0, 0), (11, .ifCond .lt 62, 3, 0, 0, 0), (14, .aload_n 0, 1, 0, 0, 0), (15, .getfield 67, 3, 0, 11, 12), (18, .getfield 277, 3, 0, 1, 2), (21, .iload_n 3, 1, 0, 0, 0), (22, .iaload, 1, 0, 0, 0), (23, .iload_n 2, 1, 0, 0, 0), (24, .if_icmp .ne 43, 3, 0, 0, 0), (27, .aload_n 0, 1, 0, 0, 0), (28, .getfield 67, 3, 0, 11, 12), (31, .iload_n 3, 1, 0, 0, 0), (32, .aload_n 0, 1, 0, 0, 0), (33, .getfield 73, 3, 0, 11, 13), (36, .getfield 241, 3, 0, 5, 1), (39, .invokevirtual 280, 3, 0, 10, 0), (42, .ifCond .eq 25, 3, 0, 0, 0), (45, .aload_n 0, 1, 0, 0, 0), (46, .getfield 80, 3, 0, 11, 14), (49, .aload_n 0, 1, 0, 0, 0), (50, .getfield 67, 3, 0, 11, 12), (53, .getfield 283, 3, 0, 1, 1), (56, .iload_n 3, 1, 0, 0, 0), (57, .iaload, 1, 0, 0, 0), (58, .invokevirtual 194, 3, 0, 20, 0), (61, .iload_n 1, 1, 0, 0, 0), (62, .if_icmp .ne 5, 3, 0, 0, 0), (65, .iload_n 3, 1, 0, 0, 0), (66, .ireturn, 1, 0, 0, 0), (67, .iinc 3 (-1), 3, 0, 0, 0), (70, .goto (-60), 3, 0, 0, 0), (73, .iconst (-1), 1, 0, 0, 0), (74, .ireturn, 1, 0, 0, 0)] -- X11_latestFix
def cd99 : List AE := [(0, .iload_n 1, 1, 0, 0, 0), (1, .invokestatic 101, 3, 0, 90, 0), (4, .ifCond .ne 5, 3, 0, 0, 0), (7, .iconst 0, 1, 0, 0, 0), (8, .ireturn, 1, 0, 0, 0), (9, .aload_n 0, 1, 0, 0, 0), (10, .iload_n 1, 1, 0, 0, 0), (11, .invokevirtual 216, 3, 0, 100, 0), (14, .iload_n 2, 1, 0, 0, 0), (15, .ifCond .lt 18, 3, 0, 0, 0), (18, .iload_n 2, 1, 0, 0, 0), (19, .aload_n 0, 1, 0, 0, 0), (20, .getfield 98, 3, 0, 11, 17), (23, .getfield 219, 3, 0, 10, 0), (26, .if_icmp .ge 7, 3, 0, 0, 0), (29, .iconst 1, 1, 0, 0, 0), (30, .goto 4, 3, 0, 0, 0), (33, .iconst 0, 1, 0, 0, 0), (34, .ireturn, 1, 0, 0, 0)] -- X11_hasWish
def cd100 : List AE := [(0, .aload_n 0, 1, 0, 0, 0), (1, .getfield 98, 3, 0, 11, 17), (4, .iconst 0, 1, 0, 0, 0), (5, .putfield 219, 3, 0, 10, 0), (8, .aload_n 0, 1, 0, 0, 0), (9, .aload_n 0, 1, 0, 0, 0), (10, .getfield 118, 3, 0, 11, 0), (13, .aload_n 0, 1, 0, 0, 0), (14, .getfield 118, 3, 0, 11, 0), (17, .invokevirtual 184, 3, 0, 94, 0), (20, .ifCond .ne 4, 3, 0, 0, 0), (23, .return_, 1, 0, 0, 0), (24, .iconst 0, 1, 0, 0, 0), (25, .istore_n 2, 1, 0, 0, 0), (26, .iload_n 2, 1, 0, 0, 0), (27, .aload_n 0, 1, 0, 0, 0), (28, .getfield 33, 3, 0, 11, 7), (31, .getfield 235, 3, 0, 4, 0), (34, .if_icmp .ge 44, 3, 0, 0, 0), (37, .aload_n 0, 1, 0, 0, 0), (38, .getfield 33, 3, 0, 11, 7), (41, .getfield 284, 3, 0, 4, 1), (44, .iload_n 2, 1, 0, 0, 0), (45, .iaload, 1, 0, 0, 0), (46, .iload_n 1, 1, 0, 0, 0), (47, .if_icmp .ne 25, 3, 0, 0, 0), (50, .aload_n 0, 1, 0, 0, 0), (51, .getfield 73, 3, 0, 11, 13), (54, .iload_n 2, 1, 0, 0, 0), (55, .invokevirtual 169, 3, 0, 36, 0), (58, .ifCond .eq 14, 3, 0, 0, 0), (61, .aload_n 0, 1, 0, 0, 0), (62, .iload_n 2, 1, 0, 0, 0), (63, .aload_n 0, 1, 0, 0, 0), (64, .getfield 26, 3, 0, 11, 6), (67, .iload_n 1, 1, 0, 0, 0), (68, .iaload, 1, 0, 0, 0), (69, .invokevirtual 287, 3, 0, 101, 0), (72, .iinc 2 1, 3, 0, 0, 0), (75, .goto (-49), 3, 0, 0, 0), (78, .return_, 1, 0, 0, 0)] -- X11_listWishes
def cd101 : List AE := [(0, .aload_n 0, 1, 0, 0, 0), (1, .getfield 80, 3, 0, 11, 14), (4, .iload_n 1, 1, 0, 0, 0), (5, .invokevirtual 194, 3, 0, 20, 0), (8, .istore_n 3, 1, 0, 0, 0), (9, .iconst 0, 1, 0, 0, 0), (10, .istore 4, 2, 0, 0, 0), (12, .iload 4, 2, 0, 0, 0), (14, .bipush 6, 2, 0, 0, 0), (16, .if_icmp .ge 76, 3, 0, 0, 0), (19, .iload_n 2, 1, 0, 0, 0), (20, .iload 4, 2, 0, 0, 0), (22, .ishr, 1, 0, 0, 0), (23, .iconst 1, 1, 0, 0, 0), (24, .iand, 1, 0, 0, 0), (25, .iconst 1, 1, 0, 0, 0), (26, .if_icmp .ne 60, 3, 0, 0, 0), (29, .aload_n 0, 1, 0, 0, 0), (30, .iload_n 3, 1, 0, 0, 0), (31, .iload 4, 2, 0, 0, 0), (33, .invokevirtual 201, 3, 0, 97, 0), (36, .istore 5, 2, 0, 0, 0), (38, .iload 5, 2, 0, 0, 0), (40, .iconst (-1), 1, 0, 0, 0), (41, .if_icmp .eq 45, 3, 0, 0, 0), (44, .iload 5, 2, 0, 0, 0), (46, .aload_n 0, 1, 0, 0, 0), (47, .getfield 73, 3, 0, 11, 13), (50, .iload_n 1, 1, 0, 0, 0), (51, .iload 4, 2, 0, 0, 0), (53, .invokevirtual 143, 3, 0, 37, 0), (56, .if_icmp .eq 30, 3, 0, 0, 0), (59, .aload_n 0, 1, 0, 0, 0), (60, .getfield 94, 3, 0, 11, 16), (63, .iload_n 1, 1, 0, 0, 0), (64, .iload 4, 2, 0, 0, 0), (66, .iload 5, 2, 0, 0, 0), (68, .invokevirtual 290, 3, 0, 60, 0), (71, .ifCond .ne 15, 3, 0, 0, 0), (74, .aload_n 0, 1, 0, 0, 0), (75, .getfield 98, 3, 0, 11, 17), (78, .iload_n 1, 1, 0, 0, 0), (79, .iload 4, 2, 0, 0, 0), (81, .iload 5, 2, 0, 0, 0), (83, .invokevirtual 232, 3, 0, 59, 0), (86, .iinc 4 1, 3, 0, 0, 0), (89, .goto (-77), 3, 0, 0, 0), (92, .return_, 1, 0, 0, 0)] -- X11_listWishesOf
def cd102 : List AE := [(0, .aload_n 0, 1, 0, 0, 0), (1, .invokespecial 1, 3, 0, 990, 0), (4, .aload_n 0, 1, 0, 0, 0), (5, .bipush 36, 2, 0, 0, 0), (7, .newarray .int, 2, 0, 0, 0), (9, .putfield 7, 3, 0, 12, 1), (12, .aload_n 0, 1, 0, 0, 0), (13, .bipush 6, 2, 0, 0, 0), (15, .newarray .int, 2, 0, 0, 0), (17, .putfield 13, 3, 0, 12, 2), (20, .aload_n 0, 1, 0, 0, 0), (21, .bipush 6, 2, 0, 0, 0), (23, .newarray .int, 2, 0, 0, 0), (25, .putfield 16, 3, 0, 12, 3), (28, .aload_n 0, 1, 0, 0, 0), (29, .bipush 10, 2, 0, 0, 0), (31, .newarray .int, 2, 0, 0, 0), (33, .putfield 19, 3, 0, 12, 6), (36, .aload_n 0, 1, 0, 0, 0), (37, .bipush 10, 2, 0, 0, 0), (39, .newarray .int, 2, 0, 0, 0), (41, .putfield 22, 3, 0, 12, 7), (44, .aload_n 0, 1, 0, 0, 0), (45, .bipush 10, 2, 0, 0, 0), (47, .newarray .boolean, 2, 0, 0, 0), (49, .putfield 25, 3, 0, 12, 8), (52, .aload_n 0, 1, 0, 0, 0), (53, .sipush 150, 3, 0, 0, 0), (56, .newarray .int, 2, 0, 0, 0), (58, .putfield 29, 3, 0, 12, 9), (61, .aload_n 0, 1, 0, 0, 0), (62, .sipush 150, 3, 0, 0, 0), (65, .newarray .int, 2, 0, 0, 0), (67, .putfield 32, 3, 0, 12, 10), (70, .aload_n 0, 1, 0, 0, 0), (71, .sipush 150, 3, 0, 0, 0), (74, .newarray .int, 2, 0, 0, 0), (76, .putfield 35, 3, 0, 12, 11), (79, .aload_n 0, 1, 0, 0, 0), (80, .sipush 150, 3, 0, 0, 0), (83, .newarray .int, 2, 0, 0, 0), (85, .putfield 38, 3, 0, 12, 12), (88, .aload_n 0, 1, 0, 0, 0), (89, .sipush 150, 3, 0, 0, 0), (92, .newarray .int, 2, 0, 0, 0), (94, .putfield 41, 3, 0, 12, 13), (97, .aload_n 0, 1, 0, 0, 0), (98, .sipush 150, 3, 0, 0, 0), (101, .newarray .boolean, 2, 0, 0, 0), (103, .putfield 44, 3, 0, 12, 14), (106, .aload_n 0, 1, 0, 0, 0), (107, .sipush 500, 3, 0, 0, 0), (110, .newarray .int, 2, 0, 0, 0), (112, .putfield 47, 3, 0, 12, 15), (115, .aload_n 0, 1, 0, 0, 0), (116, .sipush 500, 3, 0, 0, 0), (119, .newarray .int, 2, 0, 0, 0), (121, .putfield 50, 3, 0, 12, 16), (124, .aload_n 0, 1, 0, 0, 0), (125, .sipush 500, 3, 0, 0, 0), (128, .newarray .int, 2, 0, 0, 0), (130, .putfield 53, 3, 0, 12, 17), (133, .aload_n 0, 1, 0, 0, 0), (134, .bipush 11, 2, 0, 0, 0), (136, .newarray .int, 2, 0, 0, 0), (138, .putfield 56, 3, 0, 12, 18), (141, .aload_n 0, 1, 0, 0, 0), (142, .bipush 10, 2, 0, 0, 0), (144, .newarray .int, 2, 0, 0, 0), (146, .putfield 59, 3, 0, 12, 19), (149, .aload_n 0, 1, 0, 0, 0), (150, .sipush 500, 3, 0, 0, 0), (153, .newarray .int, 2, 0, 0, 0), (155, .putfield 62, 3, 0, 12, 21), (158, .aload_n 0, 1, 0, 0, 0), (159, .sipush 500, 3, 0, 0, 0), (162, .newarray .int, 2, 0, 0, 0), (164, .putfield 65, 3, 0, 12, 22), (167, .aload_n 0, 1, 0, 0, 0), (168, .sipush 500, 3, 0, 0, 0), (171, .newarray .int, 2, 0, 0, 0), (173, .putfield 68, 3, 0, 12, 23), (176, .aload_n 0, 1, 0, 0, 0), (177, .bipush 11, 2, 0, 0, 0), (179, .newarray .int, 2, 0, 0, 0), (181, .putfield 71, 3, 0, 12, 24), (184, .aload_n 0, 1, 0, 0, 0), (185, .bipush 10, 2, 0, 0, 0), (187, .newarray .int, 2, 0, 0, 0), (189, .putfield 74, 3, 0, 12, 25), (192, .aload_n 0, 1, 0, 0, 0), (193, .sipush 500, 3, 0, 0, 0), (196, .newarray .int, 2, 0, 0, 0), (198, .putfield 77, 3, 0, 12, 29), (201, .aload_n 0, 1, 0, 0, 0), (202, .iconst (-1), 1, 0, 0, 0), (203, .putfield 80, 3, 0, 12, 32), (206, .aload_n 0, 1, 0, 0, 0), (207, .sipush 300, 3, 0, 0, 0), (210, .newarray .int, 2, 0, 0, 0), (212, .putfield 84, 3, 0, 12, 39), (215, .aload_n 0, 1, 0, 0, 0), (216, .bipush 100, 2, 0, 0, 0), (218, .newarray .boolean, 2, 0, 0, 0), (220, .putfield 87, 3, 0, 12, 42), (223, .aload_n 0, 1, 0, 0, 0), (224, .bipush 20, 2, 0, 0, 0), (226, .newarray .int, 2, 0, 0, 0), (228, .putfield 90, 3, 0, 12, 45), (231, .aload_n 0, 1, 0, 0, 0), (232, .bipush 20, 2, 0, 0, 0), (234, .newarray .int, 2, 0, 0, 0), (236, .putfield 93, 3, 0, 12, 46), (239, .aload_n 0, 1, 0, 0, 0), (240, .bipush 20, 2, 0, 0, 0), (242, .newarray .int, 2, 0, 0, 0), (244, .putfield 96, 3, 0, 12, 47), (247, .aload_n 0, 1, 0, 0, 0), (248, .bipush 20, 2, 0, 0, 0), (250, .newarray .int, 2, 0, 0, 0), (252, .putfield 99, 3, 0, 12, 48), (255, .aload_n 0, 1, 0, 0, 0), (256, .bipush 20, 2, 0, 0, 0), (258, .newarray .boolean, 2, 0, 0, 0), (260, .putfield 102, 3, 0, 12, 49), (263, .aload_n 0, 1, 0, 0, 0), (264, .bipush 20, 2, 0, 0, 0), (266, .newarray .int, 2, 0, 0, 0), (268, .putfield 105, 3, 0, 12, 50), (271, .aload_n 0, 1, 0, 0, 0), (272, .bipush 20, 2, 0, 0, 0), (274, .newarray .int, 2, 0, 0, 0), (276, .putfield 108, 3, 0, 12, 51), (279, .aload_n 0, 1, 0, 0, 0), (280, .bipush 20, 2, 0, 0, 0), (282, .newarray .int, 2, 0, 0, 0), (284, .putfield 111, 3, 0, 12, 52), (287, .aload_n 0, 1, 0, 0, 0), (288, .bipush 20, 2, 0, 0, 0), (290, .newarray .int, 2, 0, 0, 0), (292, .putfield 114, 3, 0, 12, 53), (295, .aload_n 0, 1, 0, 0, 0), (296, .bipush 20, 2, 0, 0, 0), (298, .newarray .int, 2, 0, 0, 0), (300, .putfield 117, 3, 0, 12, 54), (303, .aload_n 0, 1, 0, 0, 0), (304, .bipush 10, 2, 0, 0, 0), (306, .newarray .int, 2, 0, 0, 0), (308, .putfield 120, 3, 0, 12, 59), (311, .aload_n 0, 1, 0, 0, 0), (312, .bipush 10, 2, 0, 0, 0), (314, .newarray .int, 2, 0, 0, 0), (316, .putfield 123, 3, 0, 12, 60), (319, .aload_n 0, 1, 0, 0, 0), (320, .bipush 10, 2, 0, 0, 0), (322, .newarray .int, 2, 0, 0, 0), (324, .putfield 126, 3, 0, 12, 61), (327, .aload_n 0, 1, 0, 0, 0), (328, .bipush 10, 2, 0, 0, 0), (330, .newarray .int, 2, 0, 0, 0), (332, .putfield 129, 3, 0, 12, 62), (335, .aload_n 0, 1, 0, 0, 0), (336, .bipush 11, 2, 0, 0, 0), (338, .newarray .int, 2, 0, 0, 0), (340, .putfield 132, 3, 0, 12, 63), (343, .aload_n 0, 1, 0, 0, 0), (344, .bipush 11, 2, 0, 0, 0), (346, .newarray .int, 2, 0, 0, 0), (348, .putfield 135, 3, 0, 12, 64), (351, .aload_n 0, 1, 0, 0, 0), (352, .bipush 100, 2, 0, 0, 0), (354, .newarray .int, 2, 0, 0, 0), (356, .putfield 138, 3, 0, 12, 65), (359, .aload_n 0, 1, 0, 0, 0), (360, .bipush 100, 2, 0, 0, 0), (362, .newarray .int, 2, 0, 0, 0), (364, .putfield 141, 3, 0, 12, 66), (367, .aload_n 0, 1, 0, 0, 0), (368, .bipush 10, 2, 0, 0, 0), (370, .newarray .int, 2, 0, 0, 0), (372, .putfield 144, 3, 0, 12, 70), (375, .aload_n 0, 1, 0, 0, 0), (376, .bipush 10, 2, 0, 0, 0), (378, .newarray .int, 2, 0, 0, 0), (380, .putfield 147, 3, 0, 12, 71), (383, .aload_n 0, 1, 0, 0, 0), (384, .bipush 10, 2, 0, 0, 0), (386, .newarray .int, 2, 0, 0, 0), (388, .putfield 150, 3, 0, 12, 72), (391, .aload_n 0, 1, 0, 0, 0), (392, .bipush 10, 2, 0, 0, 0), (394, .newarray .long, 2, 0, 0, 0), (396, .putfield 153, 3, 0, 12, 73), (399, .aload_n 0, 1, 0, 0, 0), (400, .bipush 10, 2, 0, 0, 0), (402, .newarray .long, 2, 0, 0, 0), (404, .putfield 157, 3, 0, 12, 74), (407, .aload_n 0, 1, 0, 0, 0), (408, .bipush 60, 2, 0, 0, 0), (410, .newarray .int, 2, 0, 0, 0), (412, .putfield 160, 3, 0, 12, 77), (415, .aload_n 0, 1, 0, 0, 0), (416, .bipush 60, 2, 0, 0, 0), (418, .newarray .int, 2, 0, 0, 0), (420, .putfield 163, 3, 0, 12, 78), (423, .aload_n 0, 1, 0, 0, 0), (424, .bipush 60, 2, 0, 0, 0), (426, .newarray .int, 2, 0, 0, 0), (428, .putfield 166, 3, 0, 12, 79), (431, .aload_n 0, 1, 0, 0, 0), (432, .bipush 60, 2, 0, 0, 0), (434, .newarray .int, 2, 0, 0, 0), (436, .putfield 169, 3, 0, 12, 80), (439, .aload_n 0, 1, 0, 0, 0), (440, .bipush 60, 2, 0, 0, 0), (442, .newarray .int, 2, 0, 0, 0), (444, .putfield 172, 3, 0, 12, 81), (447, .aload_n 0, 1, 0, 0, 0), (448, .bipush 60, 2, 0, 0, 0), (450, .newarray .int, 2, 0, 0, 0), (452, .putfield 175, 3, 0, 12, 82), (455, .iconst 0, 1, 0, 0, 0), (456, .istore_n 1, 1, 0, 0, 0), (457, .iload_n 1, 1, 0, 0, 0), (458, .bipush 36, 2, 0, 0, 0), (460, .if_icmp .ge 16, 3, 0, 0, 0), (463, .aload_n 0, 1, 0, 0, 0), (464, .getfield 7, 3, 0, 12, 1), (467, .iload_n 1, 1, 0, 0, 0), (468, .iconst 1, 1, 0, 0, 0), (469, .iastore, 1, 0, 0, 0), (470, .iinc 1 1, 3, 0, 0, 0), (473, .goto (-16), 3, 0, 0, 0), (476, .return_, 1, 0, 0, 0)] -- X12_init
def cd103 : List AE := [(0, .iload_n 0, 1, 0, 0, 0), (1, .ifCond .lt 13, 3, 0, 0, 0), (4, .iload_n 0, 1, 0, 0, 0), (5, .bipush 6, 2, 0, 0, 0), (7, .if_icmp .ge 7, 3, 0, 0, 0), (10, .iconst 1, 1, 0, 0, 0), (11, .goto 4, 3, 0, 0, 0), (14, .iconst 0, 1, 0, 0, 0), (15, .ireturn, 1, 0, 0, 0)] -- X12_isSource
def cd104 : List AE := [(0, .iload_n 0, 1, 0, 0, 0), (1, .ifCond .lt 13, 3, 0, 0, 0), (4, .iload_n 0, 1, 0, 0, 0), (5, .bipush 6, 2, 0, 0, 0), (7, .if_icmp .ge 7, 3, 0, 0, 0), (10, .iconst 1, 1, 0, 0, 0), (11, .goto 4, 3, 0, 0, 0), (14, .iconst 0, 1, 0, 0, 0), (15, .ireturn, 1, 0, 0, 0)] -- X12_isField
def cd105 : List AE := [(0, .iload_n 1, 1, 0, 0, 0), (1, .invokestatic 178, 3, 0, 103, 0), (4, .ifCond .eq 20, 3, 0, 0, 0), (7, .iload_n 2, 1, 0, 0, 0), (8, .invokestatic 182, 3, 0, 104, 0), (11, .ifCond .eq 13, 3, 0, 0, 0), (14, .iload_n 3, 1, 0, 0, 0), (15, .ifCond .lt 9, 3, 0, 0, 0), (18, .iload_n 3, 1, 0, 0, 0), (19, .bipush 9, 2, 0, 0, 0), (21, .if_icmp .le 5, 3, 0, 0, 0), (24, .iconst 0, 1, 0, 0, 0), (25, .ireturn, 1, 0, 0, 0), (26, .aload_n 0, 1, 0, 0, 0), (27, .getfield 7, 3, 0, 12, 1), (30, .bipush 6, 2, 0, 0, 0), (32, .iload_n 1, 1, 0, 0, 0), (33, .imul, 1, 0, 0, 0), (34, .iload_n 2, 1, 0, 0, 0), (35, .iadd, 1, 0, 0, 0), (36, .iload_n 3, 1, 0, 0, 0), (37, .iastore, 1, 0, 0, 0), (38, .iconst 1, 1, 0, 0, 0), (39, .ireturn, 1, 0, 0, 0)] -- X12_trust
def cd106 : List AE := [(0, .iload_n 1, 1, 0, 0, 0), (1, .invokestatic 182, 3, 0, 104, 0), (4, .ifCond .eq 13, 3, 0, 0, 0), (7, .iload_n 2, 1, 0, 0, 0), (8, .ifCond .lt 9, 3, 0, 0, 0), (11, .iload_n 2, 1, 0, 0, 0), (12, .bipush 50, 2, 0, 0, 0), (14, .if_icmp .le 5, 3, 0, 0, 0), (17, .iconst 0, 1, 0, 0, 0), (18, .ireturn, 1, 0, 0, 0), (19, .aload_n 0, 1, 0, 0, 0), (20, .getfield 13, 3, 0, 12, 2), (23, .iload_n 1, 1, 0, 0, 0), (24, .iload_n 2, 1, 0, 0, 0), (25, .iastore, 1, 0, 0, 0), (26, .iconst 1, 1, 0, 0, 0), (27, .ireturn, 1, 0, 0, 0)] -- X12_fade
def cd107 : List AE := [(0, .iload_n 1, 1, 0, 0, 0), (1, .invokestatic 178, 3, 0, 103, 0), (4, .ifCond .eq 13, 3, 0, 0, 0), (7, .iload_n 2, 1, 0, 0, 0), (8, .ifCond .lt 9, 3, 0, 0, 0), (11, .iload_n 2, 1, 0, 0, 0), (12, .bipush 63, 2, 0, 0, 0), (14, .if_icmp .le 5, 3, 0, 0, 0), (17, .iconst 0, 1, 0, 0, 0), (18, .ireturn, 1, 0, 0, 0), (19, .aload_n 0, 1, 0, 0, 0), (20, .getfield 16, 3, 0, 12, 3), (23, .iload_n 1, 1, 0, 0, 0), (24, .iload_n 2, 1, 0, 0, 0), (25, .iastore, 1, 0, 0, 0), (26, .iconst 1, 1, 0, 0, 0), (27, .ireturn, 1, 0, 0, 0)] -- X12_rights
def cd108 : List AE := [(0, .aload_n 0, 1, 0, 0, 0), (1, .getfield 185, 3, 0, 12, 4), (4, .bipush 10, 2, 0, 0, 0), (6, .if_icmp .eq 10, 3, 0, 0, 0), (9, .iload_n 1, 1, 0, 0, 0), (10, .invokestatic 178, 3, 0, 103, 0), (13, .ifCond .ne 5, 3, 0, 0, 0), (16, .iconst (-1), 1, 0, 0, 0), (17, .ireturn, 1, 0, 0, 0), (18, .aload_n 0, 1, 0, 0, 0), (19, .getfield 19, 3, 0, 12, 6), (22, .aload_n 0, 1, 0, 0, 0), (23, .getfield 185, 3, 0, 12, 4), (26, .iload_n 1, 1, 0, 0, 0), (27, .iastore, 1, 0, 0, 0), (28, .aload_n 0, 1, 0, 0, 0), (29, .getfield 22, 3, 0, 12, 7), (32, .aload_n 0, 1, 0, 0, 0), (33, .getfield 185, 3, 0, 12, 4), (36, .aload_n 0, 1, 0, 0, 0), (37, .getfield 188, 3, 0, 12, 0), (40, .iastore, 1, 0, 0, 0), (41, .aload_n 0, 1, 0, 0, 0), (42, .dup, 1, 0, 0, 0), (43, .getfield 185, 3, 0, 12, 4), (46, .iconst 1, 1, 0, 0, 0), (47, .iadd, 1, 0, 0, 0), (48, .putfield 185, 3, 0, 12, 4), (51, .aload_n 0, 1, 0, 0, 0), (52, .getfield 185, 3, 0, 12, 4), (55, .iconst 1, 1, 0, 0, 0), (56, .isub, 1, 0, 0, 0), (57, .ireturn, 1, 0, 0, 0)] -- X12_row
def cd109 : List AE := [(0, .iload_n 1, 1, 0, 0, 0), (1, .ifCond .lt 24, 3, 0, 0, 0), (4, .iload_n 1, 1, 0, 0, 0), (5, .aload_n 0, 1, 0, 0, 0), (6, .getfield 185, 3, 0, 12, 4), (9, .if_icmp .ge 16, 3, 0, 0, 0), (12, .aload_n 0, 1, 0, 0, 0), (13, .getfield 25, 3, 0, 12, 8), (16, .iload_n 1, 1, 0, 0, 0), (17, .baload, 1, 0, 0, 0), (18, .ifCond .ne 7, 3, 0, 0, 0), (21, .iconst 1, 1, 0, 0, 0), (22, .goto 4, 3, 0, 0, 0), (25, .iconst 0, 1, 0, 0, 0), (26, .ireturn, 1, 0, 0, 0)] -- X12_isRow
def cd110 : List AE := [(0, .aload_n 0, 1, 0, 0, 0), (1, .iload_n 1, 1, 0, 0, 0), (2, .invokevirtual 191, 3, 0, 109, 0), (5, .ifCond .eq 17, 3, 0, 0, 0), (8, .aload_n 0, 1, 0, 0, 0), (9, .getfield 22, 3, 0, 12, 7), (12, .iload_n 1, 1, 0, 0, 0), (13, .iaload, 1, 0, 0, 0), (14, .iload_n 2, 1, 0, 0, 0), (15, .if_icmp .gt 7, 3, 0, 0, 0), (18, .iconst 1, 1, 0, 0, 0), (19, .goto 4, 3, 0, 0, 0), (22, .iconst 0, 1, 0, 0, 0), (23, .ireturn, 1, 0, 0, 0)] -- X12_isThere
def cd111 : List AE := [(0, .iload_n 0, 1, 0, 0, 0), (1, .ifCond .lt 13, 3, 0, 0, 0), (4, .iload_n 0, 1, 0, 0, 0), (5, .ldc 194, 2, 999999, 0, 0), (7, .if_icmp .gt 7, 3, 0, 0, 0), (10, .iconst 1, 1, 0, 0, 0), (11, .goto 4, 3, 0, 0, 0), (14, .iconst 0, 1, 0, 0, 0), (15, .ireturn, 1, 0, 0, 0)] -- X12_isValue
def cd112 : List AE := [(0, .aload_n 0, 1, 0, 0, 0), (1, .getfield 29, 3, 0, 12, 9), (4, .aload_n 0, 1, 0, 0, 0), (5, .getfield 195, 3, 0, 12, 5), (8, .iload_n 1, 1, 0, 0, 0), (9, .iastore, 1, 0, 0, 0), (10, .aload_n 0, 1, 0, 0, 0), (11, .getfield 32, 3, 0, 12, 10), (14, .aload_n 0, 1, 0, 0, 0), (15, .getfield 195, 3, 0, 12, 5), (18, .iload_n 2, 1, 0, 0, 0), (19, .iastore, 1, 0, 0, 0), (20, .aload_n 0, 1, 0, 0, 0), (21, .getfield 35, 3, 0, 12, 11), (24, .aload_n 0, 1, 0, 0, 0), (25, .getfield 195, 3, 0, 12, 5), (28, .iload_n 3, 1, 0, 0, 0), (29, .iastore, 1, 0, 0, 0), (30, .aload_n 0, 1, 0, 0, 0), (31, .getfield 38, 3, 0, 12, 12), (34, .aload_n 0, 1, 0, 0, 0), (35, .getfield 195, 3, 0, 12, 5), (38, .iload 4, 2, 0, 0, 0), (40, .iastore, 1, 0, 0, 0), (41, .aload_n 0, 1, 0, 0, 0), (42, .getfield 41, 3, 0, 12, 13), (45, .aload_n 0, 1, 0, 0, 0), (46, .getfield 195, 3, 0, 12, 5), (49, .aload_n 0, 1, 0, 0, 0), (50, .getfield 188, 3, 0, 12, 0), (53, .iastore, 1, 0, 0, 0), (54, .aload_n 0, 1, 0, 0, 0), (55, .getfield 44, 3, 0, 12, 14), (58, .aload_n 0, 1, 0, 0, 0), (59, .getfield 195, 3, 0, 12, 5), (62, .iload 5, 2, 0, 0, 0), (64, .bastore, 1, 0, 0, 0), (65, .aload_n 0, 1, 0, 0, 0), (66, .dup, 1, 0, 0, 0), (67, .getfield 195, 3, 0, 12, 5), (70, .iconst 1, 1, 0, 0, 0), (71, .iadd, 1, 0, 0, 0), (72, .putfield 195, 3, 0, 12, 5), (75, .return_, 1, 0, 0, 0)] -- X12_tell
def cd113 : List AE := [(0, .aload_n 0, 1, 0, 0, 0), (1, .getfield 195, 3, 0, 12, 5), (4, .sipush 150, 3, 0, 0, 0), (7, .if_icmp .eq 37, 3, 0, 0, 0), (10, .aload_n 0, 1, 0, 0, 0), (11, .iload_n 1, 1, 0, 0, 0), (12, .invokevirtual 191, 3, 0, 109, 0), (15, .ifCond .eq 29, 3, 0, 0, 0), (18, .iload_n 2, 1, 0, 0, 0), (19, .invokestatic 182, 3, 0, 104, 0), (22, .ifCond .eq 22, 3, 0, 0, 0), (25, .iload_n 3, 1, 0, 0, 0), (26, .invokestatic 198, 3, 0, 111, 0), (29, .ifCond .eq 15, 3, 0, 0, 0), (32, .iload 4, 2, 0, 0, 0), (34, .ifCond .lt 10, 3, 0, 0, 0), (37, .iload 4, 2, 0, 0, 0), (39, .ldc 201, 2, 100000, 0, 0), (41, .if_icmp .le 5, 3, 0, 0, 0), (44, .iconst (-1), 1, 0, 0, 0), (45, .ireturn, 1, 0, 0, 0), (46, .aload_n 0, 1, 0, 0, 0), (47, .iload_n 1, 1, 0, 0, 0), (48, .iload_n 2, 1, 0, 0, 0), (49, .iload_n 3, 1, 0, 0, 0), (50, .iload 4, 2, 0, 0, 0), (52, .iconst 0, 1, 0, 0, 0), (53, .invokevirtual 202, 3, 0, 112, 0), (56, .aload_n 0, 1, 0, 0, 0), (57, .getfield 195, 3, 0, 12, 5), (60, .ireturn, 1, 0, 0, 0)] -- X12_set
def cd114 : List AE := [(0, .iconst (-1), 1, 0, 0, 0), (1, .istore 5, 2, 0, 0, 0), (3, .iconst 0, 1, 0, 0, 0), (4, .istore 6, 2, 0, 0, 0), (6, .iload 6, 2, 0, 0, 0), (8, .aload_n 0, 1, 0, 0, 0), (9, .getfield 195, 3, 0, 12, 5), (12, .if_icmp .ge 80, 3, 0, 0, 0), (15, .aload_n 0, 1, 0, 0, 0), (16, .getfield 29, 3, 0, 12, 9), (19, .iload 6, 2, 0, 0, 0), (21, .iaload, 1, 0, 0, 0), (22, .iload_n 1, 1, 0, 0, 0), (23, .if_icmp .ne 63, 3, 0, 0, 0), (26, .aload_n 0, 1, 0, 0, 0), (27, .getfield 32, 3, 0, 12, 10), (30, .iload 6, 2, 0, 0, 0), (32, .iaload, 1, 0, 0, 0), (33, .iload_n 2, 1, 0, 0, 0), (34, .if_icmp .ne 52, 3, 0, 0, 0), (37, .aload_n 0, 1, 0, 0, 0), (38, .getfield 41, 3, 0, 12, 13), (41, .iload 6, 2, 0, 0, 0), (43, .iaload, 1, 0, 0, 0), (44, .iload 4, 2, 0, 0, 0), (46, .if_icmp .gt 40, 3, 0, 0, 0), (49, .aload_n 0, 1, 0, 0, 0), (50, .getfield 38, 3, 0, 12, 12), (53, .iload 6, 2, 0, 0, 0), (55, .iaload, 1, 0, 0, 0), (56, .iload_n 3, 1, 0, 0, 0), (57, .if_icmp .gt 29, 3, 0, 0, 0), (60, .iload 5, 2, 0, 0, 0), (62, .ifCond .lt 20, 3, 0, 0, 0), (65, .aload_n 0, 1, 0, 0, 0), (66, .getfield 38, 3, 0, 12, 12), (69, .iload 6, 2, 0, 0, 0), (71, .iaload, 1, 0, 0, 0), (72, .aload_n 0, 1, 0, 0, 0), (73, .getfield 38, 3, 0, 12, 12), (76, .iload 5, 2, 0, 0, 0), (78, .iaload, 1, 0, 0, 0), (79, .if_icmp .lt 7, 3, 0, 0, 0), (82, .iload 6, 2, 0, 0, 0), (84, .istore 5, 2, 0, 0, 0), (86, .iinc 6 1, 3, 0, 0, 0), (89, .goto (-83), 3, 0, 0, 0), (92, .iload 5, 2, 0, 0, 0), (94, .ireturn, 1, 0, 0, 0)] -- X12_version
def cd115 : List AE := [(0, .aload_n 0, 1, 0, 0, 0), (1, .iload_n 1, 1, 0, 0, 0), (2, .iload_n 2, 1, 0, 0, 0), (3, .iload_n 3, 1, 0, 0, 0), (4, .iload 4, 2, 0, 0, 0), (6, .invokevirtual 206, 3, 0, 114, 0), (9, .istore 5, 2, 0, 0, 0), (11, .iload 5, 2, 0, 0, 0), (13, .ifCond .ge 7, 3, 0, 0, 0), (16, .iconst (-1), 1, 0, 0, 0), (17, .goto 10, 3, 0, 0, 0), (20, .aload_n 0, 1, 0, 0, 0), (21, .getfield 35, 3, 0, 12, 11), (24, .iload 5, 2, 0, 0, 0), (26, .iaload, 1, 0, 0, 0), (27, .ireturn, 1, 0, 0, 0)] -- X12_valueOf
def cd116 : List AE := [(0, .aload_n 0, 1, 0, 0, 0), (1, .iload_n 1, 1, 0, 0, 0), (2, .invokevirtual 191, 3, 0, 109, 0), (5, .ifCond .eq 22, 3, 0, 0, 0), (8, .iload_n 2, 1, 0, 0, 0), (9, .invokestatic 182, 3, 0, 104, 0), (12, .ifCond .eq 15, 3, 0, 0, 0), (15, .aload_n 0, 1, 0, 0, 0), (16, .iload_n 1, 1, 0, 0, 0), (17, .iload_n 2, 1, 0, 0, 0), (18, .iload_n 3, 1, 0, 0, 0), (19, .iload 4, 2, 0, 0, 0), (21, .invokevirtual 210, 3, 0, 115, 0), (24, .goto 4, 3, 0, 0, 0), (27, .iconst (-1), 1, 0, 0, 0), (28, .ireturn, 1, 0, 0, 0)] -- X12_value
def cd117 : List AE := [(0, .aload_n 0, 1, 0, 0, 0), (1, .iload_n 1, 1, 0, 0, 0), (2, .invokevirtual 191, 3, 0, 109, 0), (5, .ifCond .ne 5, 3, 0, 0, 0), (8, .iconst 0, 1, 0, 0, 0), (9, .ireturn, 1, 0, 0, 0), (10, .aload_n 0, 1, 0, 0, 0), (11, .getfield 25, 3, 0, 12, 8), (14, .iload_n 1, 1, 0, 0, 0), (15, .iconst 1, 1, 0, 0, 0), (16, .bastore, 1, 0, 0, 0), (17, .iconst 1, 1, 0, 0, 0), (18, .ireturn, 1, 0, 0, 0)] -- X12_forget
def cd118 : List AE := [(0, .iload_n 1, 1, 0, 0, 0), (1, .ifCond .lt 21, 3, 0, 0, 0), (4, .iload_n 1, 1, 0, 0, 0), (5, .sipush 1000, 3, 0, 0, 0), (8, .if_icmp .gt 14, 3, 0, 0, 0), (11, .aload_n 0, 1, 0, 0, 0), (12, .getfield 188, 3, 0, 12, 0), (15, .iload_n 1, 1, 0, 0, 0), (16, .iadd, 1, 0, 0, 0), (17, .ldc 201, 2, 100000, 0, 0), (19, .if_icmp .le 5, 3, 0, 0, 0), (22, .iconst (-1), 1, 0, 0, 0), (23, .ireturn, 1, 0, 0, 0), (24, .aload_n 0, 1, 0, 0, 0), (25, .dup, 1, 0, 0, 0), (26, .getfield 188, 3, 0, 12, 0), (29, .iload_n 1, 1, 0, 0, 0), (30, .iadd, 1, 0, 0, 0), (31, .putfield 188, 3, 0, 12, 0), (34, .aload_n 0, 1, 0, 0, 0), (35, .getfield 188, 3, 0, 12, 0), (38, .ireturn, 1, 0, 0, 0)] -- X12_later
def cd119 : List AE := [(0, .aload_n 0, 1, 0, 0, 0), (1, .getfield 213, 3, 0, 12, 30), (4, .bipush 20, 2, 0, 0, 0), (6, .iadd, 1, 0, 0, 0), (7, .sipush 500, 3, 0, 0, 0), (10, .if_icmp .le 5, 3, 0, 0, 0), (13, .iconst (-1), 1, 0, 0, 0), (14, .ireturn, 1, 0, 0, 0), (15, .aload_n 0, 1, 0, 0, 0), (16, .iload_n 1, 1, 0, 0, 0), (17, .invokevirtual 216, 3, 0, 120, 0), (20, .aload_n 0, 1, 0, 0, 0), (21, .iload_n 2, 1, 0, 0, 0), (22, .invokevirtual 216, 3, 0, 120, 0), (25, .aload_n 0, 1, 0, 0, 0), (26, .iload_n 3, 1, 0, 0, 0), (27, .invokevirtual 216, 3, 0, 120, 0), (30, .aload_n 0, 1, 0, 0, 0), (31, .iload 4, 2, 0, 0, 0), (33, .invokevirtual 216, 3, 0, 120, 0), (36, .aload_n 0, 1, 0, 0, 0), (37, .iload 5, 2, 0, 0, 0), (39, .invokevirtual 216, 3, 0, 120, 0), (42, .aload_n 0, 1, 0, 0, 0), (43, .getfield 213, 3, 0, 12, 30), (46, .ireturn, 1, 0, 0, 0)] -- X12_feed
def cd120 : List AE := [(0, .bipush 24, 2, 0, 0, 0), (2, .istore_n 2, 1, 0, 0, 0), (3, .iload_n 2, 1, 0, 0, 0), (4, .ifCond .lt 35, 3, 0, 0, 0), (7, .aload_n 0, 1, 0, 0, 0), (8, .getfield 77, 3, 0, 12, 29), (11, .aload_n 0, 1, 0, 0, 0), (12, .getfield 213, 3, 0, 12, 30), (15, .iload_n 1, 1, 0, 0, 0), (16, .iload_n 2, 1, 0, 0, 0), (17, .ishr, 1, 0, 0, 0), (18, .sipush 255, 3, 0, 0, 0), (21, .iand, 1, 0, 0, 0), (22, .iastore, 1, 0, 0, 0), (23, .aload_n 0, 1, 0, 0, 0), (24, .dup, 1, 0, 0, 0), (25, .getfield 213, 3, 0, 12, 30), (28, .iconst 1, 1, 0, 0, 0), (29, .iadd, 1, 0, 0, 0), (30, .putfield 213, 3, 0, 12, 30), (33, .iinc 2 (-8), 3, 0, 0, 0), (36, .goto (-33), 3, 0, 0, 0), (39, .return_, 1, 0, 0, 0)] -- X12_four
def cd121 : List AE := [(0, .iload_n 1, 1, 0, 0, 0), (1, .ifCond .lt 11, 3, 0, 0, 0), (4, .iload_n 1, 1, 0, 0, 0), (5, .aload_n 0, 1, 0, 0, 0), (6, .getfield 213, 3, 0, 12, 30), (9, .if_icmp .le 5, 3, 0, 0, 0), (12, .iconst (-1), 1, 0, 0, 0), (13, .ireturn, 1, 0, 0, 0), (14, .aload_n 0, 1, 0, 0, 0), (15, .iload_n 1, 1, 0, 0, 0), (16, .putfield 213, 3, 0, 12, 30), (19, .iload_n 1, 1, 0, 0, 0), (20, .ireturn, 1, 0, 0, 0)] -- X12_end
def cd122 : List AE := [(0, .aload_n 0, 1, 0, 0, 0), (1, .getfield 220, 3, 0, 12, 33), (4, .iload_n 1, 1, 0, 0, 0), (5, .iadd, 1, 0, 0, 0), (6, .aload_n 0, 1, 0, 0, 0), (7, .getfield 223, 3, 0, 12, 34), (10, .if_icmp .ge 17, 3, 0, 0, 0), (13, .aload_n 0, 1, 0, 0, 0), (14, .getfield 77, 3, 0, 12, 29), (17, .aload_n 0, 1, 0, 0, 0), (18, .getfield 220, 3, 0, 12, 33), (21, .iload_n 1, 1, 0, 0, 0), (22, .iadd, 1, 0, 0, 0), (23, .iaload, 1, 0, 0, 0), (24, .goto 4, 3, 0, 0, 0), (27, .iconst (-1), 1, 0, 0, 0), (28, .ireturn, 1, 0, 0, 0)] -- X12_here
def cd123 : List AE := [(0, .iload_n 0, 1, 0, 0, 0), (1, .bipush 97, 2, 0, 0, 0), (3, .if_icmp .lt 13, 3, 0, 0, 0), (6, .iload_n 0, 1, 0, 0, 0), (7, .bipush 122, 2, 0, 0, 0), (9, .if_icmp .gt 7, 3, 0, 0, 0), (12, .iconst 1, 1, 0, 0, 0), (13, .goto 4, 3, 0, 0, 0), (16, .iconst 0, 1, 0, 0, 0), (17, .ireturn, 1, 0, 0, 0)] -- X12_isLetter
def cd124 : List AE := [(0, .iload_n 0, 1, 0, 0, 0), (1, .bipush 48, 2, 0, 0, 0), (3, .if_icmp .lt 13, 3, 0, 0, 0), (6, .iload_n 0, 1, 0, 0, 0), (7, .bipush 57, 2, 0, 0, 0), (9, .if_icmp .gt 7, 3, 0, 0, 0), (12, .iconst 1, 1, 0, 0, 0), (13, .goto 4, 3, 0, 0, 0), (16, .iconst 0, 1, 0, 0, 0), (17, .ireturn, 1, 0, 0, 0)] -- X12_isDigit
def cd125 : List AE := [(0, .aload_n 0, 1, 0, 0, 0), (1, .iconst 0, 1, 0, 0, 0), (2, .invokevirtual 226, 3, 0, 122, 0), (5, .bipush 32, 2, 0, 0, 0), (7, .if_icmp .eq 13, 3, 0, 0, 0), (10, .aload_n 0, 1, 0, 0, 0), (11, .iconst 0, 1, 0, 0, 0), (12, .invokevirtual 226, 3, 0, 122, 0), (15, .bipush 10, 2, 0, 0, 0), (17, .if_icmp .ne 16, 3, 0, 0, 0), (20, .aload_n 0, 1, 0, 0, 0), (21, .dup, 1, 0, 0, 0), (22, .getfield 220, 3, 0, 12, 33), (25, .iconst 1, 1, 0, 0, 0), (26, .iadd, 1, 0, 0, 0), (27, .putfield 220, 3, 0, 12, 33), (30, .goto (-30), 3, 0, 0, 0), (33, .aload_n 0, 1, 0, 0, 0), (34, .aload_n 0, 1, 0, 0, 0), (35, .getfield 220, 3, 0, 12, 33), (38, .putfield 230, 3, 0, 12, 36), (41, .aload_n 0, 1, 0, 0, 0), (42, .iconst 0, 1, 0, 0, 0), (43, .invokevirtual 226, 3, 0, 122, 0), (46, .istore_n 1, 1, 0, 0, 0), (47, .iconst 0, 1, 0, 0, 0), (48, .istore_n 2, 1, 0, 0, 0), (49, .aload_n 0, 1, 0, 0, 0), (50, .lconst 0, 1, 0, 0, 0), (51, .putfield 233, 3, 0, 12, 38), (54, .aload_n 0, 1, 0, 0, 0), (55, .iconst 0, 1, 0, 0, 0), (56, .putfield 237, 3, 0, 12, 37), (59, .iload_n 1, 1, 0, 0, 0), (60, .ifCond .ge 11, 3, 0, 0, 0), (63, .aload_n 0, 1, 0, 0, 0), (64, .iconst 0, 1, 0, 0, 0), (65, .putfield 240, 3, 0, 12, 35), (68, .goto 177, 3, 0, 0, 0), (71, .iload_n 1, 1, 0, 0, 0), (72, .invokestatic 243, 3, 0, 123, 0), (75, .ifCond .eq 62, 3, 0, 0, 0), (78, .aload_n 0, 1, 0, 0, 0), (79, .iload_n 2, 1, 0, 0, 0), (80, .invokevirtual 226, 3, 0, 122, 0), (83, .invokestatic 243, 3, 0, 123, 0), (86, .ifCond .eq 33, 3, 0, 0, 0), (89, .iload_n 2, 1, 0, 0, 0), (90, .bipush 8, 2, 0, 0, 0), (92, .if_icmp .ge 21, 3, 0, 0, 0), (95, .aload_n 0, 1, 0, 0, 0), (96, .aload_n 0, 1, 0, 0, 0), (97, .getfield 233, 3, 0, 12, 38), (100, .bipush 8, 2, 0, 0, 0), (102, .lshl, 1, 0, 0, 0), (103, .aload_n 0, 1, 0, 0, 0), (104, .iload_n 2, 1, 0, 0, 0), (105, .invokevirtual 226, 3, 0, 122, 0), (108, .i2l, 1, 0, 0, 0), (109, .lor, 1, 0, 0, 0), (110, .putfield 233, 3, 0, 12, 38), (113, .iinc 2 1, 3, 0, 0, 0), (116, .goto (-38), 3, 0, 0, 0), (119, .aload_n 0, 1, 0, 0, 0), (120, .iload_n 2, 1, 0, 0, 0), (121, .bipush 8, 2, 0, 0, 0), (123, .if_icmp .le 7, 3, 0, 0, 0), (126, .iconst 3, 1, 0, 0, 0), (127, .goto 4, 3, 0, 0, 0), (130, .iconst 1, 1, 0, 0, 0), (131, .putfield 240, 3, 0, 12, 35), (134, .goto 111, 3, 0, 0, 0), (137, .iload_n 1, 1, 0, 0, 0), (138, .invokestatic 246, 3, 0, 124, 0), (141, .ifCond .eq 75, 3, 0, 0, 0), (144, .aload_n 0, 1, 0, 0, 0), (145, .iload_n 2, 1, 0, 0, 0), (146, .invokevirtual 226, 3, 0, 122, 0), (149, .invokestatic 246, 3, 0, 124, 0), (152, .ifCond .eq 35, 3, 0, 0, 0), (155, .iload_n 2, 1, 0, 0, 0), (156, .bipush 6, 2, 0, 0, 0), (158, .if_icmp .ge 23, 3, 0, 0, 0), (161, .aload_n 0, 1, 0, 0, 0), (162, .bipush 10, 2, 0, 0, 0), (164, .aload_n 0, 1, 0, 0, 0), (165, .getfield 237, 3, 0, 12, 37), (168, .imul, 1, 0, 0, 0), (169, .aload_n 0, 1, 0, 0, 0), (170, .iload_n 2, 1, 0, 0, 0), (171, .invokevirtual 226, 3, 0, 122, 0), (174, .iadd, 1, 0, 0, 0), (175, .bipush 48, 2, 0, 0, 0), (177, .isub, 1, 0, 0, 0), (178, .putfield 237, 3, 0, 12, 37), (181, .iinc 2 1, 3, 0, 0, 0), (184, .goto (-40), 3, 0, 0, 0), (187, .aload_n 0, 1, 0, 0, 0), (188, .iload_n 2, 1, 0, 0, 0), (189, .bipush 6, 2, 0, 0, 0), (191, .if_icmp .gt 14, 3, 0, 0, 0), (194, .aload_n 0, 1, 0, 0, 0), (195, .iload_n 2, 1, 0, 0, 0), (196, .invokevirtual 226, 3, 0, 122, 0), (199, .invokestatic 243, 3, 0, 123, 0), (202, .ifCond .eq 7, 3, 0, 0, 0), (205, .iconst 3, 1, 0, 0, 0), (206, .goto 4, 3, 0, 0, 0), (209, .iconst 2, 1, 0, 0, 0), (210, .putfield 240, 3, 0, 12, 35), (213, .goto 32, 3, 0, 0, 0), (216, .iconst 1, 1, 0, 0, 0), (217, .istore_n 2, 1, 0, 0, 0), (218, .aload_n 0, 1, 0, 0, 0), (219, .iload_n 1, 1, 0, 0, 0), (220, .bipush 59, 2, 0, 0, 0), (222, .if_icmp .eq 15, 3, 0, 0, 0), (225, .iload_n 1, 1, 0, 0, 0), (226, .bipush 40, 2, 0, 0, 0), (228, .if_icmp .eq 9, 3, 0, 0, 0), (231, .iload_n 1, 1, 0, 0, 0), (232, .bipush 41, 2, 0, 0, 0), (234, .if_icmp .ne 7, 3, 0, 0, 0), (237, .iload_n 1, 1, 0, 0, 0), (238, .goto 4, 3, 0, 0, 0), (241, .iconst 3, 1, 0, 0, 0), (242, .putfield 240, 3, 0, 12, 35), (245, .aload_n 0, 1, 0, 0, 0), (246, .getfield 240, 3, 0, 12, 35), (249, .iconst 3, 1, 0, 0, 0), (250, .if_icmp .eq 13, 3, 0, 0, 0), (253, .aload_n 0, 1, 0, 0, 0), (254, .dup, 1, 0, 0, 0), (255, .getfield 220, 3, 0, 12, 33), (258, .iload_n 2, 1, 0, 0, 0), (259, .iadd, 1, 0, 0, 0), (260, .putfield 220, 3, 0, 12, 33), (263, .return_, 1, 0, 0, 0)] -- X12_next
def cd126 : List AE := [(0, .aload_n 0, 1, 0, 0, 0), (1, .getfield 249, 3, 0, 12, 31), (4, .ifCond .le 4, 3, 0, 0, 0), (7, .return_, 1, 0, 0, 0), (8, .aload_n 0, 1, 0, 0, 0), (9, .aload_n 0, 1, 0, 0, 0), (10, .getfield 240, 3, 0, 12, 35), (13, .iconst 3, 1, 0, 0, 0), (14, .if_icmp .ne 7, 3, 0, 0, 0), (17, .iconst 1, 1, 0, 0, 0), (18, .goto 4, 3, 0, 0, 0), (21, .iload_n 1, 1, 0, 0, 0), (22, .putfield 249, 3, 0, 12, 31), (25, .aload_n 0, 1, 0, 0, 0), (26, .aload_n 0, 1, 0, 0, 0), (27, .getfield 230, 3, 0, 12, 36), (30, .putfield 80, 3, 0, 12, 32), (33, .return_, 1, 0, 0, 0)] -- X12_wrong
def cd127 : List AE := [(0, .aload_n 0, 1, 0, 0, 0), (1, .getfield 240, 3, 0, 12, 35), (4, .iconst 1, 1, 0, 0, 0), (5, .if_icmp .ne 16, 3, 0, 0, 0), (8, .aload_n 0, 1, 0, 0, 0), (9, .getfield 233, 3, 0, 12, 38), (12, .lload_n 1, 1, 0, 0, 0), (13, .lcmp, 1, 0, 0, 0), (14, .ifCond .ne 7, 3, 0, 0, 0), (17, .iconst 1, 1, 0, 0, 0), (18, .goto 4, 3, 0, 0, 0), (21, .iconst 0, 1, 0, 0, 0), (22, .ireturn, 1, 0, 0, 0)] -- X12_isWord
def cd128 : List AE := [(0, .aload_n 0, 1, 0, 0, 0), (1, .getfield 62, 3, 0, 12, 21), (4, .aload_n 0, 1, 0, 0, 0), (5, .getfield 252, 3, 0, 12, 27), (8, .iload_n 1, 1, 0, 0, 0), (9, .iastore, 1, 0, 0, 0), (10, .aload_n 0, 1, 0, 0, 0), (11, .getfield 65, 3, 0, 12, 22), (14, .aload_n 0, 1, 0, 0, 0), (15, .getfield 252, 3, 0, 12, 27), (18, .iload_n 2, 1, 0, 0, 0), (19, .iastore, 1, 0, 0, 0), (20, .aload_n 0, 1, 0, 0, 0), (21, .getfield 68, 3, 0, 12, 23), (24, .aload_n 0, 1, 0, 0, 0), (25, .getfield 252, 3, 0, 12, 27), (28, .iload_n 3, 1, 0, 0, 0), (29, .iastore, 1, 0, 0, 0), (30, .aload_n 0, 1, 0, 0, 0), (31, .dup, 1, 0, 0, 0), (32, .getfield 252, 3, 0, 12, 27), (35, .iconst 1, 1, 0, 0, 0), (36, .iadd, 1, 0, 0, 0), (37, .putfield 252, 3, 0, 12, 27), (40, .return_, 1, 0, 0, 0)] -- X12_step
def cd129 : List AE := [(0, .aload_n 0, 1, 0, 0, 0), (1, .getfield 240, 3, 0, 12, 35), (4, .iconst 2, 1, 0, 0, 0), (5, .if_icmp .eq 11, 3, 0, 0, 0), (8, .aload_n 0, 1, 0, 0, 0), (9, .iconst 2, 1, 0, 0, 0), (10, .invokevirtual 255, 3, 0, 126, 0), (13, .goto 24, 3, 0, 0, 0), (16, .aload_n 0, 1, 0, 0, 0), (17, .getfield 237, 3, 0, 12, 37), (20, .iload_n 1, 1, 0, 0, 0), (21, .if_icmp .lt 11, 3, 0, 0, 0), (24, .aload_n 0, 1, 0, 0, 0), (25, .getfield 237, 3, 0, 12, 37), (28, .iload_n 2, 1, 0, 0, 0), (29, .if_icmp .le 8, 3, 0, 0, 0), (32, .aload_n 0, 1, 0, 0, 0), (33, .iconst 3, 1, 0, 0, 0), (34, .invokevirtual 255, 3, 0, 126, 0), (37, .aload_n 0, 1, 0, 0, 0), (38, .getfield 237, 3, 0, 12, 37), (41, .istore_n 3, 1, 0, 0, 0), (42, .aload_n 0, 1, 0, 0, 0), (43, .getfield 249, 3, 0, 12, 31), (46, .ifCond .ne 7, 3, 0, 0, 0), (49, .aload_n 0, 1, 0, 0, 0), (50, .invokevirtual 258, 3, 0, 125, 0), (53, .iload_n 3, 1, 0, 0, 0), (54, .ireturn, 1, 0, 0, 0)] -- X12_told
def cd130 : List AE := [(0, .aload_n 0, 1, 0, 0, 0), (1, .getfield 84, 3, 0, 12, 39), (4, .aload_n 0, 1, 0, 0, 0), (5, .getfield 261, 3, 0, 12, 40), (8, .iload_n 1, 1, 0, 0, 0), (9, .iastore, 1, 0, 0, 0), (10, .aload_n 0, 1, 0, 0, 0), (11, .dup, 1, 0, 0, 0), (12, .getfield 261, 3, 0, 12, 40), (15, .iconst 1, 1, 0, 0, 0), (16, .iadd, 1, 0, 0, 0), (17, .putfield 261, 3, 0, 12, 40), (20, .iload_n 1, 1, 0, 0, 0), (21, .bipush 8, 2, 0, 0, 0), (23, .if_icmp .eq 8, 3, 0, 0, 0), (26, .iload_n 1, 1, 0, 0, 0), (27, .iconst 5, 1, 0, 0, 0), (28, .if_icmp .ne 13, 3, 0, 0, 0), (31, .aload_n 0, 1, 0, 0, 0), (32, .dup, 1, 0, 0, 0), (33, .getfield 264, 3, 0, 12, 41), (36, .iconst 1, 1, 0, 0, 0), (37, .iadd, 1, 0, 0, 0), (38, .putfield 264, 3, 0, 12, 41), (41, .return_, 1, 0, 0, 0)] -- X12_hold
def cd131 : List AE := [(0, .aload_n 0, 1, 0, 0, 0), (1, .dup, 1, 0, 0, 0), (2, .getfield 261, 3, 0, 12, 40), (5, .iconst 1, 1, 0, 0, 0), (6, .isub, 1, 0, 0, 0), (7, .putfield 261, 3, 0, 12, 40), (10, .aload_n 0, 1, 0, 0, 0), (11, .getfield 84, 3, 0, 12, 39), (14, .aload_n 0, 1, 0, 0, 0), (15, .getfield 261, 3, 0, 12, 40), (18, .iaload, 1, 0, 0, 0), (19, .iconst 5, 1, 0, 0, 0), (20, .if_icmp .ne 13, 3, 0, 0, 0), (23, .aload_n 0, 1, 0, 0, 0), (24, .dup, 1, 0, 0, 0), (25, .getfield 264, 3, 0, 12, 41), (28, .iconst 1, 1, 0, 0, 0), (29, .isub, 1, 0, 0, 0), (30, .putfield 264, 3, 0, 12, 41), (33, .aload_n 0, 1, 0, 0, 0), (34, .aload_n 0, 1, 0, 0, 0), (35, .getfield 84, 3, 0, 12, 39), (38, .aload_n 0, 1, 0, 0, 0), (39, .getfield 261, 3, 0, 12, 40), (42, .iaload, 1, 0, 0, 0), (43, .iconst 0, 1, 0, 0, 0), (44, .iconst 0, 1, 0, 0, 0), (45, .invokevirtual 267, 3, 0, 128, 0), (48, .return_, 1, 0, 0, 0)] -- X12_pop
def cd132 : List AE := [(0, .iconst 1, 1, 0, 0, 0), (1, .istore_n 2, 1, 0, 0, 0), (2, .iload_n 2, 1, 0, 0, 0), (3, .ifCond .eq 60, 3, 0, 0, 0), (6, .aload_n 0, 1, 0, 0, 0), (7, .getfield 261, 3, 0, 12, 40), (10, .ifCond .ne 8, 3, 0, 0, 0), (13, .bipush 8, 2, 0, 0, 0), (15, .goto 14, 3, 0, 0, 0), (18, .aload_n 0, 1, 0, 0, 0), (19, .getfield 84, 3, 0, 12, 39), (22, .aload_n 0, 1, 0, 0, 0), (23, .getfield 261, 3, 0, 12, 40), (26, .iconst 1, 1, 0, 0, 0), (27, .isub, 1, 0, 0, 0), (28, .iaload, 1, 0, 0, 0), (29, .istore_n 3, 1, 0, 0, 0), (30, .iload_n 3, 1, 0, 0, 0), (31, .bipush 8, 2, 0, 0, 0), (33, .if_icmp .eq 17, 3, 0, 0, 0), (36, .iload_n 1, 1, 0, 0, 0), (37, .ifCond .eq 9, 3, 0, 0, 0), (40, .iload_n 3, 1, 0, 0, 0), (41, .bipush 6, 2, 0, 0, 0), (43, .if_icmp .eq 7, 3, 0, 0, 0), (46, .iconst 1, 1, 0, 0, 0), (47, .goto 4, 3, 0, 0, 0), (50, .iconst 0, 1, 0, 0, 0), (51, .istore_n 2, 1, 0, 0, 0), (52, .iload_n 2, 1, 0, 0, 0), (53, .ifCond .eq 7, 3, 0, 0, 0), (56, .aload_n 0, 1, 0, 0, 0), (57, .invokevirtual 271, 3, 0, 131, 0), (60, .goto (-58), 3, 0, 0, 0), (63, .return_, 1, 0, 0, 0)] -- X12_settle
def cd133 : List AE := [(0, .iconst 0, 1, 0, 0, 0), (1, .istore_n 1, 1, 0, 0, 0), (2, .iconst 0, 1, 0, 0, 0), (3, .istore_n 2, 1, 0, 0, 0), (4, .iload_n 2, 1, 0, 0, 0), (5, .aload_n 0, 1, 0, 0, 0), (6, .getfield 261, 3, 0, 12, 40), (9, .if_icmp .ge 30, 3, 0, 0, 0), (12, .iload_n 1, 1, 0, 0, 0), (13, .ifCond .ne 14, 3, 0, 0, 0), (16, .aload_n 0, 1, 0, 0, 0), (17, .getfield 84, 3, 0, 12, 39), (20, .iload_n 2, 1, 0, 0, 0), (21, .iaload, 1, 0, 0, 0), (22, .bipush 8, 2, 0, 0, 0), (24, .if_icmp .ne 7, 3, 0, 0, 0), (27, .iconst 1, 1, 0, 0, 0), (28, .goto 4, 3, 0, 0, 0), (31, .iconst 0, 1, 0, 0, 0), (32, .istore_n 1, 1, 0, 0, 0), (33, .iinc 2 1, 3, 0, 0, 0), (36, .goto (-32), 3, 0, 0, 0), (39, .iload_n 1, 1, 0, 0, 0), (40, .ireturn, 1, 0, 0, 0)] -- X12_isOpen
def cd134 : List AE := [(0, .aload_n 0, 1, 0, 0, 0), (1, .iconst 0, 1, 0, 0, 0), (2, .putfield 261, 3, 0, 12, 40), (5, .aload_n 0, 1, 0, 0, 0), (6, .iconst 0, 1, 0, 0, 0), (7, .putfield 264, 3, 0, 12, 41), (10, .iconst 0, 1, 0, 0, 0), (11, .istore_n 1, 1, 0, 0, 0), (12, .aload_n 0, 1, 0, 0, 0), (13, .getfield 249, 3, 0, 12, 31), (16, .ifCond .ne 42, 3, 0, 0, 0), (19, .iload_n 1, 1, 0, 0, 0), (20, .ifCond .eq 19, 3, 0, 0, 0), (23, .aload_n 0, 1, 0, 0, 0), (24, .getfield 240, 3, 0, 12, 35), (27, .bipush 59, 2, 0, 0, 0), (29, .if_icmp .ne 10, 3, 0, 0, 0), (32, .aload_n 0, 1, 0, 0, 0), (33, .invokevirtual 274, 3, 0, 133, 0), (36, .ifCond .eq 22, 3, 0, 0, 0), (39, .iload_n 1, 1, 0, 0, 0), (40, .ifCond .eq 10, 3, 0, 0, 0), (43, .aload_n 0, 1, 0, 0, 0), (44, .invokevirtual 278, 3, 0, 136, 0), (47, .goto 7, 3, 0, 0, 0), (50, .aload_n 0, 1, 0, 0, 0), (51, .invokevirtual 281, 3, 0, 135, 0), (54, .istore_n 1, 1, 0, 0, 0), (55, .goto (-43), 3, 0, 0, 0), (58, .aload_n 0, 1, 0, 0, 0), (59, .getfield 249, 3, 0, 12, 31), (62, .ifCond .ne 8, 3, 0, 0, 0), (65, .aload_n 0, 1, 0, 0, 0), (66, .iconst 0, 1, 0, 0, 0), (67, .invokevirtual 284, 3, 0, 132, 0), (70, .return_, 1, 0, 0, 0)] -- X12_readE
def cd135 : List AE := [(0, .aload_n 0, 1, 0, 0, 0), (1, .ldc2_w 288, 3, 1935764837, 0, 0), (4, .invokevirtual 290, 3, 0, 127, 0), (7, .ifCond .ne 33, 3, 0, 0, 0), (10, .aload_n 0, 1, 0, 0, 0), (11, .ldc2_w 294, 3, 1852137842, 0, 0), (14, .invokevirtual 290, 3, 0, 127, 0), (17, .ifCond .ne 23, 3, 0, 0, 0), (20, .aload_n 0, 1, 0, 0, 0), (21, .ldc2_w 296, 3, 465490373491, 0, 0), (24, .invokevirtual 290, 3, 0, 127, 0), (27, .ifCond .ne 13, 3, 0, 0, 0), (30, .aload_n 0, 1, 0, 0, 0), (31, .ldc2_w 298, 3, 126922548994917, 0, 0), (34, .invokevirtual 290, 3, 0, 127, 0), (37, .ifCond .eq 7, 3, 0, 0, 0), (40, .iconst 1, 1, 0, 0, 0), (41, .goto 4, 3, 0, 0, 0), (44, .iconst 0, 1, 0, 0, 0), (45, .istore_n 1, 1, 0, 0, 0), (46, .iload_n 1, 1, 0, 0, 0), (47, .ifCond .ne 22, 3, 0, 0, 0), (50, .aload_n 0, 1, 0, 0, 0), (51, .ldc2_w 300, 3, 7237492, 0, 0), (54, .invokevirtual 290, 3, 0, 127, 0), (57, .ifCond .ne 12, 3, 0, 0, 0), (60, .aload_n 0, 1, 0, 0, 0), (61, .getfield 240, 3, 0, 12, 35), (64, .bipush 40, 2, 0, 0, 0), (66, .if_icmp .ne 7, 3, 0, 0, 0), (69, .iconst 1, 1, 0, 0, 0), (70, .goto 4, 3, 0, 0, 0), (73, .iconst 0, 1, 0, 0, 0), (74, .istore_n 2, 1, 0, 0, 0), (75, .iload_n 2, 1, 0, 0, 0), (76, .ifCond .eq 25, 3, 0, 0, 0), (79, .aload_n 0, 1, 0, 0, 0), (80, .getfield 264, 3, 0, 12, 41), (83, .bipush 8, 2, 0, 0, 0), (85, .if_icmp .ge 16, 3, 0, 0, 0), (88, .iload_n 1, 1, 0, 0, 0), (89, .ifCond .eq 17, 3, 0, 0, 0), (92, .aload_n 0, 1, 0, 0, 0), (93, .getfield 302, 3, 0, 12, 28), (96, .bipush 60, 2, 0, 0, 0), (98, .if_icmp .ne 8, 3, 0, 0, 0), (101, .aload_n 0, 1, 0, 0, 0), (102, .iconst 2, 1, 0, 0, 0), (103, .invokevirtual 255, 3, 0, 126, 0), (106, .aload_n 0, 1, 0, 0, 0), (107, .getfield 249, 3, 0, 12, 31), (110, .ifCond .le 5, 3, 0, 0, 0), (113, .iconst 0, 1, 0, 0, 0), (114, .ireturn, 1, 0, 0, 0), (115, .iload_n 1, 1, 0, 0, 0), (116, .ifCond .ne 28, 3, 0, 0, 0), (119, .aload_n 0, 1, 0, 0, 0), (120, .aload_n 0, 1, 0, 0, 0), (121, .getfield 240, 3, 0, 12, 35), (124, .bipush 40, 2, 0, 0, 0), (126, .if_icmp .ne 8, 3, 0, 0, 0), (129, .bipush 8, 2, 0, 0, 0), (131, .goto 4, 3, 0, 0, 0), (134, .iconst 5, 1, 0, 0, 0), (135, .invokevirtual 305, 3, 0, 130, 0), (138, .aload_n 0, 1, 0, 0, 0), (139, .invokevirtual 258, 3, 0, 125, 0), (142, .iconst 0, 1, 0, 0, 0), (143, .ireturn, 1, 0, 0, 0), (144, .aload_n 0, 1, 0, 0, 0), (145, .ldc2_w 288, 3, 1935764837, 0, 0), (148, .invokevirtual 290, 3, 0, 127, 0), (151, .ifCond .eq 7, 3, 0, 0, 0), (154, .iconst 1, 1, 0, 0, 0), (155, .goto 32, 3, 0, 0, 0), (158, .aload_n 0, 1, 0, 0, 0), (159, .ldc2_w 294, 3, 1852137842, 0, 0), (162, .invokevirtual 290, 3, 0, 127, 0), (165, .ifCond .eq 7, 3, 0, 0, 0), (168, .iconst 2, 1, 0, 0, 0), (169, .goto 18, 3, 0, 0, 0), (172, .aload_n 0, 1, 0, 0, 0), (173, .ldc2_w 296, 3, 465490373491, 0, 0), (176, .invokevirtual 290, 3, 0, 127, 0), (179, .ifCond .eq 7, 3, 0, 0, 0), (182, .iconst 3, 1, 0, 0, 0), (183, .goto 4, 3, 0, 0, 0), (186, .iconst 4, 1, 0, 0, 0), (187, .istore_n 3, 1, 0, 0, 0), (188, .aload_n 0, 1, 0, 0, 0), (189, .dup, 1, 0, 0, 0), (190, .getfield 302, 3, 0, 12, 28), (193, .iconst 1, 1, 0, 0, 0), (194, .iadd, 1, 0, 0, 0), (195, .putfield 302, 3, 0, 12, 28), (198, .aload_n 0, 1, 0, 0, 0), (199, .invokevirtual 258, 3, 0, 125, 0), (202, .iload_n 3, 1, 0, 0, 0), (203, .iconst 4, 1, 0, 0, 0), (204, .if_icmp .ne 7, 3, 0, 0, 0), (207, .iconst 0, 1, 0, 0, 0), (208, .goto 9, 3, 0, 0, 0), (211, .aload_n 0, 1, 0, 0, 0), (212, .iconst 0, 1, 0, 0, 0), (213, .iconst 5, 1, 0, 0, 0), (214, .invokevirtual 308, 3, 0, 129, 0), (217, .istore 4, 2, 0, 0, 0), (219, .iload_n 3, 1, 0, 0, 0), (220, .iconst 2, 1, 0, 0, 0), (221, .if_icmp .ne 20, 3, 0, 0, 0), (224, .aload_n 0, 1, 0, 0, 0), (225, .getfield 249, 3, 0, 12, 31), (228, .ifCond .ne 13, 3, 0, 0, 0), (231, .aload_n 0, 1, 0, 0, 0), (232, .iconst 0, 1, 0, 0, 0), (233, .ldc 194, 2, 999999, 0, 0), (235, .invokevirtual 308, 3, 0, 129, 0), (238, .goto 4, 3, 0, 0, 0), (241, .iconst 0, 1, 0, 0, 0), (242, .istore 5, 2, 0, 0, 0), (244, .aload_n 0, 1, 0, 0, 0), (245, .getfield 249, 3, 0, 12, 31), (248, .ifCond .ne 12, 3, 0, 0, 0), (251, .aload_n 0, 1, 0, 0, 0), (252, .iload_n 3, 1, 0, 0, 0), (253, .iload 4, 2, 0, 0, 0), (255, .iload 5, 2, 0, 0, 0), (257, .invokevirtual 267, 3, 0, 128, 0), (260, .iconst 1, 1, 0, 0, 0), (261, .ireturn, 1, 0, 0, 0)] -- X12_operand
def cd136 : List AE := [(0, .aload_n 0, 1, 0, 0, 0), (1, .ldc2_w 312, 3, 6385252, 0, 0), (4, .invokevirtual 290, 3, 0, 127, 0), (7, .ifCond .ne 13, 3, 0, 0, 0), (10, .aload_n 0, 1, 0, 0, 0), (11, .ldc2_w 314, 3, 28530, 0, 0), (14, .invokevirtual 290, 3, 0, 127, 0), (17, .ifCond .eq 37, 3, 0, 0, 0), (20, .aload_n 0, 1, 0, 0, 0), (21, .ldc2_w 312, 3, 6385252, 0, 0), (24, .invokevirtual 290, 3, 0, 127, 0), (27, .istore_n 1, 1, 0, 0, 0), (28, .aload_n 0, 1, 0, 0, 0), (29, .iload_n 1, 1, 0, 0, 0), (30, .invokevirtual 284, 3, 0, 132, 0), (33, .aload_n 0, 1, 0, 0, 0), (34, .iload_n 1, 1, 0, 0, 0), (35, .ifCond .eq 8, 3, 0, 0, 0), (38, .bipush 7, 2, 0, 0, 0), (40, .goto 5, 3, 0, 0, 0), (43, .bipush 6, 2, 0, 0, 0), (45, .invokevirtual 305, 3, 0, 130, 0), (48, .aload_n 0, 1, 0, 0, 0), (49, .invokevirtual 258, 3, 0, 125, 0), (52, .iconst 0, 1, 0, 0, 0), (53, .ireturn, 1, 0, 0, 0), (54, .aload_n 0, 1, 0, 0, 0), (55, .getfield 240, 3, 0, 12, 35), (58, .bipush 41, 2, 0, 0, 0), (60, .if_icmp .ne 41, 3, 0, 0, 0), (63, .aload_n 0, 1, 0, 0, 0), (64, .invokevirtual 274, 3, 0, 133, 0), (67, .ifCond .eq 34, 3, 0, 0, 0), (70, .aload_n 0, 1, 0, 0, 0), (71, .iconst 0, 1, 0, 0, 0), (72, .invokevirtual 284, 3, 0, 132, 0), (75, .aload_n 0, 1, 0, 0, 0), (76, .dup, 1, 0, 0, 0), (77, .getfield 261, 3, 0, 12, 40), (80, .iconst 1, 1, 0, 0, 0), (81, .isub, 1, 0, 0, 0), (82, .putfield 261, 3, 0, 12, 40), (85, .aload_n 0, 1, 0, 0, 0), (86, .dup, 1, 0, 0, 0), (87, .getfield 264, 3, 0, 12, 41), (90, .iconst 1, 1, 0, 0, 0), (91, .isub, 1, 0, 0, 0), (92, .putfield 264, 3, 0, 12, 41), (95, .aload_n 0, 1, 0, 0, 0), (96, .invokevirtual 258, 3, 0, 125, 0), (99, .iconst 1, 1, 0, 0, 0), (100, .ireturn, 1, 0, 0, 0), (101, .aload_n 0, 1, 0, 0, 0), (102, .iconst 2, 1, 0, 0, 0), (103, .invokevirtual 255, 3, 0, 126, 0), (106, .iconst 1, 1, 0, 0, 0), (107, .ireturn, 1, 0, 0, 0)] -- X12_sign
def cd137 : List AE := [(0, .aload_n 0, 1, 0, 0, 0), (1, .aload_n 0, 1, 0, 0, 0), (2, .getfield 213, 3, 0, 12, 30), (5, .putfield 223, 3, 0, 12, 34), (8, .aload_n 0, 1, 0, 0, 0), (9, .iconst 0, 1, 0, 0, 0), (10, .putfield 213, 3, 0, 12, 30), (13, .aload_n 0, 1, 0, 0, 0), (14, .iconst 0, 1, 0, 0, 0), (15, .putfield 220, 3, 0, 12, 33), (18, .aload_n 0, 1, 0, 0, 0), (19, .iconst 0, 1, 0, 0, 0), (20, .putfield 249, 3, 0, 12, 31), (23, .aload_n 0, 1, 0, 0, 0), (24, .iconst (-1), 1, 0, 0, 0), (25, .putfield 80, 3, 0, 12, 32), (28, .aload_n 0, 1, 0, 0, 0), (29, .iconst 0, 1, 0, 0, 0), (30, .putfield 316, 3, 0, 12, 26), (33, .aload_n 0, 1, 0, 0, 0), (34, .iconst 0, 1, 0, 0, 0), (35, .putfield 252, 3, 0, 12, 27), (38, .aload_n 0, 1, 0, 0, 0), (39, .iconst 0, 1, 0, 0, 0), (40, .putfield 302, 3, 0, 12, 28), (43, .aload_n 0, 1, 0, 0, 0), (44, .invokevirtual 258, 3, 0, 125, 0), (47, .aload_n 0, 1, 0, 0, 0), (48, .getfield 249, 3, 0, 12, 31), (51, .ifCond .ne 165, 3, 0, 0, 0), (54, .aload_n 0, 1, 0, 0, 0), (55, .getfield 240, 3, 0, 12, 35), (58, .ifCond .eq 158, 3, 0, 0, 0), (61, .aload_n 0, 1, 0, 0, 0), (62, .ldc2_w 319, 3, 1818848875, 0, 0), (65, .invokevirtual 290, 3, 0, 127, 0), (68, .istore_n 1, 1, 0, 0, 0), (69, .iload_n 1, 1, 0, 0, 0), (70, .ifCond .ne 13, 3, 0, 0, 0), (73, .aload_n 0, 1, 0, 0, 0), (74, .ldc2_w 321, 3, 6447474, 0, 0), (77, .invokevirtual 290, 3, 0, 127, 0), (80, .ifCond .eq 12, 3, 0, 0, 0), (83, .aload_n 0, 1, 0, 0, 0), (84, .getfield 316, 3, 0, 12, 26), (87, .bipush 10, 2, 0, 0, 0), (89, .if_icmp .ne 8, 3, 0, 0, 0), (92, .aload_n 0, 1, 0, 0, 0), (93, .iconst 2, 1, 0, 0, 0), (94, .invokevirtual 255, 3, 0, 126, 0), (97, .aload_n 0, 1, 0, 0, 0), (98, .getfield 249, 3, 0, 12, 31), (101, .ifCond .le 5, 3, 0, 0, 0), (104, .iconst (-1), 1, 0, 0, 0), (105, .ireturn, 1, 0, 0, 0), (106, .aload_n 0, 1, 0, 0, 0), (107, .invokevirtual 258, 3, 0, 125, 0), (110, .aload_n 0, 1, 0, 0, 0), (111, .iconst 1, 1, 0, 0, 0), (112, .sipush 1000, 3, 0, 0, 0), (115, .invokevirtual 308, 3, 0, 129, 0), (118, .istore_n 2, 1, 0, 0, 0), (119, .aload_n 0, 1, 0, 0, 0), (120, .getfield 249, 3, 0, 12, 31), (123, .ifCond .ne 18, 3, 0, 0, 0), (126, .aload_n 0, 1, 0, 0, 0), (127, .ldc2_w 323, 3, 2003330414, 0, 0), (130, .invokevirtual 290, 3, 0, 127, 0), (133, .ifCond .ne 8, 3, 0, 0, 0), (136, .aload_n 0, 1, 0, 0, 0), (137, .iconst 2, 1, 0, 0, 0), (138, .invokevirtual 255, 3, 0, 126, 0), (141, .aload_n 0, 1, 0, 0, 0), (142, .getfield 249, 3, 0, 12, 31), (145, .ifCond .le 5, 3, 0, 0, 0), (148, .iconst (-1), 1, 0, 0, 0), (149, .ireturn, 1, 0, 0, 0), (150, .aload_n 0, 1, 0, 0, 0), (151, .invokevirtual 258, 3, 0, 125, 0), (154, .aload_n 0, 1, 0, 0, 0), (155, .getfield 71, 3, 0, 12, 24), (158, .aload_n 0, 1, 0, 0, 0), (159, .getfield 316, 3, 0, 12, 26), (162, .aload_n 0, 1, 0, 0, 0), (163, .getfield 252, 3, 0, 12, 27), (166, .iastore, 1, 0, 0, 0), (167, .aload_n 0, 1, 0, 0, 0), (168, .getfield 74, 3, 0, 12, 25), (171, .aload_n 0, 1, 0, 0, 0), (172, .getfield 316, 3, 0, 12, 26), (175, .iload_n 1, 1, 0, 0, 0), (176, .ifCond .eq 7, 3, 0, 0, 0), (179, .iload_n 2, 1, 0, 0, 0), (180, .goto 5, 3, 0, 0, 0), (183, .iload_n 2, 1, 0, 0, 0), (184, .ineg, 1, 0, 0, 0), (185, .iastore, 1, 0, 0, 0), (186, .aload_n 0, 1, 0, 0, 0), (187, .invokevirtual 325, 3, 0, 134, 0), (190, .aload_n 0, 1, 0, 0, 0), (191, .getfield 249, 3, 0, 12, 31), (194, .ifCond .le 5, 3, 0, 0, 0), (197, .iconst (-1), 1, 0, 0, 0), (198, .ireturn, 1, 0, 0, 0), (199, .aload_n 0, 1, 0, 0, 0), (200, .invokevirtual 258, 3, 0, 125, 0), (203, .aload_n 0, 1, 0, 0, 0), (204, .dup, 1, 0, 0, 0), (205, .getfield 316, 3, 0, 12, 26), (208, .iconst 1, 1, 0, 0, 0), (209, .iadd, 1, 0, 0, 0), (210, .putfield 316, 3, 0, 12, 26), (213, .goto (-166), 3, 0, 0, 0), (216, .aload_n 0, 1, 0, 0, 0), (217, .getfield 249, 3, 0, 12, 31), (220, .ifCond .le 5, 3, 0, 0, 0), (223, .iconst (-1), 1, 0, 0, 0), (224, .ireturn, 1, 0, 0, 0), (225, .aload_n 0, 1, 0, 0, 0), (226, .getfield 71, 3, 0, 12, 24), (229, .aload_n 0, 1, 0, 0, 0), (230, .getfield 316, 3, 0, 12, 26), (233, .aload_n 0, 1, 0, 0, 0), (234, .getfield 252, 3, 0, 12, 27), (237, .iastore, 1, 0, 0, 0), (238, .iconst 0, 1, 0, 0, 0), (239, .istore_n 1, 1, 0, 0, 0), (240, .iload_n 1, 1, 0, 0, 0), (241, .aload_n 0, 1, 0, 0, 0), (242, .getfield 252, 3, 0, 12, 27), (245, .if_icmp .ge 45, 3, 0, 0, 0), (248, .aload_n 0, 1, 0, 0, 0), (249, .getfield 47, 3, 0, 12, 15), (252, .iload_n 1, 1, 0, 0, 0), (253, .aload_n 0, 1, 0, 0, 0), (254, .getfield 62, 3, 0, 12, 21), (257, .iload_n 1, 1, 0, 0, 0), (258, .iaload, 1, 0, 0, 0), (259, .iastore, 1, 0, 0, 0), (260, .aload_n 0, 1, 0, 0, 0), (261, .getfield 50, 3, 0, 12, 16), (264, .iload_n 1, 1, 0, 0, 0), (265, .aload_n 0, 1, 0, 0, 0), (266, .getfield 65, 3, 0, 12, 22), (269, .iload_n 1, 1, 0, 0, 0), (270, .iaload, 1, 0, 0, 0), (271, .iastore, 1, 0, 0, 0), (272, .aload_n 0, 1, 0, 0, 0), (273, .getfield 53, 3, 0, 12, 17), (276, .iload_n 1, 1, 0, 0, 0), (277, .aload_n 0, 1, 0, 0, 0), (278, .getfield 68, 3, 0, 12, 23), (281, .iload_n 1, 1, 0, 0, 0), (282, .iaload, 1, 0, 0, 0), (283, .iastore, 1, 0, 0, 0), (284, .iinc 1 1, 3, 0, 0, 0), (287, .goto (-47), 3, 0, 0, 0), (290, .iconst 0, 1, 0, 0, 0), (291, .istore_n 1, 1, 0, 0, 0), (292, .iload_n 1, 1, 0, 0, 0), (293, .aload_n 0, 1, 0, 0, 0), (294, .getfield 316, 3, 0, 12, 26), (297, .if_icmp .ge 21, 3, 0, 0, 0), (300, .aload_n 0, 1, 0, 0, 0), (301, .getfield 59, 3, 0, 12, 19), (304, .iload_n 1, 1, 0, 0, 0), (305, .aload_n 0, 1, 0, 0, 0), (306, .getfield 74, 3, 0, 12, 25), (309, .iload_n 1, 1, 0, 0, 0), (310, .iaload, 1, 0, 0, 0), (311, .iastore, 1, 0, 0, 0), (312, .iinc 1 1, 3, 0, 0, 0), (315, .goto (-23), 3, 0, 0, 0), (318, .iconst 0, 1, 0, 0, 0), (319, .istore_n 1, 1, 0, 0, 0), (320, .iload_n 1, 1, 0, 0, 0), (321, .aload_n 0, 1, 0, 0, 0), (322, .getfield 316, 3, 0, 12, 26), (325, .if_icmp .gt 21, 3, 0, 0, 0), (328, .aload_n 0, 1, 0, 0, 0), (329, .getfield 56, 3, 0, 12, 18), (332, .iload_n 1, 1, 0, 0, 0), (333, .aload_n 0, 1, 0, 0, 0), (334, .getfield 71, 3, 0, 12, 24), (337, .iload_n 1, 1, 0, 0, 0), (338, .iaload, 1, 0, 0, 0), (339, .iastore, 1, 0, 0, 0), (340, .iinc 1 1, 3, 0, 0, 0), (343, .goto (-23), 3, 0, 0, 0), (346, .aload_n 0, 1, 0, 0, 0), (347, .aload_n 0, 1, 0, 0, 0), (348, .getfield 316, 3, 0, 12, 26), (351, .putfield 328, 3, 0, 12, 20), (354, .aload_n 0, 1, 0, 0, 0), (355, .getfield 328, 3, 0, 12, 20), (358, .ireturn, 1, 0, 0, 0)] -- X12_rules
def cd138 : List AE := [(0, .iload_n 1, 1, 0, 0, 0), (1, .ifCond .ne 10, 3, 0, 0, 0), (4, .aload_n 0, 1, 0, 0, 0), (5, .getfield 249, 3, 0, 12, 31), (8, .goto 16, 3, 0, 0, 0), (11, .iload_n 1, 1, 0, 0, 0), (12, .iconst 1, 1, 0, 0, 0), (13, .if_icmp .ne 10, 3, 0, 0, 0), (16, .aload_n 0, 1, 0, 0, 0), (17, .getfield 80, 3, 0, 12, 32), (20, .goto 4, 3, 0, 0, 0), (23, .iconst (-1), 1, 0, 0, 0), (24, .ireturn, 1, 0, 0, 0)] -- X12_fault
def cd139 : List AE := [(0, .iconst 0, 1, 0, 0, 0), (1, .istore 6, 2, 0, 0, 0), (3, .aload_n 0, 1, 0, 0, 0), (4, .getfield 56, 3, 0, 12, 18), (7, .iload_n 1, 1, 0, 0, 0), (8, .iaload, 1, 0, 0, 0), (9, .istore 7, 2, 0, 0, 0), (11, .iload 7, 2, 0, 0, 0), (13, .aload_n 0, 1, 0, 0, 0), (14, .getfield 56, 3, 0, 12, 18), (17, .iload_n 1, 1, 0, 0, 0), (18, .iconst 1, 1, 0, 0, 0), (19, .iadd, 1, 0, 0, 0), (20, .iaload, 1, 0, 0, 0), (21, .if_icmp .ge 320, 3, 0, 0, 0), (24, .aload_n 0, 1, 0, 0, 0), (25, .getfield 47, 3, 0, 12, 15), (28, .iload 7, 2, 0, 0, 0), (30, .iaload, 1, 0, 0, 0), (31, .istore 8, 2, 0, 0, 0), (33, .iload 8, 2, 0, 0, 0), (35, .iconst 5, 1, 0, 0, 0), (36, .if_icmp .ne 32, 3, 0, 0, 0), (39, .aload_n 0, 1, 0, 0, 0), (40, .getfield 87, 3, 0, 12, 42), (43, .iload 6, 2, 0, 0, 0), (45, .iconst 1, 1, 0, 0, 0), (46, .isub, 1, 0, 0, 0), (47, .aload_n 0, 1, 0, 0, 0), (48, .getfield 87, 3, 0, 12, 42), (51, .iload 6, 2, 0, 0, 0), (53, .iconst 1, 1, 0, 0, 0), (54, .isub, 1, 0, 0, 0), (55, .baload, 1, 0, 0, 0), (56, .ifCond .ne 7, 3, 0, 0, 0), (59, .iconst 1, 1, 0, 0, 0), (60, .goto 4, 3, 0, 0, 0), (63, .iconst 0, 1, 0, 0, 0), (64, .bastore, 1, 0, 0, 0), (65, .goto 270, 3, 0, 0, 0), (68, .iload 8, 2, 0, 0, 0), (70, .bipush 6, 2, 0, 0, 0), (72, .if_icmp .eq 10, 3, 0, 0, 0), (75, .iload 8, 2, 0, 0, 0), (77, .bipush 7, 2, 0, 0, 0), (79, .if_icmp .ne 82, 3, 0, 0, 0), (82, .iinc 6 (-1), 3, 0, 0, 0), (85, .aload_n 0, 1, 0, 0, 0), (86, .getfield 87, 3, 0, 12, 42), (89, .iload 6, 2, 0, 0, 0), (91, .iconst 1, 1, 0, 0, 0), (92, .isub, 1, 0, 0, 0), (93, .iload 8, 2, 0, 0, 0), (95, .bipush 6, 2, 0, 0, 0), (97, .if_icmp .ne 33, 3, 0, 0, 0), (100, .aload_n 0, 1, 0, 0, 0), (101, .getfield 87, 3, 0, 12, 42), (104, .iload 6, 2, 0, 0, 0), (106, .iconst 1, 1, 0, 0, 0), (107, .isub, 1, 0, 0, 0), (108, .baload, 1, 0, 0, 0), (109, .ifCond .ne 13, 3, 0, 0, 0), (112, .aload_n 0, 1, 0, 0, 0), (113, .getfield 87, 3, 0, 12, 42), (116, .iload 6, 2, 0, 0, 0), (118, .baload, 1, 0, 0, 0), (119, .ifCond .eq 7, 3, 0, 0, 0), (122, .iconst 1, 1, 0, 0, 0), (123, .goto 34, 3, 0, 0, 0), (126, .iconst 0, 1, 0, 0, 0), (127, .goto 30, 3, 0, 0, 0), (130, .aload_n 0, 1, 0, 0, 0), (131, .getfield 87, 3, 0, 12, 42), (134, .iload 6, 2, 0, 0, 0), (136, .iconst 1, 1, 0, 0, 0), (137, .isub, 1, 0, 0, 0), (138, .baload, 1, 0, 0, 0), (139, .ifCond .eq 17, 3, 0, 0, 0), (142, .aload_n 0, 1, 0, 0, 0), (143, .getfield 87, 3, 0, 12, 42), (146, .iload 6, 2, 0, 0, 0), (148, .baload, 1, 0, 0, 0), (149, .ifCond .eq 7, 3, 0, 0, 0), (152, .iconst 1, 1, 0, 0, 0), (153, .goto 4, 3, 0, 0, 0), (156, .iconst 0, 1, 0, 0, 0), (157, .bastore, 1, 0, 0, 0), (158, .goto 177, 3, 0, 0, 0), (161, .aload_n 0, 1, 0, 0, 0), (162, .iload_n 2, 1, 0, 0, 0), (163, .aload_n 0, 1, 0, 0, 0), (164, .getfield 50, 3, 0, 12, 16), (167, .iload 7, 2, 0, 0, 0), (169, .iaload, 1, 0, 0, 0), (170, .iload 4, 2, 0, 0, 0), (172, .iload 5, 2, 0, 0, 0), (174, .invokevirtual 210, 3, 0, 115, 0), (177, .istore 9, 2, 0, 0, 0), (179, .aload_n 0, 1, 0, 0, 0), (180, .iload_n 3, 1, 0, 0, 0), (181, .aload_n 0, 1, 0, 0, 0), (182, .getfield 50, 3, 0, 12, 16), (185, .iload 7, 2, 0, 0, 0), (187, .iaload, 1, 0, 0, 0), (188, .iload 4, 2, 0, 0, 0), (190, .iload 5, 2, 0, 0, 0), (192, .invokevirtual 210, 3, 0, 115, 0), (195, .istore 10, 2, 0, 0, 0), (197, .iload 9, 2, 0, 0, 0), (199, .iload 10, 2, 0, 0, 0), (201, .if_icmp .ge 11, 3, 0, 0, 0), (204, .iload 10, 2, 0, 0, 0), (206, .iload 9, 2, 0, 0, 0), (208, .isub, 1, 0, 0, 0), (209, .goto 8, 3, 0, 0, 0), (212, .iload 9, 2, 0, 0, 0), (214, .iload 10, 2, 0, 0, 0), (216, .isub, 1, 0, 0, 0), (217, .istore 11, 2, 0, 0, 0), (219, .aload_n 0, 1, 0, 0, 0), (220, .getfield 87, 3, 0, 12, 42), (223, .iload 6, 2, 0, 0, 0), (225, .iload 8, 2, 0, 0, 0), (227, .iconst 1, 1, 0, 0, 0), (228, .if_icmp .ne 23, 3, 0, 0, 0), (231, .iload 9, 2, 0, 0, 0), (233, .ifCond .lt 14, 3, 0, 0, 0), (236, .iload 9, 2, 0, 0, 0), (238, .iload 10, 2, 0, 0, 0), (240, .if_icmp .ne 7, 3, 0, 0, 0), (243, .iconst 1, 1, 0, 0, 0), (244, .goto 87, 3, 0, 0, 0), (247, .iconst 0, 1, 0, 0, 0), (248, .goto 83, 3, 0, 0, 0), (251, .iload 8, 2, 0, 0, 0), (253, .iconst 2, 1, 0, 0, 0), (254, .if_icmp .ne 33, 3, 0, 0, 0), (257, .iload 9, 2, 0, 0, 0), (259, .ifCond .lt 24, 3, 0, 0, 0), (262, .iload 10, 2, 0, 0, 0), (264, .ifCond .lt 19, 3, 0, 0, 0), (267, .iload 11, 2, 0, 0, 0), (269, .aload_n 0, 1, 0, 0, 0), (270, .getfield 53, 3, 0, 12, 17), (273, .iload 7, 2, 0, 0, 0), (275, .iaload, 1, 0, 0, 0), (276, .if_icmp .gt 7, 3, 0, 0, 0), (279, .iconst 1, 1, 0, 0, 0), (280, .goto 51, 3, 0, 0, 0), (283, .iconst 0, 1, 0, 0, 0), (284, .goto 47, 3, 0, 0, 0), (287, .iload 8, 2, 0, 0, 0), (289, .iconst 3, 1, 0, 0, 0), (290, .if_icmp .ne 21, 3, 0, 0, 0), (293, .iload 9, 2, 0, 0, 0), (295, .ifCond .lt 8, 3, 0, 0, 0), (298, .iload 10, 2, 0, 0, 0), (300, .ifCond .ge 7, 3, 0, 0, 0), (303, .iconst 1, 1, 0, 0, 0), (304, .goto 27, 3, 0, 0, 0), (307, .iconst 0, 1, 0, 0, 0), (308, .goto 23, 3, 0, 0, 0), (311, .aload_n 0, 1, 0, 0, 0), (312, .getfield 19, 3, 0, 12, 6), (315, .iload_n 2, 1, 0, 0, 0), (316, .iaload, 1, 0, 0, 0), (317, .aload_n 0, 1, 0, 0, 0), (318, .getfield 19, 3, 0, 12, 6), (321, .iload_n 3, 1, 0, 0, 0), (322, .iaload, 1, 0, 0, 0), (323, .if_icmp .ne 7, 3, 0, 0, 0), (326, .iconst 1, 1, 0, 0, 0), (327, .goto 4, 3, 0, 0, 0), (330, .iconst 0, 1, 0, 0, 0), (331, .bastore, 1, 0, 0, 0), (332, .iinc 6 1, 3, 0, 0, 0), (335, .iinc 7 1, 3, 0, 0, 0), (338, .goto (-327), 3, 0, 0, 0), (341, .aload_n 0, 1, 0, 0, 0), (342, .getfield 87, 3, 0, 12, 42), (345, .iconst 0, 1, 0, 0, 0), (346, .baload, 1, 0, 0, 0), (347, .ireturn, 1, 0, 0, 0)] -- X12_holds
def cd140 : List AE := [(0, .iconst 0, 1, 0, 0, 0), (1, .istore 5, 2, 0, 0, 0), (3, .iconst 0, 1, 0, 0, 0), (4, .istore 6, 2, 0, 0, 0), (6, .iload 6, 2, 0, 0, 0), (8, .aload_n 0, 1, 0, 0, 0), (9, .getfield 328, 3, 0, 12, 20), (12, .if_icmp .ge 39, 3, 0, 0, 0), (15, .iload 5, 2, 0, 0, 0), (17, .aload_n 0, 1, 0, 0, 0), (18, .iload 6, 2, 0, 0, 0), (20, .iload_n 1, 1, 0, 0, 0), (21, .iload_n 2, 1, 0, 0, 0), (22, .iload_n 3, 1, 0, 0, 0), (23, .iload 4, 2, 0, 0, 0), (25, .invokevirtual 331, 3, 0, 139, 0), (28, .ifCond .eq 13, 3, 0, 0, 0), (31, .aload_n 0, 1, 0, 0, 0), (32, .getfield 59, 3, 0, 12, 19), (35, .iload 6, 2, 0, 0, 0), (37, .iaload, 1, 0, 0, 0), (38, .goto 4, 3, 0, 0, 0), (41, .iconst 0, 1, 0, 0, 0), (42, .iadd, 1, 0, 0, 0), (43, .istore 5, 2, 0, 0, 0), (45, .iinc 6 1, 3, 0, 0, 0), (48, .goto (-42), 3, 0, 0, 0), (51, .iload 5, 2, 0, 0, 0), (53, .ireturn, 1, 0, 0, 0)] -- X12_scoreOf
def cd141 : List AE := [(0, .iload_n 1, 1, 0, 0, 0), (1, .iload_n 2, 1, 0, 0, 0), (2, .if_icmp .eq 35, 3, 0, 0, 0), (5, .aload_n 0, 1, 0, 0, 0), (6, .iload_n 1, 1, 0, 0, 0), (7, .iload 4, 2, 0, 0, 0), (9, .invokevirtual 335, 3, 0, 110, 0), (12, .ifCond .eq 25, 3, 0, 0, 0), (15, .aload_n 0, 1, 0, 0, 0), (16, .iload_n 2, 1, 0, 0, 0), (17, .iload 4, 2, 0, 0, 0), (19, .invokevirtual 335, 3, 0, 110, 0), (22, .ifCond .eq 15, 3, 0, 0, 0), (25, .aload_n 0, 1, 0, 0, 0), (26, .iload_n 1, 1, 0, 0, 0), (27, .iload_n 2, 1, 0, 0, 0), (28, .iload_n 3, 1, 0, 0, 0), (29, .iload 4, 2, 0, 0, 0), (31, .invokevirtual 339, 3, 0, 140, 0), (34, .goto 4, 3, 0, 0, 0), (37, .iconst 0, 1, 0, 0, 0), (38, .ireturn, 1, 0, 0, 0)] -- X12_score
def cd142 : List AE := [(0, .iload_n 0, 1, 0, 0, 0), (1, .iload_n 2, 1, 0, 0, 0), (2, .if_icmp .gt 16, 3, 0, 0, 0), (5, .iload_n 1, 1, 0, 0, 0), (6, .ifCond .lt 8, 3, 0, 0, 0), (9, .iload_n 1, 1, 0, 0, 0), (10, .iload_n 2, 1, 0, 0, 0), (11, .if_icmp .le 7, 3, 0, 0, 0), (14, .iconst 1, 1, 0, 0, 0), (15, .goto 4, 3, 0, 0, 0), (18, .iconst 0, 1, 0, 0, 0), (19, .ireturn, 1, 0, 0, 0)] -- X12_isKnown
def cd143 : List AE := [(0, .aload_n 0, 1, 0, 0, 0), (1, .getfield 342, 3, 0, 12, 43), (4, .bipush 20, 2, 0, 0, 0), (6, .if_icmp .eq 24, 3, 0, 0, 0), (9, .aload_n 0, 1, 0, 0, 0), (10, .iload_n 1, 1, 0, 0, 0), (11, .invokevirtual 191, 3, 0, 109, 0), (14, .ifCond .eq 16, 3, 0, 0, 0), (17, .aload_n 0, 1, 0, 0, 0), (18, .iload_n 2, 1, 0, 0, 0), (19, .invokevirtual 191, 3, 0, 109, 0), (22, .ifCond .eq 8, 3, 0, 0, 0), (25, .iload_n 1, 1, 0, 0, 0), (26, .iload_n 2, 1, 0, 0, 0), (27, .if_icmp .ne 5, 3, 0, 0, 0), (30, .iconst (-1), 1, 0, 0, 0), (31, .ireturn, 1, 0, 0, 0), (32, .aload_n 0, 1, 0, 0, 0), (33, .getfield 90, 3, 0, 12, 45), (36, .aload_n 0, 1, 0, 0, 0), (37, .getfield 342, 3, 0, 12, 43), (40, .iload_n 1, 1, 0, 0, 0), (41, .iastore, 1, 0, 0, 0), (42, .aload_n 0, 1, 0, 0, 0), (43, .getfield 93, 3, 0, 12, 46), (46, .aload_n 0, 1, 0, 0, 0), (47, .getfield 342, 3, 0, 12, 43), (50, .iload_n 2, 1, 0, 0, 0), (51, .iastore, 1, 0, 0, 0), (52, .aload_n 0, 1, 0, 0, 0), (53, .getfield 102, 3, 0, 12, 49), (56, .aload_n 0, 1, 0, 0, 0), (57, .getfield 342, 3, 0, 12, 43), (60, .iload_n 3, 1, 0, 0, 0), (61, .bastore, 1, 0, 0, 0), (62, .aload_n 0, 1, 0, 0, 0), (63, .getfield 96, 3, 0, 12, 47), (66, .aload_n 0, 1, 0, 0, 0), (67, .getfield 342, 3, 0, 12, 43), (70, .aload_n 0, 1, 0, 0, 0), (71, .getfield 188, 3, 0, 12, 0), (74, .iastore, 1, 0, 0, 0), (75, .aload_n 0, 1, 0, 0, 0), (76, .getfield 99, 3, 0, 12, 48), (79, .aload_n 0, 1, 0, 0, 0), (80, .getfield 342, 3, 0, 12, 43), (83, .iconst (-1), 1, 0, 0, 0), (84, .iastore, 1, 0, 0, 0), (85, .aload_n 0, 1, 0, 0, 0), (86, .dup, 1, 0, 0, 0), (87, .getfield 342, 3, 0, 12, 43), (90, .iconst 1, 1, 0, 0, 0), (91, .iadd, 1, 0, 0, 0), (92, .putfield 342, 3, 0, 12, 43), (95, .aload_n 0, 1, 0, 0, 0), (96, .getfield 342, 3, 0, 12, 43), (99, .iconst 1, 1, 0, 0, 0), (100, .isub, 1, 0, 0, 0), (101, .ireturn, 1, 0, 0, 0)] -- X12_hand
def cd144 : List AE := [(0, .iload_n 1, 1, 0, 0, 0), (1, .ifCond .lt 20, 3, 0, 0, 0), (4, .iload_n 1, 1, 0, 0, 0), (5, .aload_n 0, 1, 0, 0, 0), (6, .getfield 342, 3, 0, 12, 43), (9, .if_icmp .ge 12, 3, 0, 0, 0), (12, .aload_n 0, 1, 0, 0, 0), (13, .getfield 99, 3, 0, 12, 48), (16, .iload_n 1, 1, 0, 0, 0), (17, .iaload, 1, 0, 0, 0), (18, .ifCond .lt 5, 3, 0, 0, 0), (21, .iconst 0, 1, 0, 0, 0), (22, .ireturn, 1, 0, 0, 0), (23, .aload_n 0, 1, 0, 0, 0), (24, .getfield 99, 3, 0, 12, 48), (27, .iload_n 1, 1, 0, 0, 0), (28, .aload_n 0, 1, 0, 0, 0), (29, .getfield 188, 3, 0, 12, 0), (32, .iastore, 1, 0, 0, 0), (33, .iconst 1, 1, 0, 0, 0), (34, .ireturn, 1, 0, 0, 0)] -- X12_unhand
def cd145 : List AE := [(0, .aload_n 0, 1, 0, 0, 0), (1, .getfield 345, 3, 0, 12, 44), (4, .bipush 20, 2, 0, 0, 0), (6, .if_icmp .eq 25, 3, 0, 0, 0), (9, .aload_n 0, 1, 0, 0, 0), (10, .iload_n 1, 1, 0, 0, 0), (11, .invokevirtual 191, 3, 0, 109, 0), (14, .ifCond .eq 17, 3, 0, 0, 0), (17, .iload_n 2, 1, 0, 0, 0), (18, .invokestatic 182, 3, 0, 104, 0), (21, .ifCond .eq 10, 3, 0, 0, 0), (24, .iload_n 3, 1, 0, 0, 0), (25, .invokestatic 198, 3, 0, 111, 0), (28, .ifCond .ne 5, 3, 0, 0, 0), (31, .iconst (-1), 1, 0, 0, 0), (32, .ireturn, 1, 0, 0, 0), (33, .aload_n 0, 1, 0, 0, 0), (34, .getfield 105, 3, 0, 12, 50), (37, .aload_n 0, 1, 0, 0, 0), (38, .getfield 345, 3, 0, 12, 44), (41, .iload_n 1, 1, 0, 0, 0), (42, .iastore, 1, 0, 0, 0), (43, .aload_n 0, 1, 0, 0, 0), (44, .getfield 108, 3, 0, 12, 51), (47, .aload_n 0, 1, 0, 0, 0), (48, .getfield 345, 3, 0, 12, 44), (51, .iload_n 2, 1, 0, 0, 0), (52, .iastore, 1, 0, 0, 0), (53, .aload_n 0, 1, 0, 0, 0), (54, .getfield 111, 3, 0, 12, 52), (57, .aload_n 0, 1, 0, 0, 0), (58, .getfield 345, 3, 0, 12, 44), (61, .iload_n 3, 1, 0, 0, 0), (62, .iastore, 1, 0, 0, 0), (63, .aload_n 0, 1, 0, 0, 0), (64, .getfield 114, 3, 0, 12, 53), (67, .aload_n 0, 1, 0, 0, 0), (68, .getfield 345, 3, 0, 12, 44), (71, .aload_n 0, 1, 0, 0, 0), (72, .getfield 188, 3, 0, 12, 0), (75, .iastore, 1, 0, 0, 0), (76, .aload_n 0, 1, 0, 0, 0), (77, .getfield 117, 3, 0, 12, 54), (80, .aload_n 0, 1, 0, 0, 0), (81, .getfield 345, 3, 0, 12, 44), (84, .iconst (-1), 1, 0, 0, 0), (85, .iastore, 1, 0, 0, 0), (86, .aload_n 0, 1, 0, 0, 0), (87, .dup, 1, 0, 0, 0), (88, .getfield 345, 3, 0, 12, 44), (91, .iconst 1, 1, 0, 0, 0), (92, .iadd, 1, 0, 0, 0), (93, .putfield 345, 3, 0, 12, 44), (96, .aload_n 0, 1, 0, 0, 0), (97, .getfield 345, 3, 0, 12, 44), (100, .iconst 1, 1, 0, 0, 0), (101, .isub, 1, 0, 0, 0), (102, .ireturn, 1, 0, 0, 0)] -- X12_fix
def cd146 : List AE := [(0, .iload_n 1, 1, 0, 0, 0), (1, .ifCond .lt 20, 3, 0, 0, 0), (4, .iload_n 1, 1, 0, 0, 0), (5, .aload_n 0, 1, 0, 0, 0), (6, .getfield 345, 3, 0, 12, 44), (9, .if_icmp .ge 12, 3, 0, 0, 0), (12, .aload_n 0, 1, 0, 0, 0), (13, .getfield 117, 3, 0, 12, 54), (16, .iload_n 1, 1, 0, 0, 0), (17, .iaload, 1, 0, 0, 0), (18, .ifCond .lt 5, 3, 0, 0, 0), (21, .iconst 0, 1, 0, 0, 0), (22, .ireturn, 1, 0, 0, 0), (23, .aload_n 0, 1, 0, 0, 0), (24, .getfield 117, 3, 0, 12, 54), (27, .iload_n 1, 1, 0, 0, 0), (28, .aload_n 0, 1, 0, 0, 0), (29, .getfield 188, 3, 0, 12, 0), (32, .iastore, 1, 0, 0, 0), (33, .iconst 1, 1, 0, 0, 0), (34, .ireturn, 1, 0, 0, 0)] -- X12_unfix
def cd147 : List AE := [(0, .aload_n 0, 1, 0, 0, 0), (1, .iconst 0, 1, 0, 0, 0), (2, .putfield 348, 3, 0, 12, 55), (5, .iconst 0, 1, 0, 0, 0), (6, .istore_n 3, 1, 0, 0, 0), (7, .iload_n 3, 1, 0, 0, 0), (8, .bipush 10, 2, 0, 0, 0), (10, .if_icmp .ge 48, 3, 0, 0, 0), (13, .aload_n 0, 1, 0, 0, 0), (14, .getfield 123, 3, 0, 12, 60), (17, .iload_n 3, 1, 0, 0, 0), (18, .iconst (-1), 1, 0, 0, 0), (19, .iastore, 1, 0, 0, 0), (20, .aload_n 0, 1, 0, 0, 0), (21, .iload_n 3, 1, 0, 0, 0), (22, .iload_n 2, 1, 0, 0, 0), (23, .invokevirtual 335, 3, 0, 110, 0), (26, .ifCond .ne 6, 3, 0, 0, 0), (29, .goto 23, 3, 0, 0, 0), (32, .aload_n 0, 1, 0, 0, 0), (33, .getfield 120, 3, 0, 12, 59), (36, .aload_n 0, 1, 0, 0, 0), (37, .getfield 348, 3, 0, 12, 55), (40, .iload_n 3, 1, 0, 0, 0), (41, .iastore, 1, 0, 0, 0), (42, .aload_n 0, 1, 0, 0, 0), (43, .dup, 1, 0, 0, 0), (44, .getfield 348, 3, 0, 12, 55), (47, .iconst 1, 1, 0, 0, 0), (48, .iadd, 1, 0, 0, 0), (49, .putfield 348, 3, 0, 12, 55), (52, .iinc 3 1, 3, 0, 0, 0), (55, .goto (-48), 3, 0, 0, 0), (58, .iconst 0, 1, 0, 0, 0), (59, .istore_n 3, 1, 0, 0, 0), (60, .iload_n 3, 1, 0, 0, 0), (61, .aload_n 0, 1, 0, 0, 0), (62, .getfield 348, 3, 0, 12, 55), (65, .if_icmp .ge 209, 3, 0, 0, 0), (68, .iconst 0, 1, 0, 0, 0), (69, .istore 4, 2, 0, 0, 0), (71, .iload 4, 2, 0, 0, 0), (73, .iload_n 3, 1, 0, 0, 0), (74, .if_icmp .ge 194, 3, 0, 0, 0), (77, .aload_n 0, 1, 0, 0, 0), (78, .getfield 138, 3, 0, 12, 65), (81, .bipush 10, 2, 0, 0, 0), (83, .iload_n 3, 1, 0, 0, 0), (84, .imul, 1, 0, 0, 0), (85, .iload 4, 2, 0, 0, 0), (87, .iadd, 1, 0, 0, 0), (88, .aload_n 0, 1, 0, 0, 0), (89, .aload_n 0, 1, 0, 0, 0), (90, .getfield 120, 3, 0, 12, 59), (93, .iload 4, 2, 0, 0, 0), (95, .iaload, 1, 0, 0, 0), (96, .aload_n 0, 1, 0, 0, 0), (97, .getfield 120, 3, 0, 12, 59), (100, .iload_n 3, 1, 0, 0, 0), (101, .iaload, 1, 0, 0, 0), (102, .iload_n 1, 1, 0, 0, 0), (103, .iload_n 2, 1, 0, 0, 0), (104, .invokevirtual 339, 3, 0, 140, 0), (107, .iastore, 1, 0, 0, 0), (108, .iconst 0, 1, 0, 0, 0), (109, .istore 5, 2, 0, 0, 0), (111, .iconst 0, 1, 0, 0, 0), (112, .istore 6, 2, 0, 0, 0), (114, .iload 6, 2, 0, 0, 0), (116, .aload_n 0, 1, 0, 0, 0), (117, .getfield 342, 3, 0, 12, 43), (120, .if_icmp .ge 128, 3, 0, 0, 0), (123, .aload_n 0, 1, 0, 0, 0), (124, .getfield 90, 3, 0, 12, 45), (127, .iload 6, 2, 0, 0, 0), (129, .iaload, 1, 0, 0, 0), (130, .aload_n 0, 1, 0, 0, 0), (131, .getfield 120, 3, 0, 12, 59), (134, .iload_n 3, 1, 0, 0, 0), (135, .iaload, 1, 0, 0, 0), (136, .if_icmp .ne 20, 3, 0, 0, 0), (139, .aload_n 0, 1, 0, 0, 0), (140, .getfield 93, 3, 0, 12, 46), (143, .iload 6, 2, 0, 0, 0), (145, .iaload, 1, 0, 0, 0), (146, .aload_n 0, 1, 0, 0, 0), (147, .getfield 120, 3, 0, 12, 59), (150, .iload 4, 2, 0, 0, 0), (152, .iaload, 1, 0, 0, 0), (153, .if_icmp .eq 36, 3, 0, 0, 0), (156, .aload_n 0, 1, 0, 0, 0), (157, .getfield 90, 3, 0, 12, 45), (160, .iload 6, 2, 0, 0, 0), (162, .iaload, 1, 0, 0, 0), (163, .aload_n 0, 1, 0, 0, 0), (164, .getfield 120, 3, 0, 12, 59), (167, .iload 4, 2, 0, 0, 0), (169, .iaload, 1, 0, 0, 0), (170, .if_icmp .ne 23, 3, 0, 0, 0), (173, .aload_n 0, 1, 0, 0, 0), (174, .getfield 93, 3, 0, 12, 46), (177, .iload 6, 2, 0, 0, 0), (179, .iaload, 1, 0, 0, 0), (180, .aload_n 0, 1, 0, 0, 0), (181, .getfield 120, 3, 0, 12, 59), (184, .iload_n 3, 1, 0, 0, 0), (185, .iaload, 1, 0, 0, 0), (186, .if_icmp .ne 7, 3, 0, 0, 0), (189, .iconst 1, 1, 0, 0, 0), (190, .goto 4, 3, 0, 0, 0), (193, .iconst 0, 1, 0, 0, 0), (194, .istore 7, 2, 0, 0, 0), (196, .iload 7, 2, 0, 0, 0), (198, .ifCond .eq 44, 3, 0, 0, 0), (201, .aload_n 0, 1, 0, 0, 0), (202, .getfield 96, 3, 0, 12, 47), (205, .iload 6, 2, 0, 0, 0), (207, .iaload, 1, 0, 0, 0), (208, .aload_n 0, 1, 0, 0, 0), (209, .getfield 99, 3, 0, 12, 48), (212, .iload 6, 2, 0, 0, 0), (214, .iaload, 1, 0, 0, 0), (215, .iload_n 2, 1, 0, 0, 0), (216, .invokestatic 351, 3, 0, 142, 0), (219, .ifCond .eq 23, 3, 0, 0, 0), (222, .iload 5, 2, 0, 0, 0), (224, .aload_n 0, 1, 0, 0, 0), (225, .getfield 102, 3, 0, 12, 49), (228, .iload 6, 2, 0, 0, 0), (230, .baload, 1, 0, 0, 0), (231, .ifCond .eq 7, 3, 0, 0, 0), (234, .iconst 1, 1, 0, 0, 0), (235, .goto 4, 3, 0, 0, 0), (238, .iconst 2, 1, 0, 0, 0), (239, .ior, 1, 0, 0, 0), (240, .istore 5, 2, 0, 0, 0), (242, .iinc 6 1, 3, 0, 0, 0), (245, .goto (-131), 3, 0, 0, 0), (248, .aload_n 0, 1, 0, 0, 0), (249, .getfield 141, 3, 0, 12, 66), (252, .bipush 10, 2, 0, 0, 0), (254, .iload_n 3, 1, 0, 0, 0), (255, .imul, 1, 0, 0, 0), (256, .iload 4, 2, 0, 0, 0), (258, .iadd, 1, 0, 0, 0), (259, .iload 5, 2, 0, 0, 0), (261, .iastore, 1, 0, 0, 0), (262, .iinc 4 1, 3, 0, 0, 0), (265, .goto (-194), 3, 0, 0, 0), (268, .iinc 3 1, 3, 0, 0, 0), (271, .goto (-211), 3, 0, 0, 0), (274, .aload_n 0, 1, 0, 0, 0), (275, .aload_n 0, 1, 0, 0, 0), (276, .getfield 348, 3, 0, 12, 55), (279, .ifCond .ne 7, 3, 0, 0, 0), (282, .iconst 1, 1, 0, 0, 0), (283, .goto 4, 3, 0, 0, 0), (286, .iconst 0, 1, 0, 0, 0), (287, .putfield 355, 3, 0, 12, 58), (290, .aload_n 0, 1, 0, 0, 0), (291, .iconst 0, 1, 0, 0, 0), (292, .putfield 359, 3, 0, 12, 56), (295, .aload_n 0, 1, 0, 0, 0), (296, .iconst 0, 1, 0, 0, 0), (297, .putfield 362, 3, 0, 12, 57), (300, .iconst 0, 1, 0, 0, 0), (301, .istore_n 3, 1, 0, 0, 0), (302, .aload_n 0, 1, 0, 0, 0), (303, .getfield 129, 3, 0, 12, 62), (306, .iconst 0, 1, 0, 0, 0), (307, .iconst 0, 1, 0, 0, 0), (308, .iastore, 1, 0, 0, 0), (309, .iload_n 3, 1, 0, 0, 0), (310, .ifCond .lt 127, 3, 0, 0, 0), (313, .aload_n 0, 1, 0, 0, 0), (314, .getfield 348, 3, 0, 12, 55), (317, .ifCond .le 120, 3, 0, 0, 0), (320, .aload_n 0, 1, 0, 0, 0), (321, .getfield 129, 3, 0, 12, 62), (324, .iload_n 3, 1, 0, 0, 0), (325, .iaload, 1, 0, 0, 0), (326, .istore 4, 2, 0, 0, 0), (328, .iload 4, 2, 0, 0, 0), (330, .ifCond .ge 9, 3, 0, 0, 0), (333, .iinc 3 (-1), 3, 0, 0, 0), (336, .goto (-27), 3, 0, 0, 0), (339, .aload_n 0, 1, 0, 0, 0), (340, .getfield 129, 3, 0, 12, 62), (343, .iload_n 3, 1, 0, 0, 0), (344, .dup2, 1, 0, 0, 0), (345, .iaload, 1, 0, 0, 0), (346, .iconst 1, 1, 0, 0, 0), (347, .isub, 1, 0, 0, 0), (348, .iastore, 1, 0, 0, 0), (349, .aload_n 0, 1, 0, 0, 0), (350, .iload_n 3, 1, 0, 0, 0), (351, .iload 4, 2, 0, 0, 0), (353, .invokevirtual 365, 3, 0, 148, 0), (356, .ifCond .ne 6, 3, 0, 0, 0), (359, .goto (-50), 3, 0, 0, 0), (362, .aload_n 0, 1, 0, 0, 0), (363, .getfield 126, 3, 0, 12, 61), (366, .iload_n 3, 1, 0, 0, 0), (367, .iload 4, 2, 0, 0, 0), (369, .iastore, 1, 0, 0, 0), (370, .aload_n 0, 1, 0, 0, 0), (371, .getfield 132, 3, 0, 12, 63), (374, .iload_n 3, 1, 0, 0, 0), (375, .iconst 1, 1, 0, 0, 0), (376, .iadd, 1, 0, 0, 0), (377, .iload 4, 2, 0, 0, 0), (379, .aload_n 0, 1, 0, 0, 0), (380, .getfield 132, 3, 0, 12, 63), (383, .iload_n 3, 1, 0, 0, 0), (384, .iaload, 1, 0, 0, 0), (385, .if_icmp .ne 10, 3, 0, 0, 0), (388, .iload 4, 2, 0, 0, 0), (390, .iconst 1, 1, 0, 0, 0), (391, .iadd, 1, 0, 0, 0), (392, .goto 9, 3, 0, 0, 0), (395, .aload_n 0, 1, 0, 0, 0), (396, .getfield 132, 3, 0, 12, 63), (399, .iload_n 3, 1, 0, 0, 0), (400, .iaload, 1, 0, 0, 0), (401, .iastore, 1, 0, 0, 0), (402, .iload_n 3, 1, 0, 0, 0), (403, .iconst 1, 1, 0, 0, 0), (404, .iadd, 1, 0, 0, 0), (405, .aload_n 0, 1, 0, 0, 0), (406, .getfield 348, 3, 0, 12, 55), (409, .if_icmp .ge 21, 3, 0, 0, 0), (412, .iinc 3 1, 3, 0, 0, 0), (415, .aload_n 0, 1, 0, 0, 0), (416, .getfield 129, 3, 0, 12, 62), (419, .iload_n 3, 1, 0, 0, 0), (420, .aload_n 0, 1, 0, 0, 0), (421, .getfield 132, 3, 0, 12, 63), (424, .iload_n 3, 1, 0, 0, 0), (425, .iaload, 1, 0, 0, 0), (426, .iastore, 1, 0, 0, 0), (427, .goto 7, 3, 0, 0, 0), (430, .aload_n 0, 1, 0, 0, 0), (431, .invokevirtual 368, 3, 0, 149, 0), (434, .goto (-125), 3, 0, 0, 0), (437, .return_, 1, 0, 0, 0)] -- X12_part
def cd148 : List AE := [(0, .aload_n 0, 1, 0, 0, 0), (1, .getfield 135, 3, 0, 12, 64), (4, .iload_n 1, 1, 0, 0, 0), (5, .iaload, 1, 0, 0, 0), (6, .istore_n 3, 1, 0, 0, 0), (7, .iconst 0, 1, 0, 0, 0), (8, .istore 4, 2, 0, 0, 0), (10, .iload 4, 2, 0, 0, 0), (12, .iload_n 1, 1, 0, 0, 0), (13, .if_icmp .ge 89, 3, 0, 0, 0), (16, .aload_n 0, 1, 0, 0, 0), (17, .getfield 126, 3, 0, 12, 61), (20, .iload 4, 2, 0, 0, 0), (22, .iaload, 1, 0, 0, 0), (23, .iload_n 2, 1, 0, 0, 0), (24, .if_icmp .ne 7, 3, 0, 0, 0), (27, .iconst 1, 1, 0, 0, 0), (28, .goto 4, 3, 0, 0, 0), (31, .iconst 0, 1, 0, 0, 0), (32, .istore 5, 2, 0, 0, 0), (34, .aload_n 0, 1, 0, 0, 0), (35, .getfield 141, 3, 0, 12, 66), (38, .bipush 10, 2, 0, 0, 0), (40, .iload_n 1, 1, 0, 0, 0), (41, .imul, 1, 0, 0, 0), (42, .iload 4, 2, 0, 0, 0), (44, .iadd, 1, 0, 0, 0), (45, .iaload, 1, 0, 0, 0), (46, .istore 6, 2, 0, 0, 0), (48, .iload 6, 2, 0, 0, 0), (50, .iconst 1, 1, 0, 0, 0), (51, .iand, 1, 0, 0, 0), (52, .iconst 1, 1, 0, 0, 0), (53, .if_icmp .ne 8, 3, 0, 0, 0), (56, .iload 5, 2, 0, 0, 0), (58, .ifCond .eq 16, 3, 0, 0, 0), (61, .iload 6, 2, 0, 0, 0), (63, .iconst 2, 1, 0, 0, 0), (64, .iand, 1, 0, 0, 0), (65, .iconst 2, 1, 0, 0, 0), (66, .if_icmp .ne 10, 3, 0, 0, 0), (69, .iload 5, 2, 0, 0, 0), (71, .ifCond .eq 5, 3, 0, 0, 0), (74, .iconst 0, 1, 0, 0, 0), (75, .ireturn, 1, 0, 0, 0), (76, .iload 5, 2, 0, 0, 0), (78, .ifCond .eq 18, 3, 0, 0, 0), (81, .iload_n 3, 1, 0, 0, 0), (82, .aload_n 0, 1, 0, 0, 0), (83, .getfield 138, 3, 0, 12, 65), (86, .bipush 10, 2, 0, 0, 0), (88, .iload_n 1, 1, 0, 0, 0), (89, .imul, 1, 0, 0, 0), (90, .iload 4, 2, 0, 0, 0), (92, .iadd, 1, 0, 0, 0), (93, .iaload, 1, 0, 0, 0), (94, .iadd, 1, 0, 0, 0), (95, .istore_n 3, 1, 0, 0, 0), (96, .iinc 4 1, 3, 0, 0, 0), (99, .goto (-89), 3, 0, 0, 0), (102, .aload_n 0, 1, 0, 0, 0), (103, .getfield 135, 3, 0, 12, 64), (106, .iload_n 1, 1, 0, 0, 0), (107, .iconst 1, 1, 0, 0, 0), (108, .iadd, 1, 0, 0, 0), (109, .iload_n 3, 1, 0, 0, 0), (110, .iastore, 1, 0, 0, 0), (111, .iconst 1, 1, 0, 0, 0), (112, .ireturn, 1, 0, 0, 0)] -- X12_canBe
def cd149 : List AE := [(0, .aload_n 0, 1, 0, 0, 0), (1, .getfield 355, 3, 0, 12, 58), (4, .ifCond .eq 20, 3, 0, 0, 0), (7, .aload_n 0, 1, 0, 0, 0), (8, .getfield 135, 3, 0, 12, 64), (11, .aload_n 0, 1, 0, 0, 0), (12, .getfield 348, 3, 0, 12, 55), (15, .iaload, 1, 0, 0, 0), (16, .aload_n 0, 1, 0, 0, 0), (17, .getfield 359, 3, 0, 12, 56), (20, .if_icmp .gt 4, 3, 0, 0, 0), (23, .return_, 1, 0, 0, 0), (24, .aload_n 0, 1, 0, 0, 0), (25, .iconst 1, 1, 0, 0, 0), (26, .putfield 355, 3, 0, 12, 58), (29, .aload_n 0, 1, 0, 0, 0), (30, .aload_n 0, 1, 0, 0, 0), (31, .getfield 135, 3, 0, 12, 64), (34, .aload_n 0, 1, 0, 0, 0), (35, .getfield 348, 3, 0, 12, 55), (38, .iaload, 1, 0, 0, 0), (39, .putfield 359, 3, 0, 12, 56), (42, .aload_n 0, 1, 0, 0, 0), (43, .aload_n 0, 1, 0, 0, 0), (44, .getfield 132, 3, 0, 12, 63), (47, .aload_n 0, 1, 0, 0, 0), (48, .getfield 348, 3, 0, 12, 55), (51, .iaload, 1, 0, 0, 0), (52, .putfield 362, 3, 0, 12, 57), (55, .iconst 0, 1, 0, 0, 0), (56, .istore_n 1, 1, 0, 0, 0), (57, .iload_n 1, 1, 0, 0, 0), (58, .aload_n 0, 1, 0, 0, 0), (59, .getfield 348, 3, 0, 12, 55), (62, .if_icmp .ge 26, 3, 0, 0, 0), (65, .aload_n 0, 1, 0, 0, 0), (66, .getfield 123, 3, 0, 12, 60), (69, .aload_n 0, 1, 0, 0, 0), (70, .getfield 120, 3, 0, 12, 59), (73, .iload_n 1, 1, 0, 0, 0), (74, .iaload, 1, 0, 0, 0), (75, .aload_n 0, 1, 0, 0, 0), (76, .getfield 126, 3, 0, 12, 61), (79, .iload_n 1, 1, 0, 0, 0), (80, .iaload, 1, 0, 0, 0), (81, .iastore, 1, 0, 0, 0), (82, .iinc 1 1, 3, 0, 0, 0), (85, .goto (-28), 3, 0, 0, 0), (88, .return_, 1, 0, 0, 0)] -- X12_look
def cd150 : List AE := [(0, .aload_n 0, 1, 0, 0, 0), (1, .iload_n 1, 1, 0, 0, 0), (2, .iload_n 2, 1, 0, 0, 0), (3, .invokevirtual 371, 3, 0, 147, 0), (6, .aload_n 0, 1, 0, 0, 0), (7, .getfield 355, 3, 0, 12, 58), (10, .ifCond .eq 10, 3, 0, 0, 0), (13, .aload_n 0, 1, 0, 0, 0), (14, .getfield 362, 3, 0, 12, 57), (17, .goto 5, 3, 0, 0, 0), (20, .bipush (-2), 2, 0, 0, 0), (22, .ireturn, 1, 0, 0, 0)] -- X12_persons
def cd151 : List AE := [(0, .aload_n 0, 1, 0, 0, 0), (1, .iload_n 1, 1, 0, 0, 0), (2, .iload_n 2, 1, 0, 0, 0), (3, .invokevirtual 371, 3, 0, 147, 0), (6, .aload_n 0, 1, 0, 0, 0), (7, .getfield 355, 3, 0, 12, 58), (10, .ifCond .eq 10, 3, 0, 0, 0), (13, .aload_n 0, 1, 0, 0, 0), (14, .getfield 359, 3, 0, 12, 56), (17, .goto 6, 3, 0, 0, 0), (20, .ldc_w 375, 3, (-2000000), 0, 0), (23, .ireturn, 1, 0, 0, 0)] -- X12_worth
def cd152 : List AE := [(0, .aload_n 0, 1, 0, 0, 0), (1, .iload_n 1, 1, 0, 0, 0), (2, .iload_n 3, 1, 0, 0, 0), (3, .invokevirtual 335, 3, 0, 110, 0), (6, .ifCond .ne 5, 3, 0, 0, 0), (9, .iconst (-1), 1, 0, 0, 0), (10, .ireturn, 1, 0, 0, 0), (11, .aload_n 0, 1, 0, 0, 0), (12, .iload_n 2, 1, 0, 0, 0), (13, .iload_n 3, 1, 0, 0, 0), (14, .invokevirtual 371, 3, 0, 147, 0), (17, .aload_n 0, 1, 0, 0, 0), (18, .getfield 355, 3, 0, 12, 58), (21, .ifCond .eq 12, 3, 0, 0, 0), (24, .aload_n 0, 1, 0, 0, 0), (25, .getfield 123, 3, 0, 12, 60), (28, .iload_n 1, 1, 0, 0, 0), (29, .iaload, 1, 0, 0, 0), (30, .goto 4, 3, 0, 0, 0), (33, .iconst (-1), 1, 0, 0, 0), (34, .ireturn, 1, 0, 0, 0)] -- X12_person
def cd153 : List AE := [(0, .aload_n 0, 1, 0, 0, 0), (1, .iconst (-1), 1, 0, 0, 0), (2, .putfield 376, 3, 0, 12, 67), (5, .aload_n 0, 1, 0, 0, 0), (6, .iconst (-1), 1, 0, 0, 0), (7, .putfield 379, 3, 0, 12, 68), (10, .aload_n 0, 1, 0, 0, 0), (11, .iconst 0, 1, 0, 0, 0), (12, .putfield 382, 3, 0, 12, 69), (15, .aload_n 0, 1, 0, 0, 0), (16, .getfield 123, 3, 0, 12, 60), (19, .iload_n 1, 1, 0, 0, 0), (20, .iaload, 1, 0, 0, 0), (21, .istore 5, 2, 0, 0, 0), (23, .iconst 0, 1, 0, 0, 0), (24, .istore 6, 2, 0, 0, 0), (26, .iload 6, 2, 0, 0, 0), (28, .aload_n 0, 1, 0, 0, 0), (29, .getfield 185, 3, 0, 12, 4), (32, .if_icmp .ge 292, 3, 0, 0, 0), (35, .aload_n 0, 1, 0, 0, 0), (36, .getfield 123, 3, 0, 12, 60), (39, .iload 6, 2, 0, 0, 0), (41, .iaload, 1, 0, 0, 0), (42, .iload 5, 2, 0, 0, 0), (44, .if_icmp .ne 16, 3, 0, 0, 0), (47, .aload_n 0, 1, 0, 0, 0), (48, .iload 6, 2, 0, 0, 0), (50, .iload_n 2, 1, 0, 0, 0), (51, .iload_n 3, 1, 0, 0, 0), (52, .iload 4, 2, 0, 0, 0), (54, .invokevirtual 206, 3, 0, 114, 0), (57, .goto 4, 3, 0, 0, 0), (60, .iconst (-1), 1, 0, 0, 0), (61, .istore 7, 2, 0, 0, 0), (63, .iload 7, 2, 0, 0, 0), (65, .ifCond .lt 253, 3, 0, 0, 0), (68, .aload_n 0, 1, 0, 0, 0), (69, .getfield 44, 3, 0, 12, 14), (72, .iload 7, 2, 0, 0, 0), (74, .baload, 1, 0, 0, 0), (75, .ifCond .eq 6, 3, 0, 0, 0), (78, .goto 240, 3, 0, 0, 0), (81, .ldc2_w 385, 3, 100, 0, 0), (84, .aload_n 0, 1, 0, 0, 0), (85, .getfield 7, 3, 0, 12, 1), (88, .bipush 6, 2, 0, 0, 0), (90, .aload_n 0, 1, 0, 0, 0), (91, .getfield 19, 3, 0, 12, 6), (94, .iload 6, 2, 0, 0, 0), (96, .iaload, 1, 0, 0, 0), (97, .imul, 1, 0, 0, 0), (98, .iload_n 2, 1, 0, 0, 0), (99, .iadd, 1, 0, 0, 0), (100, .iaload, 1, 0, 0, 0), (101, .i2l, 1, 0, 0, 0), (102, .lmul, 1, 0, 0, 0), (103, .aload_n 0, 1, 0, 0, 0), (104, .getfield 13, 3, 0, 12, 2), (107, .iload_n 2, 1, 0, 0, 0), (108, .iaload, 1, 0, 0, 0), (109, .i2l, 1, 0, 0, 0), (110, .iload_n 3, 1, 0, 0, 0), (111, .i2l, 1, 0, 0, 0), (112, .aload_n 0, 1, 0, 0, 0), (113, .getfield 38, 3, 0, 12, 12), (116, .iload 7, 2, 0, 0, 0), (118, .iaload, 1, 0, 0, 0), (119, .i2l, 1, 0, 0, 0), (120, .lsub, 1, 0, 0, 0), (121, .lmul, 1, 0, 0, 0), (122, .lsub, 1, 0, 0, 0), (123, .lstore 8, 2, 0, 0, 0), (125, .lload 8, 2, 0, 0, 0), (127, .lconst 0, 1, 0, 0, 0), (128, .lcmp, 1, 0, 0, 0), (129, .ifCond .ge 7, 3, 0, 0, 0), (132, .lconst 0, 1, 0, 0, 0), (133, .goto 5, 3, 0, 0, 0), (136, .lload 8, 2, 0, 0, 0), (138, .lstore 8, 2, 0, 0, 0), (140, .iconst 0, 1, 0, 0, 0), (141, .istore 10, 2, 0, 0, 0), (143, .iload 10, 2, 0, 0, 0), (145, .aload_n 0, 1, 0, 0, 0), (146, .getfield 382, 3, 0, 12, 69), (149, .if_icmp .ge 26, 3, 0, 0, 0), (152, .aload_n 0, 1, 0, 0, 0), (153, .getfield 144, 3, 0, 12, 70), (156, .iload 10, 2, 0, 0, 0), (158, .iaload, 1, 0, 0, 0), (159, .aload_n 0, 1, 0, 0, 0), (160, .getfield 35, 3, 0, 12, 11), (163, .iload 7, 2, 0, 0, 0), (165, .iaload, 1, 0, 0, 0), (166, .if_icmp .eq 9, 3, 0, 0, 0), (169, .iinc 10 1, 3, 0, 0, 0), (172, .goto (-29), 3, 0, 0, 0), (175, .iload 10, 2, 0, 0, 0), (177, .aload_n 0, 1, 0, 0, 0), (178, .getfield 382, 3, 0, 12, 69), (181, .if_icmp .ne 53, 3, 0, 0, 0), (184, .aload_n 0, 1, 0, 0, 0), (185, .getfield 144, 3, 0, 12, 70), (188, .iload 10, 2, 0, 0, 0), (190, .aload_n 0, 1, 0, 0, 0), (191, .getfield 35, 3, 0, 12, 11), (194, .iload 7, 2, 0, 0, 0), (196, .iaload, 1, 0, 0, 0), (197, .iastore, 1, 0, 0, 0), (198, .aload_n 0, 1, 0, 0, 0), (199, .getfield 153, 3, 0, 12, 73), (202, .iload 10, 2, 0, 0, 0), (204, .lconst 0, 1, 0, 0, 0), (205, .lastore, 1, 0, 0, 0), (206, .aload_n 0, 1, 0, 0, 0), (207, .getfield 157, 3, 0, 12, 74), (210, .iload 10, 2, 0, 0, 0), (212, .ldc2_w 387, 3, (-1), 0, 0), (215, .lastore, 1, 0, 0, 0), (216, .aload_n 0, 1, 0, 0, 0), (217, .getfield 150, 3, 0, 12, 72), (220, .iload 10, 2, 0, 0, 0), (222, .iconst (-1), 1, 0, 0, 0), (223, .iastore, 1, 0, 0, 0), (224, .aload_n 0, 1, 0, 0, 0), (225, .dup, 1, 0, 0, 0), (226, .getfield 382, 3, 0, 12, 69), (229, .iconst 1, 1, 0, 0, 0), (230, .iadd, 1, 0, 0, 0), (231, .putfield 382, 3, 0, 12, 69), (234, .aload_n 0, 1, 0, 0, 0), (235, .getfield 153, 3, 0, 12, 73), (238, .iload 10, 2, 0, 0, 0), (240, .dup2, 1, 0, 0, 0), (241, .laload, 1, 0, 0, 0), (242, .lload 8, 2, 0, 0, 0), (244, .ladd, 1, 0, 0, 0), (245, .lastore, 1, 0, 0, 0), (246, .aload_n 0, 1, 0, 0, 0), (247, .getfield 150, 3, 0, 12, 72), (250, .iload 10, 2, 0, 0, 0), (252, .aload_n 0, 1, 0, 0, 0), (253, .getfield 38, 3, 0, 12, 12), (256, .iload 7, 2, 0, 0, 0), (258, .iaload, 1, 0, 0, 0), (259, .aload_n 0, 1, 0, 0, 0), (260, .getfield 150, 3, 0, 12, 72), (263, .iload 10, 2, 0, 0, 0), (265, .iaload, 1, 0, 0, 0), (266, .if_icmp .le 13, 3, 0, 0, 0), (269, .aload_n 0, 1, 0, 0, 0), (270, .getfield 38, 3, 0, 12, 12), (273, .iload 7, 2, 0, 0, 0), (275, .iaload, 1, 0, 0, 0), (276, .goto 10, 3, 0, 0, 0), (279, .aload_n 0, 1, 0, 0, 0), (280, .getfield 150, 3, 0, 12, 72), (283, .iload 10, 2, 0, 0, 0), (285, .iaload, 1, 0, 0, 0), (286, .iastore, 1, 0, 0, 0), (287, .lload 8, 2, 0, 0, 0), (289, .aload_n 0, 1, 0, 0, 0), (290, .getfield 157, 3, 0, 12, 74), (293, .iload 10, 2, 0, 0, 0), (295, .laload, 1, 0, 0, 0), (296, .lcmp, 1, 0, 0, 0), (297, .ifCond .le 21, 3, 0, 0, 0), (300, .aload_n 0, 1, 0, 0, 0), (301, .getfield 157, 3, 0, 12, 74), (304, .iload 10, 2, 0, 0, 0), (306, .lload 8, 2, 0, 0, 0), (308, .lastore, 1, 0, 0, 0), (309, .aload_n 0, 1, 0, 0, 0), (310, .getfield 147, 3, 0, 12, 71), (313, .iload 10, 2, 0, 0, 0), (315, .iload 6, 2, 0, 0, 0), (317, .iastore, 1, 0, 0, 0), (318, .iinc 6 1, 3, 0, 0, 0), (321, .goto (-295), 3, 0, 0, 0), (324, .iconst (-1), 1, 0, 0, 0), (325, .istore 6, 2, 0, 0, 0), (327, .iconst 0, 1, 0, 0, 0), (328, .istore 7, 2, 0, 0, 0), (330, .iload 7, 2, 0, 0, 0), (332, .aload_n 0, 1, 0, 0, 0), (333, .getfield 382, 3, 0, 12, 69), (336, .if_icmp .ge 117, 3, 0, 0, 0), (339, .iload 6, 2, 0, 0, 0), (341, .ifCond .lt 90, 3, 0, 0, 0), (344, .aload_n 0, 1, 0, 0, 0), (345, .getfield 153, 3, 0, 12, 73), (348, .iload 7, 2, 0, 0, 0), (350, .laload, 1, 0, 0, 0), (351, .aload_n 0, 1, 0, 0, 0), (352, .getfield 153, 3, 0, 12, 73), (355, .iload 6, 2, 0, 0, 0), (357, .laload, 1, 0, 0, 0), (358, .lcmp, 1, 0, 0, 0), (359, .ifCond .gt 72, 3, 0, 0, 0), (362, .aload_n 0, 1, 0, 0, 0), (363, .getfield 153, 3, 0, 12, 73), (366, .iload 7, 2, 0, 0, 0), (368, .laload, 1, 0, 0, 0), (369, .aload_n 0, 1, 0, 0, 0), (370, .getfield 153, 3, 0, 12, 73), (373, .iload 6, 2, 0, 0, 0), (375, .laload, 1, 0, 0, 0), (376, .lcmp, 1, 0, 0, 0), (377, .ifCond .ne 58, 3, 0, 0, 0), (380, .aload_n 0, 1, 0, 0, 0), (381, .getfield 150, 3, 0, 12, 72), (384, .iload 7, 2, 0, 0, 0), (386, .iaload, 1, 0, 0, 0), (387, .aload_n 0, 1, 0, 0, 0), (388, .getfield 150, 3, 0, 12, 72), (391, .iload 6, 2, 0, 0, 0), (393, .iaload, 1, 0, 0, 0), (394, .if_icmp .gt 37, 3, 0, 0, 0), (397, .aload_n 0, 1, 0, 0, 0), (398, .getfield 150, 3, 0, 12, 72), (401, .iload 7, 2, 0, 0, 0), (403, .iaload, 1, 0, 0, 0), (404, .aload_n 0, 1, 0, 0, 0), (405, .getfield 150, 3, 0, 12, 72), (408, .iload 6, 2, 0, 0, 0), (410, .iaload, 1, 0, 0, 0), (411, .if_icmp .ne 24, 3, 0, 0, 0), (414, .aload_n 0, 1, 0, 0, 0), (415, .getfield 144, 3, 0, 12, 70), (418, .iload 7, 2, 0, 0, 0), (420, .iaload, 1, 0, 0, 0), (421, .aload_n 0, 1, 0, 0, 0), (422, .getfield 144, 3, 0, 12, 70), (425, .iload 6, 2, 0, 0, 0), (427, .iaload, 1, 0, 0, 0), (428, .if_icmp .ge 7, 3, 0, 0, 0), (431, .iconst 1, 1, 0, 0, 0), (432, .goto 4, 3, 0, 0, 0), (435, .iconst 0, 1, 0, 0, 0), (436, .istore 8, 2, 0, 0, 0), (438, .iload 8, 2, 0, 0, 0), (440, .ifCond .eq 7, 3, 0, 0, 0), (443, .iload 7, 2, 0, 0, 0), (445, .istore 6, 2, 0, 0, 0), (447, .iinc 7 1, 3, 0, 0, 0), (450, .goto (-120), 3, 0, 0, 0), (453, .iload 6, 2, 0, 0, 0), (455, .ifCond .lt 25, 3, 0, 0, 0), (458, .aload_n 0, 1, 0, 0, 0), (459, .aload_n 0, 1, 0, 0, 0), (460, .getfield 144, 3, 0, 12, 70), (463, .iload 6, 2, 0, 0, 0), (465, .iaload, 1, 0, 0, 0), (466, .putfield 376, 3, 0, 12, 67), (469, .aload_n 0, 1, 0, 0, 0), (470, .aload_n 0, 1, 0, 0, 0), (471, .getfield 147, 3, 0, 12, 71), (474, .iload 6, 2, 0, 0, 0), (476, .iaload, 1, 0, 0, 0), (477, .putfield 379, 3, 0, 12, 68), (480, .iconst 0, 1, 0, 0, 0), (481, .istore 7, 2, 0, 0, 0), (483, .iload 7, 2, 0, 0, 0), (485, .aload_n 0, 1, 0, 0, 0), (486, .getfield 345, 3, 0, 12, 44), (489, .if_icmp .ge 93, 3, 0, 0, 0), (492, .aload_n 0, 1, 0, 0, 0), (493, .aload_n 0, 1, 0, 0, 0), (494, .getfield 105, 3, 0, 12, 50), (497, .iload 7, 2, 0, 0, 0), (499, .iaload, 1, 0, 0, 0), (500, .invokevirtual 191, 3, 0, 109, 0), (503, .ifCond .eq 73, 3, 0, 0, 0), (506, .aload_n 0, 1, 0, 0, 0), (507, .getfield 123, 3, 0, 12, 60), (510, .aload_n 0, 1, 0, 0, 0), (511, .getfield 105, 3, 0, 12, 50), (514, .iload 7, 2, 0, 0, 0), (516, .iaload, 1, 0, 0, 0), (517, .iaload, 1, 0, 0, 0), (518, .iload 5, 2, 0, 0, 0), (520, .if_icmp .ne 56, 3, 0, 0, 0), (523, .aload_n 0, 1, 0, 0, 0), (524, .getfield 108, 3, 0, 12, 51), (527, .iload 7, 2, 0, 0, 0), (529, .iaload, 1, 0, 0, 0), (530, .iload_n 2, 1, 0, 0, 0), (531, .if_icmp .ne 45, 3, 0, 0, 0), (534, .aload_n 0, 1, 0, 0, 0), (535, .getfield 114, 3, 0, 12, 53), (538, .iload 7, 2, 0, 0, 0), (540, .iaload, 1, 0, 0, 0), (541, .aload_n 0, 1, 0, 0, 0), (542, .getfield 117, 3, 0, 12, 54), (545, .iload 7, 2, 0, 0, 0), (547, .iaload, 1, 0, 0, 0), (548, .iload 4, 2, 0, 0, 0), (550, .invokestatic 351, 3, 0, 142, 0), (553, .ifCond .ne 6, 3, 0, 0, 0), (556, .goto 20, 3, 0, 0, 0), (559, .aload_n 0, 1, 0, 0, 0), (560, .aload_n 0, 1, 0, 0, 0), (561, .getfield 111, 3, 0, 12, 52), (564, .iload 7, 2, 0, 0, 0), (566, .iaload, 1, 0, 0, 0), (567, .putfield 376, 3, 0, 12, 67), (570, .aload_n 0, 1, 0, 0, 0), (571, .bipush (-2), 2, 0, 0, 0), (573, .putfield 379, 3, 0, 12, 68), (576, .iinc 7 1, 3, 0, 0, 0), (579, .goto (-96), 3, 0, 0, 0), (582, .return_, 1, 0, 0, 0)] -- X12_gold
def cd154 : List AE := [(0, .aload_n 0, 1, 0, 0, 0), (1, .iload_n 1, 1, 0, 0, 0), (2, .iload 4, 2, 0, 0, 0), (4, .invokevirtual 335, 3, 0, 110, 0), (7, .ifCond .eq 10, 3, 0, 0, 0), (10, .iload_n 2, 1, 0, 0, 0), (11, .invokestatic 182, 3, 0, 104, 0), (14, .ifCond .ne 5, 3, 0, 0, 0), (17, .iconst 0, 1, 0, 0, 0), (18, .ireturn, 1, 0, 0, 0), (19, .aload_n 0, 1, 0, 0, 0), (20, .iload_n 3, 1, 0, 0, 0), (21, .iload 4, 2, 0, 0, 0), (23, .invokevirtual 371, 3, 0, 147, 0), (26, .aload_n 0, 1, 0, 0, 0), (27, .getfield 355, 3, 0, 12, 58), (30, .ifCond .eq 12, 3, 0, 0, 0), (33, .aload_n 0, 1, 0, 0, 0), (34, .iload_n 1, 1, 0, 0, 0), (35, .iload_n 2, 1, 0, 0, 0), (36, .iload_n 3, 1, 0, 0, 0), (37, .iload 4, 2, 0, 0, 0), (39, .invokevirtual 389, 3, 0, 153, 0), (42, .aload_n 0, 1, 0, 0, 0), (43, .getfield 355, 3, 0, 12, 58), (46, .ireturn, 1, 0, 0, 0)] -- X12_tells
def cd155 : List AE := [(0, .aload_n 0, 1, 0, 0, 0), (1, .iload_n 1, 1, 0, 0, 0), (2, .iload_n 2, 1, 0, 0, 0), (3, .iload_n 3, 1, 0, 0, 0), (4, .iload 4, 2, 0, 0, 0), (6, .invokevirtual 393, 3, 0, 154, 0), (9, .ifCond .eq 10, 3, 0, 0, 0), (12, .aload_n 0, 1, 0, 0, 0), (13, .getfield 376, 3, 0, 12, 67), (16, .goto 4, 3, 0, 0, 0), (19, .iconst (-1), 1, 0, 0, 0), (20, .ireturn, 1, 0, 0, 0)] -- X12_golden
def cd156 : List AE := [(0, .aload_n 0, 1, 0, 0, 0), (1, .iload_n 1, 1, 0, 0, 0), (2, .iload_n 2, 1, 0, 0, 0), (3, .iload_n 3, 1, 0, 0, 0), (4, .iload 4, 2, 0, 0, 0), (6, .invokevirtual 393, 3, 0, 154, 0), (9, .ifCond .eq 10, 3, 0, 0, 0), (12, .aload_n 0, 1, 0, 0, 0), (13, .getfield 379, 3, 0, 12, 68), (16, .goto 4, 3, 0, 0, 0), (19, .iconst (-1), 1, 0, 0, 0), (20, .ireturn, 1, 0, 0, 0)] -- X12_from
def cd157 : List AE := [(0, .aload_n 0, 1, 0, 0, 0), (1, .iload_n 1, 1, 0, 0, 0), (2, .iload_n 2, 1, 0, 0, 0), (3, .iload_n 3, 1, 0, 0, 0), (4, .iload 4, 2, 0, 0, 0), (6, .invokevirtual 393, 3, 0, 154, 0), (9, .ifCond .eq 10, 3, 0, 0, 0), (12, .aload_n 0, 1, 0, 0, 0), (13, .getfield 382, 3, 0, 12, 69), (16, .goto 4, 3, 0, 0, 0), (19, .iconst (-1), 1, 0, 0, 0), (20, .ireturn, 1, 0, 0, 0)] -- X12_torn
def cd158 : List AE := [(0, .iconst 0, 1, 0, 0, 0), (1, .istore 4, 2, 0, 0, 0), (3, .iconst 0, 1, 0, 0, 0), (4, .istore 5, 2, 0, 0, 0), (6, .iload 5, 2, 0, 0, 0), (8, .aload_n 0, 1, 0, 0, 0), (9, .getfield 397, 3, 0, 12, 75), (12, .if_icmp .ge 54, 3, 0, 0, 0), (15, .iload 4, 2, 0, 0, 0), (17, .ifCond .ne 49, 3, 0, 0, 0), (20, .aload_n 0, 1, 0, 0, 0), (21, .getfield 160, 3, 0, 12, 77), (24, .iload 5, 2, 0, 0, 0), (26, .iaload, 1, 0, 0, 0), (27, .iload_n 1, 1, 0, 0, 0), (28, .if_icmp .ne 29, 3, 0, 0, 0), (31, .aload_n 0, 1, 0, 0, 0), (32, .getfield 163, 3, 0, 12, 78), (35, .iload 5, 2, 0, 0, 0), (37, .iaload, 1, 0, 0, 0), (38, .iload_n 2, 1, 0, 0, 0), (39, .if_icmp .ne 18, 3, 0, 0, 0), (42, .aload_n 0, 1, 0, 0, 0), (43, .getfield 166, 3, 0, 12, 79), (46, .iload 5, 2, 0, 0, 0), (48, .iaload, 1, 0, 0, 0), (49, .iload_n 3, 1, 0, 0, 0), (50, .if_icmp .ne 7, 3, 0, 0, 0), (53, .iconst 1, 1, 0, 0, 0), (54, .goto 4, 3, 0, 0, 0), (57, .iconst 0, 1, 0, 0, 0), (58, .istore 4, 2, 0, 0, 0), (60, .iinc 5 1, 3, 0, 0, 0), (63, .goto (-57), 3, 0, 0, 0), (66, .iload 4, 2, 0, 0, 0), (68, .ireturn, 1, 0, 0, 0)] -- X12_isRefused
def cd159 : List AE := [(0, .aload_n 0, 1, 0, 0, 0), (1, .iconst 0, 1, 0, 0, 0), (2, .putfield 400, 3, 0, 12, 76), (5, .aload_n 0, 1, 0, 0, 0), (6, .aload_n 0, 1, 0, 0, 0), (7, .getfield 188, 3, 0, 12, 0), (10, .aload_n 0, 1, 0, 0, 0), (11, .getfield 188, 3, 0, 12, 0), (14, .invokevirtual 371, 3, 0, 147, 0), (17, .iconst 0, 1, 0, 0, 0), (18, .istore_n 2, 1, 0, 0, 0), (19, .iload_n 2, 1, 0, 0, 0), (20, .aload_n 0, 1, 0, 0, 0), (21, .getfield 185, 3, 0, 12, 4), (24, .if_icmp .ge 165, 3, 0, 0, 0), (27, .aload_n 0, 1, 0, 0, 0), (28, .getfield 355, 3, 0, 12, 58), (31, .ifCond .eq 158, 3, 0, 0, 0), (34, .iconst 0, 1, 0, 0, 0), (35, .istore_n 3, 1, 0, 0, 0), (36, .iload_n 3, 1, 0, 0, 0), (37, .bipush 6, 2, 0, 0, 0), (39, .if_icmp .ge 144, 3, 0, 0, 0), (42, .aload_n 0, 1, 0, 0, 0), (43, .iload_n 2, 1, 0, 0, 0), (44, .invokevirtual 191, 3, 0, 109, 0), (47, .ifCond .eq 130, 3, 0, 0, 0), (50, .aload_n 0, 1, 0, 0, 0), (51, .getfield 19, 3, 0, 12, 6), (54, .iload_n 2, 1, 0, 0, 0), (55, .iaload, 1, 0, 0, 0), (56, .iload_n 1, 1, 0, 0, 0), (57, .if_icmp .ne 120, 3, 0, 0, 0), (60, .aload_n 0, 1, 0, 0, 0), (61, .getfield 16, 3, 0, 12, 3), (64, .iload_n 1, 1, 0, 0, 0), (65, .iaload, 1, 0, 0, 0), (66, .iload_n 3, 1, 0, 0, 0), (67, .ishr, 1, 0, 0, 0), (68, .iconst 1, 1, 0, 0, 0), (69, .iand, 1, 0, 0, 0), (70, .ifCond .ne 6, 3, 0, 0, 0), (73, .goto 104, 3, 0, 0, 0), (76, .aload_n 0, 1, 0, 0, 0), (77, .iload_n 2, 1, 0, 0, 0), (78, .iload_n 3, 1, 0, 0, 0), (79, .aload_n 0, 1, 0, 0, 0), (80, .getfield 188, 3, 0, 12, 0), (83, .aload_n 0, 1, 0, 0, 0), (84, .getfield 188, 3, 0, 12, 0), (87, .invokevirtual 389, 3, 0, 153, 0), (90, .aload_n 0, 1, 0, 0, 0), (91, .getfield 376, 3, 0, 12, 67), (94, .ifCond .lt 83, 3, 0, 0, 0), (97, .aload_n 0, 1, 0, 0, 0), (98, .getfield 376, 3, 0, 12, 67), (101, .aload_n 0, 1, 0, 0, 0), (102, .iload_n 2, 1, 0, 0, 0), (103, .iload_n 3, 1, 0, 0, 0), (104, .aload_n 0, 1, 0, 0, 0), (105, .getfield 188, 3, 0, 12, 0), (108, .aload_n 0, 1, 0, 0, 0), (109, .getfield 188, 3, 0, 12, 0), (112, .invokevirtual 210, 3, 0, 115, 0), (115, .if_icmp .eq 62, 3, 0, 0, 0), (118, .aload_n 0, 1, 0, 0, 0), (119, .iload_n 2, 1, 0, 0, 0), (120, .iload_n 3, 1, 0, 0, 0), (121, .aload_n 0, 1, 0, 0, 0), (122, .getfield 376, 3, 0, 12, 67), (125, .invokevirtual 403, 3, 0, 158, 0), (128, .ifCond .eq 6, 3, 0, 0, 0), (131, .goto 46, 3, 0, 0, 0), (134, .aload_n 0, 1, 0, 0, 0), (135, .getfield 169, 3, 0, 12, 80), (138, .aload_n 0, 1, 0, 0, 0), (139, .getfield 400, 3, 0, 12, 76), (142, .iload_n 2, 1, 0, 0, 0), (143, .iastore, 1, 0, 0, 0), (144, .aload_n 0, 1, 0, 0, 0), (145, .getfield 172, 3, 0, 12, 81), (148, .aload_n 0, 1, 0, 0, 0), (149, .getfield 400, 3, 0, 12, 76), (152, .iload_n 3, 1, 0, 0, 0), (153, .iastore, 1, 0, 0, 0), (154, .aload_n 0, 1, 0, 0, 0), (155, .getfield 175, 3, 0, 12, 82), (158, .aload_n 0, 1, 0, 0, 0), (159, .getfield 400, 3, 0, 12, 76), (162, .aload_n 0, 1, 0, 0, 0), (163, .getfield 376, 3, 0, 12, 67), (166, .iastore, 1, 0, 0, 0), (167, .aload_n 0, 1, 0, 0, 0), (168, .dup, 1, 0, 0, 0), (169, .getfield 400, 3, 0, 12, 76), (172, .iconst 1, 1, 0, 0, 0), (173, .iadd, 1, 0, 0, 0), (174, .putfield 400, 3, 0, 12, 76), (177, .iinc 3 1, 3, 0, 0, 0), (180, .goto (-144), 3, 0, 0, 0), (183, .iinc 2 1, 3, 0, 0, 0), (186, .goto (-167), 3, 0, 0, 0), (189, .return_, 1, 0, 0, 0)] -- X12_seek
def cd160 : List AE := [(0, .iload_n 1, 1, 0, 0, 0), (1, .invokestatic 178, 3, 0, 103, 0), (4, .ifCond .ne 5, 3, 0, 0, 0), (7, .iconst (-1), 1, 0, 0, 0), (8, .ireturn, 1, 0, 0, 0), (9, .aload_n 0, 1, 0, 0, 0), (10, .iload_n 1, 1, 0, 0, 0), (11, .invokevirtual 406, 3, 0, 159, 0), (14, .aload_n 0, 1, 0, 0, 0), (15, .getfield 400, 3, 0, 12, 76), (18, .ireturn, 1, 0, 0, 0)] -- X12_changes
def cd161 : List AE := [(0, .iload_n 1, 1, 0, 0, 0), (1, .invokestatic 178, 3, 0, 103, 0), (4, .ifCond .eq 7, 3, 0, 0, 0), (7, .iload_n 2, 1, 0, 0, 0), (8, .ifCond .ge 5, 3, 0, 0, 0), (11, .iconst 0, 1, 0, 0, 0), (12, .ireturn, 1, 0, 0, 0), (13, .aload_n 0, 1, 0, 0, 0), (14, .iload_n 1, 1, 0, 0, 0), (15, .invokevirtual 406, 3, 0, 159, 0), (18, .iload_n 2, 1, 0, 0, 0), (19, .aload_n 0, 1, 0, 0, 0), (20, .getfield 400, 3, 0, 12, 76), (23, .if_icmp .ge 7, 3, 0, 0, 0), (26, .iconst 1, 1, 0, 0, 0), (27, .goto 4, 3, 0, 0, 0), (30, .iconst 0, 1, 0, 0, 0), (31, .ireturn, 1, 0, 0, 0)] -- X12_isChange
def cd162 : List AE := [(0, .aload_n 0, 1, 0, 0, 0), (1, .iload_n 1, 1, 0, 0, 0), (2, .iload_n 2, 1, 0, 0, 0), (3, .invokevirtual 409, 3, 0, 161, 0), (6, .ifCond .ne 5, 3, 0, 0, 0), (9, .iconst (-1), 1, 0, 0, 0), (10, .ireturn, 1, 0, 0, 0), (11, .iload_n 3, 1, 0, 0, 0), (12, .ifCond .ne 12, 3, 0, 0, 0), (15, .aload_n 0, 1, 0, 0, 0), (16, .getfield 169, 3, 0, 12, 80), (19, .iload_n 2, 1, 0, 0, 0), (20, .iaload, 1, 0, 0, 0), (21, .goto 32, 3, 0, 0, 0), (24, .iload_n 3, 1, 0, 0, 0), (25, .iconst 1, 1, 0, 0, 0), (26, .if_icmp .ne 12, 3, 0, 0, 0), (29, .aload_n 0, 1, 0, 0, 0), (30, .getfield 172, 3, 0, 12, 81), (33, .iload_n 2, 1, 0, 0, 0), (34, .iaload, 1, 0, 0, 0), (35, .goto 18, 3, 0, 0, 0), (38, .iload_n 3, 1, 0, 0, 0), (39, .iconst 2, 1, 0, 0, 0), (40, .if_icmp .ne 12, 3, 0, 0, 0), (43, .aload_n 0, 1, 0, 0, 0), (44, .getfield 175, 3, 0, 12, 82), (47, .iload_n 2, 1, 0, 0, 0), (48, .iaload, 1, 0, 0, 0), (49, .goto 4, 3, 0, 0, 0), (52, .iconst (-1), 1, 0, 0, 0), (53, .ireturn, 1, 0, 0, 0)] -- X12_change
def cd163 : List AE := [(0, .aload_n 0, 1, 0, 0, 0), (1, .getfield 195, 3, 0, 12, 5), (4, .sipush 150, 3, 0, 0, 0), (7, .if_icmp .eq 12, 3, 0, 0, 0), (10, .aload_n 0, 1, 0, 0, 0), (11, .iload_n 1, 1, 0, 0, 0), (12, .iload_n 2, 1, 0, 0, 0), (13, .invokevirtual 409, 3, 0, 161, 0), (16, .ifCond .ne 5, 3, 0, 0, 0), (19, .iconst 0, 1, 0, 0, 0), (20, .ireturn, 1, 0, 0, 0), (21, .aload_n 0, 1, 0, 0, 0), (22, .aload_n 0, 1, 0, 0, 0), (23, .getfield 169, 3, 0, 12, 80), (26, .iload_n 2, 1, 0, 0, 0), (27, .iaload, 1, 0, 0, 0), (28, .aload_n 0, 1, 0, 0, 0), (29, .getfield 172, 3, 0, 12, 81), (32, .iload_n 2, 1, 0, 0, 0), (33, .iaload, 1, 0, 0, 0), (34, .aload_n 0, 1, 0, 0, 0), (35, .getfield 175, 3, 0, 12, 82), (38, .iload_n 2, 1, 0, 0, 0), (39, .iaload, 1, 0, 0, 0), (40, .aload_n 0, 1, 0, 0, 0), (41, .getfield 188, 3, 0, 12, 0), (44, .iconst 1, 1, 0, 0, 0), (45, .invokevirtual 202, 3, 0, 112, 0), (48, .iconst 1, 1, 0, 0, 0), (49, .ireturn, 1, 0, 0, 0)] -- X12_accept
def cd164 : List AE := [(0, .aload_n 0, 1, 0, 0, 0), (1, .getfield 397, 3, 0, 12, 75), (4, .bipush 60, 2, 0, 0, 0), (6, .if_icmp .eq 12, 3, 0, 0, 0), (9, .aload_n 0, 1, 0, 0, 0), (10, .iload_n 1, 1, 0, 0, 0), (11, .iload_n 2, 1, 0, 0, 0), (12, .invokevirtual 409, 3, 0, 161, 0), (15, .ifCond .ne 5, 3, 0, 0, 0), (18, .iconst 0, 1, 0, 0, 0), (19, .ireturn, 1, 0, 0, 0), (20, .aload_n 0, 1, 0, 0, 0), (21, .getfield 160, 3, 0, 12, 77), (24, .aload_n 0, 1, 0, 0, 0), (25, .getfield 397, 3, 0, 12, 75), (28, .aload_n 0, 1, 0, 0, 0), (29, .getfield 169, 3, 0, 12, 80), (32, .iload_n 2, 1, 0, 0, 0), (33, .iaload, 1, 0, 0, 0), (34, .iastore, 1, 0, 0, 0), (35, .aload_n 0, 1, 0, 0, 0), (36, .getfield 163, 3, 0, 12, 78), (39, .aload_n 0, 1, 0, 0, 0), (40, .getfield 397, 3, 0, 12, 75), (43, .aload_n 0, 1, 0, 0, 0), (44, .getfield 172, 3, 0, 12, 81), (47, .iload_n 2, 1, 0, 0, 0), (48, .iaload, 1, 0, 0, 0), (49, .iastore, 1, 0, 0, 0), (50, .aload_n 0, 1, 0, 0, 0), (51, .getfield 166, 3, 0, 12, 79), (54, .aload_n 0, 1, 0, 0, 0), (55, .getfield 397, 3, 0, 12, 75), (58, .aload_n 0, 1, 0, 0, 0), (59, .getfield 175, 3, 0, 12, 82), (62, .iload_n 2, 1, 0, 0, 0), (63, .iaload, 1, 0, 0, 0), (64, .iastore, 1, 0, 0, 0), (65, .aload_n 0, 1, 0, 0, 0), (66, .dup, 1, 0, 0, 0), (67, .getfield 397, 3, 0, 12, 75), (70, .iconst 1, 1, 0, 0, 0), (71, .iadd, 1, 0, 0, 0), (72, .putfield 397, 3, 0, 12, 75), (75, .iconst 1, 1, 0, 0, 0), (76, .ireturn, 1, 0, 0, 0)] -- X12_refuse
def cd165 : List AE := [(0, .iload_n 1, 1, 0, 0, 0), (1, .tableswitch 87 0 7 #[47, 52, 57, 62, 67, 72, 77, 82], 47, 0, 0, 0), (48, .aload_n 0, 1, 0, 0, 0), (49, .getfield 188, 3, 0, 12, 0), (52, .ireturn, 1, 0, 0, 0), (53, .aload_n 0, 1, 0, 0, 0), (54, .getfield 185, 3, 0, 12, 4), (57, .ireturn, 1, 0, 0, 0), (58, .aload_n 0, 1, 0, 0, 0), (59, .getfield 195, 3, 0, 12, 5), (62, .ireturn, 1, 0, 0, 0), (63, .aload_n 0, 1, 0, 0, 0), (64, .getfield 342, 3, 0, 12, 43), (67, .ireturn, 1, 0, 0, 0), (68, .aload_n 0, 1, 0, 0, 0), (69, .getfield 345, 3, 0, 12, 44), (72, .ireturn, 1, 0, 0, 0), (73, .aload_n 0, 1, 0, 0, 0), (74, .getfield 328, 3, 0, 12, 20), (77, .ireturn, 1, 0, 0, 0), (78, .aload_n 0, 1, 0, 0, 0), (79, .getfield 397, 3, 0, 12, 75), (82, .ireturn, 1, 0, 0, 0), (83, .aload_n 0, 1, 0, 0, 0), (84, .getfield 213, 3, 0, 12, 30), (87, .ireturn, 1, 0, 0, 0), (88, .iconst (-1), 1, 0, 0, 0), (89, .ireturn, 1, 0, 0, 0)] -- X12_about
def cd166 : List AE := [(0, .iload_n 0, 1, 0, 0, 0), (1, .iload_n 0, 1, 0, 0, 0), (2, .iconst 1, 1, 0, 0, 0), (3, .iushr, 1, 0, 0, 0), (4, .ldc_w 265, 3, 1431655765, 0, 0), (7, .iand, 1, 0, 0, 0), (8, .isub, 1, 0, 0, 0), (9, .istore_n 0, 1, 0, 0, 0), (10, .iload_n 0, 1, 0, 0, 0), (11, .ldc_w 266, 3, 858993459, 0, 0), (14, .iand, 1, 0, 0, 0), (15, .iload_n 0, 1, 0, 0, 0), (16, .iconst 2, 1, 0, 0, 0), (17, .iushr, 1, 0, 0, 0), (18, .ldc_w 266, 3, 858993459, 0, 0), (21, .iand, 1, 0, 0, 0), (22, .iadd, 1, 0, 0, 0), (23, .istore_n 0, 1, 0, 0, 0), (24, .iload_n 0, 1, 0, 0, 0), (25, .iload_n 0, 1, 0, 0, 0), (26, .iconst 4, 1, 0, 0, 0), (27, .iushr, 1, 0, 0, 0), (28, .iadd, 1, 0, 0, 0), (29, .ldc_w 267, 3, 252645135, 0, 0), (32, .iand, 1, 0, 0, 0), (33, .istore_n 0, 1, 0, 0, 0), (34, .iload_n 0, 1, 0, 0, 0), (35, .iload_n 0, 1, 0, 0, 0), (36, .bipush 8, 2, 0, 0, 0), (38, .iushr, 1, 0, 0, 0), (39, .iadd, 1, 0, 0, 0), (40, .istore_n 0, 1, 0, 0, 0), (41, .iload_n 0, 1, 0, 0, 0), (42, .iload_n 0, 1, 0, 0, 0), (43, .bipush 16, 2, 0, 0, 0), (45, .iushr, 1, 0, 0, 0), (46, .iadd, 1, 0, 0, 0), (47, .istore_n 0, 1, 0, 0, 0), (48, .iload_n 0, 1, 0, 0, 0), (49, .bipush 63, 2, 0, 0, 0), (51, .iand, 1, 0, 0, 0), (52, .ireturn, 1, 0, 0, 0)] -- J6_bitCount_0f7a4
def cd167 : List AE := [(0, .aload_n 0, 1, 0, 0, 0), (1, .getfield 9, 3, 0, 100, 0), (4, .arraylength, 1, 0, 0, 0), (5, .aload_n 0, 1, 0, 0, 0), (6, .invokevirtual 335, 3, 0, 169, 0), (9, .ishr, 1, 0, 0, 0), (10, .ireturn, 1, 0, 0, 0)] -- J0_length_8abf5
def cd168 : List AE := [(0, .aload_n 0, 1, 0, 0, 0), (1, .invokevirtual 492, 3, 0, 170, 0), (4, .ifCond .eq 12, 3, 0, 0, 0), (7, .aload_n 0, 1, 0, 0, 0), (8, .getfield 9, 3, 0, 100, 0), (11, .iload_n 1, 1, 0, 0, 0), (12, .invokestatic 495, 3, 0, 172, 0), (15, .ireturn, 1, 0, 0, 0), (16, .aload_n 0, 1, 0, 0, 0), (17, .getfield 9, 3, 0, 100, 0), (20, .iload_n 1, 1, 0, 0, 0), (21, .invokestatic 498, 3, 0, 999, 0), (24, .ireturn, 1, 0, 0, 0)] -- J0_charAt_5068e
def cd169 : List AE := [(0, .getstatic 38, 3, 0, 0, 0), (3, .ifCond .eq 10, 3, 0, 0, 0), (6, .aload_n 0, 1, 0, 0, 0), (7, .getfield 15, 3, 0, 100, 1), (10, .goto 4, 3, 0, 0, 0), (13, .iconst 1, 1, 0, 0, 0), (14, .ireturn, 1, 0, 0, 0)] -- J0_coder_7d493
def cd170 : List AE := [(0, .getstatic 38, 3, 0, 0, 0), (3, .ifCond .eq 14, 3, 0, 0, 0), (6, .aload_n 0, 1, 0, 0, 0), (7, .getfield 15, 3, 0, 100, 1), (10, .ifCond .ne 7, 3, 0, 0, 0), (13, .iconst 1, 1, 0, 0, 0), (14, .goto 4, 3, 0, 0, 0), (17, .iconst 0, 1, 0, 0, 0), (18, .ireturn, 1, 0, 0, 0)] -- J0_isLatin1_aae02
def cd171 : List AE := [(0, .iload_n 0, 1, 0, 0, 0), (1, .iload_n 1, 1, 0, 0, 0), (2, .getstatic 1053, 3, 0, 1, 0), (5, .invokestatic 1059, 3, 0, 173, 0), (8, .pop, 1, 0, 0, 0), (9, .return_, 1, 0, 0, 0)] -- J0_checkIndex_df160
def cd172 : List AE := [(0, .iload_n 1, 1, 0, 0, 0), (1, .aload_n 0, 1, 0, 0, 0), (2, .arraylength, 1, 0, 0, 0), (3, .invokestatic 9, 3, 0, 171, 0), (6, .aload_n 0, 1, 0, 0, 0), (7, .iload_n 1, 1, 0, 0, 0), (8, .baload, 1, 0, 0, 0), (9, .sipush 255, 3, 0, 0, 0), (12, .iand, 1, 0, 0, 0), (13, .i2c, 1, 0, 0, 0), (14, .ireturn, 1, 0, 0, 0)] -- J1_charAt_3b067
def cd173 : List AE := [(0, .iload_n 0, 1, 0, 0, 0), (1, .ifCond .lt 8, 3, 0, 0, 0), (4, .iload_n 0, 1, 0, 0, 0), (5, .iload_n 1, 1, 0, 0, 0), (6, .if_icmp .lt 10, 3, 0, 0, 0), (9, .aload_n 2, 1, 0, 0, 0), (10, .iload_n 0, 1, 0, 0, 0), (11, .iload_n 1, 1, 0, 0, 0), (12, .invokestatic 95, 3, 0, 999, 0), (15, .athrow, 1, 0, 0, 0), (16, .iload_n 0, 1, 0, 0, 0), (17, .ireturn, 1, 0, 0, 0)] -- J3_checkIndex_8e157
def cd174 : List AE := [(0, .new 7, 3, 0, 11, 18), (3, .dup, 1, 0, 0, 0), (4, .invokespecial 9, 3, 0, 61, 0), (7, .astore_n 1, 1, 0, 0, 0), (8, .new 10, 3, 0, 12, 83), (11, .dup, 1, 0, 0, 0), (12, .invokespecial 12, 3, 0, 102, 0), (15, .astore_n 2, 1, 0, 0, 0), (16, .iconst 0, 1, 0, 0, 0), (17, .istore_n 3, 1, 0, 0, 0), (18, .iload_n 3, 1, 0, 0, 0), (19, .aload_n 0, 1, 0, 0, 0), (20, .arraylength, 1, 0, 0, 0), (21, .bipush 6, 2, 0, 0, 0), (23, .isub, 1, 0, 0, 0), (24, .if_icmp .gt 1172, 3, 0, 0, 0), (27, .aload_n 0, 1, 0, 0, 0), (28, .iload_n 3, 1, 0, 0, 0), (29, .iaload, 1, 0, 0, 0), (30, .bipush 31, 2, 0, 0, 0), (32, .iand, 1, 0, 0, 0), (33, .tableswitch 1157 0 27 #[127, 170, 203, 236, 259, 312, 365, 388, 411, 474, 497, 510, 533, 586, 645, 668, 701, 734, 777, 830, 883, 936, 979, 1002, 1025, 1068, 1101, 1134], 127, 0, 0, 0), (160, .aload_n 1, 1, 0, 0, 0), (161, .aload_n 0, 1, 0, 0, 0), (162, .iload_n 3, 1, 0, 0, 0), (163, .iconst 1, 1, 0, 0, 0), (164, .iadd, 1, 0, 0, 0), (165, .iaload, 1, 0, 0, 0), (166, .aload_n 0, 1, 0, 0, 0), (167, .iload_n 3, 1, 0, 0, 0), (168, .iconst 2, 1, 0, 0, 0), (169, .iadd, 1, 0, 0, 0), (170, .iaload, 1, 0, 0, 0), (171, .aload_n 0, 1, 0, 0, 0), (172, .iload_n 3, 1, 0, 0, 0), (173, .iconst 3, 1, 0, 0, 0), (174, .iadd, 1, 0, 0, 0), (175, .iaload, 1, 0, 0, 0), (176, .invokevirtual 13, 3, 0, 62, 0), (179, .aload_n 2, 1, 0, 0, 0), (180, .aload_n 0, 1, 0, 0, 0), (181, .iload_n 3, 1, 0, 0, 0), (182, .iconst 1, 1, 0, 0, 0), (183, .iadd, 1, 0, 0, 0), (184, .iaload, 1, 0, 0, 0), (185, .aload_n 0, 1, 0, 0, 0), (186, .iload_n 3, 1, 0, 0, 0), (187, .iconst 2, 1, 0, 0, 0), (188, .iadd, 1, 0, 0, 0), (189, .iaload, 1, 0, 0, 0), (190, .aload_n 0, 1, 0, 0, 0), (191, .iload_n 3, 1, 0, 0, 0), (192, .iconst 3, 1, 0, 0, 0), (193, .iadd, 1, 0, 0, 0), (194, .iaload, 1, 0, 0, 0), (195, .invokevirtual 17, 3, 0, 105, 0), (198, .if_icmp .eq 992, 3, 0, 0, 0), (201, .iconst 0, 1, 0, 0, 0), (202, .ireturn, 1, 0, 0, 0), (203, .aload_n 1, 1, 0, 0, 0), (204, .aload_n 0, 1, 0, 0, 0), (205, .iload_n 3, 1, 0, 0, 0), (206, .iconst 1, 1, 0, 0, 0), (207, .iadd, 1, 0, 0, 0), (208, .iaload, 1, 0, 0, 0), (209, .aload_n 0, 1, 0, 0, 0), (210, .iload_n 3, 1, 0, 0, 0), (211, .iconst 2, 1, 0, 0, 0), (212, .iadd, 1, 0, 0, 0), (213, .iaload, 1, 0, 0, 0), (214, .invokevirtual 18, 3, 0, 63, 0), (217, .aload_n 2, 1, 0, 0, 0), (218, .aload_n 0, 1, 0, 0, 0), (219, .iload_n 3, 1, 0, 0, 0), (220, .iconst 1, 1, 0, 0, 0), (221, .iadd, 1, 0, 0, 0), (222, .iaload, 1, 0, 0, 0), (223, .aload_n 0, 1, 0, 0, 0), (224, .iload_n 3, 1, 0, 0, 0), (225, .iconst 2, 1, 0, 0, 0), (226, .iadd, 1, 0, 0, 0), (227, .iaload, 1, 0, 0, 0), (228, .invokevirtual 22, 3, 0, 106, 0), (231, .if_icmp .eq 959, 3, 0, 0, 0), (234, .iconst 0, 1, 0, 0, 0), (235, .ireturn, 1, 0, 0, 0), (236, .aload_n 1, 1, 0, 0, 0), (237, .aload_n 0, 1, 0, 0, 0), (238, .iload_n 3, 1, 0, 0, 0), (239, .iconst 1, 1, 0, 0, 0), (240, .iadd, 1, 0, 0, 0), (241, .iaload, 1, 0, 0, 0), (242, .aload_n 0, 1, 0, 0, 0), (243, .iload_n 3, 1, 0, 0, 0), (244, .iconst 2, 1, 0, 0, 0), (245, .iadd, 1, 0, 0, 0), (246, .iaload, 1, 0, 0, 0), (247, .invokevirtual 23, 3, 0, 64, 0), (250, .aload_n 2, 1, 0, 0, 0), (251, .aload_n 0, 1, 0, 0, 0), (252, .iload_n 3, 1, 0, 0, 0), (253, .iconst 1, 1, 0, 0, 0), (254, .iadd, 1, 0, 0, 0), (255, .iaload, 1, 0, 0, 0), (256, .aload_n 0, 1, 0, 0, 0), (257, .iload_n 3, 1, 0, 0, 0), (258, .iconst 2, 1, 0, 0, 0), (259, .iadd, 1, 0, 0, 0), (260, .iaload, 1, 0, 0, 0), (261, .invokevirtual 26, 3, 0, 107, 0), (264, .if_icmp .eq 926, 3, 0, 0, 0), (267, .iconst 0, 1, 0, 0, 0), (268, .ireturn, 1, 0, 0, 0), (269, .aload_n 1, 1, 0, 0, 0), (270, .aload_n 0, 1, 0, 0, 0), (271, .iload_n 3, 1, 0, 0, 0), (272, .iconst 1, 1, 0, 0, 0), (273, .iadd, 1, 0, 0, 0), (274, .iaload, 1, 0, 0, 0), (275, .invokevirtual 27, 3, 0, 65, 0), (278, .aload_n 2, 1, 0, 0, 0), (279, .aload_n 0, 1, 0, 0, 0), (280, .iload_n 3, 1, 0, 0, 0), (281, .iconst 1, 1, 0, 0, 0), (282, .iadd, 1, 0, 0, 0), (283, .iaload, 1, 0, 0, 0), (284, .invokevirtual 31, 3, 0, 108, 0), (287, .if_icmp .eq 903, 3, 0, 0, 0), (290, .iconst 0, 1, 0, 0, 0), (291, .ireturn, 1, 0, 0, 0), (292, .aload_n 1, 1, 0, 0, 0), (293, .aload_n 0, 1, 0, 0, 0), (294, .iload_n 3, 1, 0, 0, 0), (295, .iconst 1, 1, 0, 0, 0), (296, .iadd, 1, 0, 0, 0), (297, .iaload, 1, 0, 0, 0), (298, .aload_n 0, 1, 0, 0, 0), (299, .iload_n 3, 1, 0, 0, 0), (300, .iconst 2, 1, 0, 0, 0), (301, .iadd, 1, 0, 0, 0), (302, .iaload, 1, 0, 0, 0), (303, .aload_n 0, 1, 0, 0, 0), (304, .iload_n 3, 1, 0, 0, 0), (305, .iconst 3, 1, 0, 0, 0), (306, .iadd, 1, 0, 0, 0), (307, .iaload, 1, 0, 0, 0), (308, .aload_n 0, 1, 0, 0, 0), (309, .iload_n 3, 1, 0, 0, 0), (310, .iconst 4, 1, 0, 0, 0), (311, .iadd, 1, 0, 0, 0), (312, .iaload, 1, 0, 0, 0), (313, .invokevirtual 32, 3, 0, 66, 0), (316, .aload_n 2, 1, 0, 0, 0), (317, .aload_n 0, 1, 0, 0, 0), (318, .iload_n 3, 1, 0, 0, 0), (319, .iconst 1, 1, 0, 0, 0), (320, .iadd, 1, 0, 0, 0), (321, .iaload, 1, 0, 0, 0), (322, .aload_n 0, 1, 0, 0, 0), (323, .iload_n 3, 1, 0, 0, 0), (324, .iconst 2, 1, 0, 0, 0), (325, .iadd, 1, 0, 0, 0), (326, .iaload, 1, 0, 0, 0), (327, .aload_n 0, 1, 0, 0, 0), (328, .iload_n 3, 1, 0, 0, 0), (329, .iconst 3, 1, 0, 0, 0), (330, .iadd, 1, 0, 0, 0), (331, .iaload, 1, 0, 0, 0), (332, .aload_n 0, 1, 0, 0, 0), (333, .iload_n 3, 1, 0, 0, 0), (334, .iconst 4, 1, 0, 0, 0), (335, .iadd, 1, 0, 0, 0), (336, .iaload, 1, 0, 0, 0), (337, .invokevirtual 36, 3, 0, 113, 0), (340, .if_icmp .eq 850, 3, 0, 0, 0), (343, .iconst 0, 1, 0, 0, 0), (344, .ireturn, 1, 0, 0, 0), (345, .aload_n 1, 1, 0, 0, 0), (346, .aload_n 0, 1, 0, 0, 0), (347, .iload_n 3, 1, 0, 0, 0), (348, .iconst 1, 1, 0, 0, 0), (349, .iadd, 1, 0, 0, 0), (350, .iaload, 1, 0, 0, 0), (351, .aload_n 0, 1, 0, 0, 0), (352, .iload_n 3, 1, 0, 0, 0), (353, .iconst 2, 1, 0, 0, 0), (354, .iadd, 1, 0, 0, 0), (355, .iaload, 1, 0, 0, 0), (356, .aload_n 0, 1, 0, 0, 0), (357, .iload_n 3, 1, 0, 0, 0), (358, .iconst 3, 1, 0, 0, 0), (359, .iadd, 1, 0, 0, 0), (360, .iaload, 1, 0, 0, 0), (361, .aload_n 0, 1, 0, 0, 0), (362, .iload_n 3, 1, 0, 0, 0), (363, .iconst 4, 1, 0, 0, 0), (364, .iadd, 1, 0, 0, 0), (365, .iaload, 1, 0, 0, 0), (366, .invokevirtual 37, 3, 0, 67, 0), (369, .aload_n 2, 1, 0, 0, 0), (370, .aload_n 0, 1, 0, 0, 0), (371, .iload_n 3, 1, 0, 0, 0), (372, .iconst 1, 1, 0, 0, 0), (373, .iadd, 1, 0, 0, 0), (374, .iaload, 1, 0, 0, 0), (375, .aload_n 0, 1, 0, 0, 0), (376, .iload_n 3, 1, 0, 0, 0), (377, .iconst 2, 1, 0, 0, 0), (378, .iadd, 1, 0, 0, 0), (379, .iaload, 1, 0, 0, 0), (380, .aload_n 0, 1, 0, 0, 0), (381, .iload_n 3, 1, 0, 0, 0), (382, .iconst 3, 1, 0, 0, 0), (383, .iadd, 1, 0, 0, 0), (384, .iaload, 1, 0, 0, 0), (385, .aload_n 0, 1, 0, 0, 0), (386, .iload_n 3, 1, 0, 0, 0), (387, .iconst 4, 1, 0, 0, 0), (388, .iadd, 1, 0, 0, 0), (389, .iaload, 1, 0, 0, 0), (390, .invokevirtual 40, 3, 0, 116, 0), (393, .if_icmp .eq 797, 3, 0, 0, 0), (396, .iconst 0, 1, 0, 0, 0), (397, .ireturn, 1, 0, 0, 0), (398, .aload_n 1, 1, 0, 0, 0), (399, .aload_n 0, 1, 0, 0, 0), (400, .iload_n 3, 1, 0, 0, 0), (401, .iconst 1, 1, 0, 0, 0), (402, .iadd, 1, 0, 0, 0), (403, .iaload, 1, 0, 0, 0), (404, .invokevirtual 41, 3, 0, 68, 0), (407, .aload_n 2, 1, 0, 0, 0), (408, .aload_n 0, 1, 0, 0, 0), (409, .iload_n 3, 1, 0, 0, 0), (410, .iconst 1, 1, 0, 0, 0), (411, .iadd, 1, 0, 0, 0), (412, .iaload, 1, 0, 0, 0), (413, .invokevirtual 45, 3, 0, 117, 0), (416, .if_icmp .eq 774, 3, 0, 0, 0), (419, .iconst 0, 1, 0, 0, 0), (420, .ireturn, 1, 0, 0, 0), (421, .aload_n 1, 1, 0, 0, 0), (422, .aload_n 0, 1, 0, 0, 0), (423, .iload_n 3, 1, 0, 0, 0), (424, .iconst 1, 1, 0, 0, 0), (425, .iadd, 1, 0, 0, 0), (426, .iaload, 1, 0, 0, 0), (427, .invokevirtual 46, 3, 0, 69, 0), (430, .aload_n 2, 1, 0, 0, 0), (431, .aload_n 0, 1, 0, 0, 0), (432, .iload_n 3, 1, 0, 0, 0), (433, .iconst 1, 1, 0, 0, 0), (434, .iadd, 1, 0, 0, 0), (435, .iaload, 1, 0, 0, 0), (436, .invokevirtual 49, 3, 0, 118, 0), (439, .if_icmp .eq 751, 3, 0, 0, 0), (442, .iconst 0, 1, 0, 0, 0), (443, .ireturn, 1, 0, 0, 0), (444, .aload_n 1, 1, 0, 0, 0), (445, .aload_n 0, 1, 0, 0, 0), (446, .iload_n 3, 1, 0, 0, 0), (447, .iconst 1, 1, 0, 0, 0), (448, .iadd, 1, 0, 0, 0), (449, .iaload, 1, 0, 0, 0), (450, .aload_n 0, 1, 0, 0, 0), (451, .iload_n 3, 1, 0, 0, 0), (452, .iconst 2, 1, 0, 0, 0), (453, .iadd, 1, 0, 0, 0), (454, .iaload, 1, 0, 0, 0), (455, .aload_n 0, 1, 0, 0, 0), (456, .iload_n 3, 1, 0, 0, 0), (457, .iconst 3, 1, 0, 0, 0), (458, .iadd, 1, 0, 0, 0), (459, .iaload, 1, 0, 0, 0), (460, .aload_n 0, 1, 0, 0, 0), (461, .iload_n 3, 1, 0, 0, 0), (462, .iconst 4, 1, 0, 0, 0), (463, .iadd, 1, 0, 0, 0), (464, .iaload, 1, 0, 0, 0), (465, .aload_n 0, 1, 0, 0, 0), (466, .iload_n 3, 1, 0, 0, 0), (467, .iconst 5, 1, 0, 0, 0), (468, .iadd, 1, 0, 0, 0), (469, .iaload, 1, 0, 0, 0), (470, .invokevirtual 50, 3, 0, 70, 0), (473, .aload_n 2, 1, 0, 0, 0), (474, .aload_n 0, 1, 0, 0, 0), (475, .iload_n 3, 1, 0, 0, 0), (476, .iconst 1, 1, 0, 0, 0), (477, .iadd, 1, 0, 0, 0), (478, .iaload, 1, 0, 0, 0), (479, .aload_n 0, 1, 0, 0, 0), (480, .iload_n 3, 1, 0, 0, 0), (481, .iconst 2, 1, 0, 0, 0), (482, .iadd, 1, 0, 0, 0), (483, .iaload, 1, 0, 0, 0), (484, .aload_n 0, 1, 0, 0, 0), (485, .iload_n 3, 1, 0, 0, 0), (486, .iconst 3, 1, 0, 0, 0), (487, .iadd, 1, 0, 0, 0), (488, .iaload, 1, 0, 0, 0), (489, .aload_n 0, 1, 0, 0, 0), (490, .iload_n 3, 1, 0, 0, 0), (491, .iconst 4, 1, 0, 0, 0), (492, .iadd, 1, 0, 0, 0), (493, .iaload, 1, 0, 0, 0), (494, .aload_n 0, 1, 0, 0, 0), (495, .iload_n 3, 1, 0, 0, 0), (496, .iconst 5, 1, 0, 0, 0), (497, .iadd, 1, 0, 0, 0), (498, .iaload, 1, 0, 0, 0), (499, .invokevirtual 54, 3, 0, 119, 0), (502, .if_icmp .eq 688, 3, 0, 0, 0), (505, .iconst 0, 1, 0, 0, 0), (506, .ireturn, 1, 0, 0, 0), (507, .aload_n 1, 1, 0, 0, 0), (508, .aload_n 0, 1, 0, 0, 0), (509, .iload_n 3, 1, 0, 0, 0), (510, .iconst 1, 1, 0, 0, 0), (511, .iadd, 1, 0, 0, 0), (512, .iaload, 1, 0, 0, 0), (513, .invokevirtual 55, 3, 0, 71, 0), (516, .aload_n 2, 1, 0, 0, 0), (517, .aload_n 0, 1, 0, 0, 0), (518, .iload_n 3, 1, 0, 0, 0), (519, .iconst 1, 1, 0, 0, 0), (520, .iadd, 1, 0, 0, 0), (521, .iaload, 1, 0, 0, 0), (522, .invokevirtual 58, 3, 0, 121, 0), (525, .if_icmp .eq 665, 3, 0, 0, 0), (528, .iconst 0, 1, 0, 0, 0), (529, .ireturn, 1, 0, 0, 0), (530, .aload_n 1, 1, 0, 0, 0), (531, .invokevirtual 59, 3, 0, 72, 0), (534, .aload_n 2, 1, 0, 0, 0), (535, .invokevirtual 63, 3, 0, 137, 0), (538, .if_icmp .eq 652, 3, 0, 0, 0), (541, .iconst 0, 1, 0, 0, 0), (542, .ireturn, 1, 0, 0, 0), (543, .aload_n 1, 1, 0, 0, 0), (544, .aload_n 0, 1, 0, 0, 0), (545, .iload_n 3, 1, 0, 0, 0), (546, .iconst 1, 1, 0, 0, 0), (547, .iadd, 1, 0, 0, 0), (548, .iaload, 1, 0, 0, 0), (549, .invokevirtual 64, 3, 0, 73, 0), (552, .aload_n 2, 1, 0, 0, 0), (553, .aload_n 0, 1, 0, 0, 0), (554, .iload_n 3, 1, 0, 0, 0), (555, .iconst 1, 1, 0, 0, 0), (556, .iadd, 1, 0, 0, 0), (557, .iaload, 1, 0, 0, 0), (558, .invokevirtual 67, 3, 0, 138, 0), (561, .if_icmp .eq 629, 3, 0, 0, 0), (564, .iconst 0, 1, 0, 0, 0), (565, .ireturn, 1, 0, 0, 0), (566, .aload_n 1, 1, 0, 0, 0), (567, .aload_n 0, 1, 0, 0, 0), (568, .iload_n 3, 1, 0, 0, 0), (569, .iconst 1, 1, 0, 0, 0), (570, .iadd, 1, 0, 0, 0), (571, .iaload, 1, 0, 0, 0), (572, .aload_n 0, 1, 0, 0, 0), (573, .iload_n 3, 1, 0, 0, 0), (574, .iconst 2, 1, 0, 0, 0), (575, .iadd, 1, 0, 0, 0), (576, .iaload, 1, 0, 0, 0), (577, .aload_n 0, 1, 0, 0, 0), (578, .iload_n 3, 1, 0, 0, 0), (579, .iconst 3, 1, 0, 0, 0), (580, .iadd, 1, 0, 0, 0), (581, .iaload, 1, 0, 0, 0), (582, .aload_n 0, 1, 0, 0, 0), (583, .iload_n 3, 1, 0, 0, 0), (584, .iconst 4, 1, 0, 0, 0), (585, .iadd, 1, 0, 0, 0), (586, .iaload, 1, 0, 0, 0), (587, .invokevirtual 68, 3, 0, 74, 0), (590, .aload_n 2, 1, 0, 0, 0), (591, .aload_n 0, 1, 0, 0, 0), (592, .iload_n 3, 1, 0, 0, 0), (593, .iconst 1, 1, 0, 0, 0), (594, .iadd, 1, 0, 0, 0), (595, .iaload, 1, 0, 0, 0), (596, .aload_n 0, 1, 0, 0, 0), (597, .iload_n 3, 1, 0, 0, 0), (598, .iconst 2, 1, 0, 0, 0), (599, .iadd, 1, 0, 0, 0), (600, .iaload, 1, 0, 0, 0), (601, .aload_n 0, 1, 0, 0, 0), (602, .iload_n 3, 1, 0, 0, 0), (603, .iconst 3, 1, 0, 0, 0), (604, .iadd, 1, 0, 0, 0), (605, .iaload, 1, 0, 0, 0), (606, .aload_n 0, 1, 0, 0, 0), (607, .iload_n 3, 1, 0, 0, 0), (608, .iconst 4, 1, 0, 0, 0), (609, .iadd, 1, 0, 0, 0), (610, .iaload, 1, 0, 0, 0), (611, .invokevirtual 71, 3, 0, 141, 0), (614, .if_icmp .eq 576, 3, 0, 0, 0), (617, .iconst 0, 1, 0, 0, 0), (618, .ireturn, 1, 0, 0, 0), (619, .aload_n 1, 1, 0, 0, 0), (620, .aload_n 0, 1, 0, 0, 0), (621, .iload_n 3, 1, 0, 0, 0), (622, .iconst 1, 1, 0, 0, 0), (623, .iadd, 1, 0, 0, 0), (624, .iaload, 1, 0, 0, 0), (625, .aload_n 0, 1, 0, 0, 0), (626, .iload_n 3, 1, 0, 0, 0), (627, .iconst 2, 1, 0, 0, 0), (628, .iadd, 1, 0, 0, 0), (629, .iaload, 1, 0, 0, 0), (630, .aload_n 0, 1, 0, 0, 0), (631, .iload_n 3, 1, 0, 0, 0), (632, .iconst 3, 1, 0, 0, 0), (633, .iadd, 1, 0, 0, 0), (634, .iaload, 1, 0, 0, 0), (635, .ifCond .eq 7, 3, 0, 0, 0), (638, .iconst 1, 1, 0, 0, 0), (639, .goto 4, 3, 0, 0, 0), (642, .iconst 0, 1, 0, 0, 0), (643, .invokevirtual 72, 3, 0, 75, 0), (646, .aload_n 2, 1, 0, 0, 0), (647, .aload_n 0, 1, 0, 0, 0), (648, .iload_n 3, 1, 0, 0, 0), (649, .iconst 1, 1, 0, 0, 0), (650, .iadd, 1, 0, 0, 0), (651, .iaload, 1, 0, 0, 0), (652, .aload_n 0, 1, 0, 0, 0), (653, .iload_n 3, 1, 0, 0, 0), (654, .iconst 2, 1, 0, 0, 0), (655, .iadd, 1, 0, 0, 0), (656, .iaload, 1, 0, 0, 0), (657, .aload_n 0, 1, 0, 0, 0), (658, .iload_n 3, 1, 0, 0, 0), (659, .iconst 3, 1, 0, 0, 0), (660, .iadd, 1, 0, 0, 0), (661, .iaload, 1, 0, 0, 0), (662, .ifCond .eq 7, 3, 0, 0, 0), (665, .iconst 1, 1, 0, 0, 0), (666, .goto 4, 3, 0, 0, 0), (669, .iconst 0, 1, 0, 0, 0), (670, .invokevirtual 76, 3, 0, 143, 0), (673, .if_icmp .eq 517, 3, 0, 0, 0), (676, .iconst 0, 1, 0, 0, 0), (677, .ireturn, 1, 0, 0, 0), (678, .aload_n 1, 1, 0, 0, 0), (679, .aload_n 0, 1, 0, 0, 0), (680, .iload_n 3, 1, 0, 0, 0), (681, .iconst 1, 1, 0, 0, 0), (682, .iadd, 1, 0, 0, 0), (683, .iaload, 1, 0, 0, 0), (684, .invokevirtual 77, 3, 0, 76, 0), (687, .aload_n 2, 1, 0, 0, 0), (688, .aload_n 0, 1, 0, 0, 0), (689, .iload_n 3, 1, 0, 0, 0), (690, .iconst 1, 1, 0, 0, 0), (691, .iadd, 1, 0, 0, 0), (692, .iaload, 1, 0, 0, 0), (693, .invokevirtual 80, 3, 0, 144, 0), (696, .if_icmp .eq 494, 3, 0, 0, 0), (699, .iconst 0, 1, 0, 0, 0), (700, .ireturn, 1, 0, 0, 0), (701, .aload_n 1, 1, 0, 0, 0), (702, .aload_n 0, 1, 0, 0, 0), (703, .iload_n 3, 1, 0, 0, 0), (704, .iconst 1, 1, 0, 0, 0), (705, .iadd, 1, 0, 0, 0), (706, .iaload, 1, 0, 0, 0), (707, .aload_n 0, 1, 0, 0, 0), (708, .iload_n 3, 1, 0, 0, 0), (709, .iconst 2, 1, 0, 0, 0), (710, .iadd, 1, 0, 0, 0), (711, .iaload, 1, 0, 0, 0), (712, .invokevirtual 81, 3, 0, 77, 0), (715, .aload_n 2, 1, 0, 0, 0), (716, .aload_n 0, 1, 0, 0, 0), (717, .iload_n 3, 1, 0, 0, 0), (718, .iconst 1, 1, 0, 0, 0), (719, .iadd, 1, 0, 0, 0), (720, .iaload, 1, 0, 0, 0), (721, .aload_n 0, 1, 0, 0, 0), (722, .iload_n 3, 1, 0, 0, 0), (723, .iconst 2, 1, 0, 0, 0), (724, .iadd, 1, 0, 0, 0), (725, .iaload, 1, 0, 0, 0), (726, .invokevirtual 85, 3, 0, 150, 0), (729, .if_icmp .eq 461, 3, 0, 0, 0), (732, .iconst 0, 1, 0, 0, 0), (733, .ireturn, 1, 0, 0, 0), (734, .aload_n 1, 1, 0, 0, 0), (735, .aload_n 0, 1, 0, 0, 0), (736, .iload_n 3, 1, 0, 0, 0), (737, .iconst 1, 1, 0, 0, 0), (738, .iadd, 1, 0, 0, 0), (739, .iaload, 1, 0, 0, 0), (740, .aload_n 0, 1, 0, 0, 0), (741, .iload_n 3, 1, 0, 0, 0), (742, .iconst 2, 1, 0, 0, 0), (743, .iadd, 1, 0, 0, 0), (744, .iaload, 1, 0, 0, 0), (745, .invokevirtual 86, 3, 0, 78, 0), (748, .aload_n 2, 1, 0, 0, 0), (749, .aload_n 0, 1, 0, 0, 0), (750, .iload_n 3, 1, 0, 0, 0), (751, .iconst 1, 1, 0, 0, 0), (752, .iadd, 1, 0, 0, 0), (753, .iaload, 1, 0, 0, 0), (754, .aload_n 0, 1, 0, 0, 0), (755, .iload_n 3, 1, 0, 0, 0), (756, .iconst 2, 1, 0, 0, 0), (757, .iadd, 1, 0, 0, 0), (758, .iaload, 1, 0, 0, 0), (759, .invokevirtual 89, 3, 0, 151, 0), (762, .if_icmp .eq 428, 3, 0, 0, 0), (765, .iconst 0, 1, 0, 0, 0), (766, .ireturn, 1, 0, 0, 0), (767, .aload_n 1, 1, 0, 0, 0), (768, .aload_n 0, 1, 0, 0, 0), (769, .iload_n 3, 1, 0, 0, 0), (770, .iconst 1, 1, 0, 0, 0), (771, .iadd, 1, 0, 0, 0), (772, .iaload, 1, 0, 0, 0), (773, .aload_n 0, 1, 0, 0, 0), (774, .iload_n 3, 1, 0, 0, 0), (775, .iconst 2, 1, 0, 0, 0), (776, .iadd, 1, 0, 0, 0), (777, .iaload, 1, 0, 0, 0), (778, .aload_n 0, 1, 0, 0, 0), (779, .iload_n 3, 1, 0, 0, 0), (780, .iconst 3, 1, 0, 0, 0), (781, .iadd, 1, 0, 0, 0), (782, .iaload, 1, 0, 0, 0), (783, .invokevirtual 90, 3, 0, 79, 0), (786, .aload_n 2, 1, 0, 0, 0), (787, .aload_n 0, 1, 0, 0, 0), (788, .iload_n 3, 1, 0, 0, 0), (789, .iconst 1, 1, 0, 0, 0), (790, .iadd, 1, 0, 0, 0), (791, .iaload, 1, 0, 0, 0), (792, .aload_n 0, 1, 0, 0, 0), (793, .iload_n 3, 1, 0, 0, 0), (794, .iconst 2, 1, 0, 0, 0), (795, .iadd, 1, 0, 0, 0), (796, .iaload, 1, 0, 0, 0), (797, .aload_n 0, 1, 0, 0, 0), (798, .iload_n 3, 1, 0, 0, 0), (799, .iconst 3, 1, 0, 0, 0), (800, .iadd, 1, 0, 0, 0), (801, .iaload, 1, 0, 0, 0), (802, .invokevirtual 94, 3, 0, 152, 0), (805, .if_icmp .eq 385, 3, 0, 0, 0), (808, .iconst 0, 1, 0, 0, 0), (809, .ireturn, 1, 0, 0, 0), (810, .aload_n 1, 1, 0, 0, 0), (811, .aload_n 0, 1, 0, 0, 0), (812, .iload_n 3, 1, 0, 0, 0), (813, .iconst 1, 1, 0, 0, 0), (814, .iadd, 1, 0, 0, 0), (815, .iaload, 1, 0, 0, 0), (816, .aload_n 0, 1, 0, 0, 0), (817, .iload_n 3, 1, 0, 0, 0), (818, .iconst 2, 1, 0, 0, 0), (819, .iadd, 1, 0, 0, 0), (820, .iaload, 1, 0, 0, 0), (821, .aload_n 0, 1, 0, 0, 0), (822, .iload_n 3, 1, 0, 0, 0), (823, .iconst 3, 1, 0, 0, 0), (824, .iadd, 1, 0, 0, 0), (825, .iaload, 1, 0, 0, 0), (826, .aload_n 0, 1, 0, 0, 0), (827, .iload_n 3, 1, 0, 0, 0), (828, .iconst 4, 1, 0, 0, 0), (829, .iadd, 1, 0, 0, 0), (830, .iaload, 1, 0, 0, 0), (831, .invokevirtual 95, 3, 0, 80, 0), (834, .aload_n 2, 1, 0, 0, 0), (835, .aload_n 0, 1, 0, 0, 0), (836, .iload_n 3, 1, 0, 0, 0), (837, .iconst 1, 1, 0, 0, 0), (838, .iadd, 1, 0, 0, 0), (839, .iaload, 1, 0, 0, 0), (840, .aload_n 0, 1, 0, 0, 0), (841, .iload_n 3, 1, 0, 0, 0), (842, .iconst 2, 1, 0, 0, 0), (843, .iadd, 1, 0, 0, 0), (844, .iaload, 1, 0, 0, 0), (845, .aload_n 0, 1, 0, 0, 0), (846, .iload_n 3, 1, 0, 0, 0), (847, .iconst 3, 1, 0, 0, 0), (848, .iadd, 1, 0, 0, 0), (849, .iaload, 1, 0, 0, 0), (850, .aload_n 0, 1, 0, 0, 0), (851, .iload_n 3, 1, 0, 0, 0), (852, .iconst 4, 1, 0, 0, 0), (853, .iadd, 1, 0, 0, 0), (854, .iaload, 1, 0, 0, 0), (855, .invokevirtual 98, 3, 0, 155, 0), (858, .if_icmp .eq 332, 3, 0, 0, 0), (861, .iconst 0, 1, 0, 0, 0), (862, .ireturn, 1, 0, 0, 0), (863, .aload_n 1, 1, 0, 0, 0), (864, .aload_n 0, 1, 0, 0, 0), (865, .iload_n 3, 1, 0, 0, 0), (866, .iconst 1, 1, 0, 0, 0), (867, .iadd, 1, 0, 0, 0), (868, .iaload, 1, 0, 0, 0), (869, .aload_n 0, 1, 0, 0, 0), (870, .iload_n 3, 1, 0, 0, 0), (871, .iconst 2, 1, 0, 0, 0), (872, .iadd, 1, 0, 0, 0), (873, .iaload, 1, 0, 0, 0), (874, .aload_n 0, 1, 0, 0, 0), (875, .iload_n 3, 1, 0, 0, 0), (876, .iconst 3, 1, 0, 0, 0), (877, .iadd, 1, 0, 0, 0), (878, .iaload, 1, 0, 0, 0), (879, .aload_n 0, 1, 0, 0, 0), (880, .iload_n 3, 1, 0, 0, 0), (881, .iconst 4, 1, 0, 0, 0), (882, .iadd, 1, 0, 0, 0), (883, .iaload, 1, 0, 0, 0), (884, .invokevirtual 99, 3, 0, 81, 0), (887, .aload_n 2, 1, 0, 0, 0), (888, .aload_n 0, 1, 0, 0, 0), (889, .iload_n 3, 1, 0, 0, 0), (890, .iconst 1, 1, 0, 0, 0), (891, .iadd, 1, 0, 0, 0), (892, .iaload, 1, 0, 0, 0), (893, .aload_n 0, 1, 0, 0, 0), (894, .iload_n 3, 1, 0, 0, 0), (895, .iconst 2, 1, 0, 0, 0), (896, .iadd, 1, 0, 0, 0), (897, .iaload, 1, 0, 0, 0), (898, .aload_n 0, 1, 0, 0, 0), (899, .iload_n 3, 1, 0, 0, 0), (900, .iconst 3, 1, 0, 0, 0), (901, .iadd, 1, 0, 0, 0), (902, .iaload, 1, 0, 0, 0), (903, .aload_n 0, 1, 0, 0, 0), (904, .iload_n 3, 1, 0, 0, 0), (905, .iconst 4, 1, 0, 0, 0), (906, .iadd, 1, 0, 0, 0), (907, .iaload, 1, 0, 0, 0), (908, .invokevirtual 102, 3, 0, 156, 0), (911, .if_icmp .eq 279, 3, 0, 0, 0), (914, .iconst 0, 1, 0, 0, 0), (915, .ireturn, 1, 0, 0, 0), (916, .aload_n 1, 1, 0, 0, 0), (917, .aload_n 0, 1, 0, 0, 0), (918, .iload_n 3, 1, 0, 0, 0), (919, .iconst 1, 1, 0, 0, 0), (920, .iadd, 1, 0, 0, 0), (921, .iaload, 1, 0, 0, 0), (922, .aload_n 0, 1, 0, 0, 0), (923, .iload_n 3, 1, 0, 0, 0), (924, .iconst 2, 1, 0, 0, 0), (925, .iadd, 1, 0, 0, 0), (926, .iaload, 1, 0, 0, 0), (927, .aload_n 0, 1, 0, 0, 0), (928, .iload_n 3, 1, 0, 0, 0), (929, .iconst 3, 1, 0, 0, 0), (930, .iadd, 1, 0, 0, 0), (931, .iaload, 1, 0, 0, 0), (932, .aload_n 0, 1, 0, 0, 0), (933, .iload_n 3, 1, 0, 0, 0), (934, .iconst 4, 1, 0, 0, 0), (935, .iadd, 1, 0, 0, 0), (936, .iaload, 1, 0, 0, 0), (937, .invokevirtual 103, 3, 0, 82, 0), (940, .aload_n 2, 1, 0, 0, 0), (941, .aload_n 0, 1, 0, 0, 0), (942, .iload_n 3, 1, 0, 0, 0), (943, .iconst 1, 1, 0, 0, 0), (944, .iadd, 1, 0, 0, 0), (945, .iaload, 1, 0, 0, 0), (946, .aload_n 0, 1, 0, 0, 0), (947, .iload_n 3, 1, 0, 0, 0), (948, .iconst 2, 1, 0, 0, 0), (949, .iadd, 1, 0, 0, 0), (950, .iaload, 1, 0, 0, 0), (951, .aload_n 0, 1, 0, 0, 0), (952, .iload_n 3, 1, 0, 0, 0), (953, .iconst 3, 1, 0, 0, 0), (954, .iadd, 1, 0, 0, 0), (955, .iaload, 1, 0, 0, 0), (956, .aload_n 0, 1, 0, 0, 0), (957, .iload_n 3, 1, 0, 0, 0), (958, .iconst 4, 1, 0, 0, 0), (959, .iadd, 1, 0, 0, 0), (960, .iaload, 1, 0, 0, 0), (961, .invokevirtual 106, 3, 0, 157, 0), (964, .if_icmp .eq 226, 3, 0, 0, 0), (967, .iconst 0, 1, 0, 0, 0), (968, .ireturn, 1, 0, 0, 0), (969, .aload_n 1, 1, 0, 0, 0), (970, .aload_n 0, 1, 0, 0, 0), (971, .iload_n 3, 1, 0, 0, 0), (972, .iconst 1, 1, 0, 0, 0), (973, .iadd, 1, 0, 0, 0), (974, .iaload, 1, 0, 0, 0), (975, .aload_n 0, 1, 0, 0, 0), (976, .iload_n 3, 1, 0, 0, 0), (977, .iconst 2, 1, 0, 0, 0), (978, .iadd, 1, 0, 0, 0), (979, .iaload, 1, 0, 0, 0), (980, .aload_n 0, 1, 0, 0, 0), (981, .iload_n 3, 1, 0, 0, 0), (982, .iconst 3, 1, 0, 0, 0), (983, .iadd, 1, 0, 0, 0), (984, .iaload, 1, 0, 0, 0), (985, .invokevirtual 107, 3, 0, 83, 0), (988, .aload_n 2, 1, 0, 0, 0), (989, .aload_n 0, 1, 0, 0, 0), (990, .iload_n 3, 1, 0, 0, 0), (991, .iconst 1, 1, 0, 0, 0), (992, .iadd, 1, 0, 0, 0), (993, .iaload, 1, 0, 0, 0), (994, .aload_n 0, 1, 0, 0, 0), (995, .iload_n 3, 1, 0, 0, 0), (996, .iconst 2, 1, 0, 0, 0), (997, .iadd, 1, 0, 0, 0), (998, .iaload, 1, 0, 0, 0), (999, .aload_n 0, 1, 0, 0, 0), (1000, .iload_n 3, 1, 0, 0, 0), (1001, .iconst 3, 1, 0, 0, 0), (1002, .iadd, 1, 0, 0, 0), (1003, .iaload, 1, 0, 0, 0), (1004, .invokevirtual 110, 3, 0, 145, 0), (1007, .if_icmp .eq 183, 3, 0, 0, 0), (1010, .iconst 0, 1, 0, 0, 0), (1011, .ireturn, 1, 0, 0, 0), (1012, .aload_n 1, 1, 0, 0, 0), (1013, .aload_n 0, 1, 0, 0, 0), (1014, .iload_n 3, 1, 0, 0, 0), (1015, .iconst 1, 1, 0, 0, 0), (1016, .iadd, 1, 0, 0, 0), (1017, .iaload, 1, 0, 0, 0), (1018, .invokevirtual 111, 3, 0, 84, 0), (1021, .aload_n 2, 1, 0, 0, 0), (1022, .aload_n 0, 1, 0, 0, 0), (1023, .iload_n 3, 1, 0, 0, 0), (1024, .iconst 1, 1, 0, 0, 0), (1025, .iadd, 1, 0, 0, 0), (1026, .iaload, 1, 0, 0, 0), (1027, .invokevirtual 114, 3, 0, 146, 0), (1030, .if_icmp .eq 160, 3, 0, 0, 0), (1033, .iconst 0, 1, 0, 0, 0), (1034, .ireturn, 1, 0, 0, 0), (1035, .aload_n 1, 1, 0, 0, 0), (1036, .aload_n 0, 1, 0, 0, 0), (1037, .iload_n 3, 1, 0, 0, 0), (1038, .iconst 1, 1, 0, 0, 0), (1039, .iadd, 1, 0, 0, 0), (1040, .iaload, 1, 0, 0, 0), (1041, .invokevirtual 115, 3, 0, 85, 0), (1044, .aload_n 2, 1, 0, 0, 0), (1045, .aload_n 0, 1, 0, 0, 0), (1046, .iload_n 3, 1, 0, 0, 0), (1047, .iconst 1, 1, 0, 0, 0), (1048, .iadd, 1, 0, 0, 0), (1049, .iaload, 1, 0, 0, 0), (1050, .invokevirtual 118, 3, 0, 160, 0), (1053, .if_icmp .eq 137, 3, 0, 0, 0), (1056, .iconst 0, 1, 0, 0, 0), (1057, .ireturn, 1, 0, 0, 0), (1058, .aload_n 1, 1, 0, 0, 0), (1059, .aload_n 0, 1, 0, 0, 0), (1060, .iload_n 3, 1, 0, 0, 0), (1061, .iconst 1, 1, 0, 0, 0), (1062, .iadd, 1, 0, 0, 0), (1063, .iaload, 1, 0, 0, 0), (1064, .aload_n 0, 1, 0, 0, 0), (1065, .iload_n 3, 1, 0, 0, 0), (1066, .iconst 2, 1, 0, 0, 0), (1067, .iadd, 1, 0, 0, 0), (1068, .iaload, 1, 0, 0, 0), (1069, .aload_n 0, 1, 0, 0, 0), (1070, .iload_n 3, 1, 0, 0, 0), (1071, .iconst 3, 1, 0, 0, 0), (1072, .iadd, 1, 0, 0, 0), (1073, .iaload, 1, 0, 0, 0), (1074, .invokevirtual 119, 3, 0, 86, 0), (1077, .aload_n 2, 1, 0, 0, 0), (1078, .aload_n 0, 1, 0, 0, 0), (1079, .iload_n 3, 1, 0, 0, 0), (1080, .iconst 1, 1, 0, 0, 0), (1081, .iadd, 1, 0, 0, 0), (1082, .iaload, 1, 0, 0, 0), (1083, .aload_n 0, 1, 0, 0, 0), (1084, .iload_n 3, 1, 0, 0, 0), (1085, .iconst 2, 1, 0, 0, 0), (1086, .iadd, 1, 0, 0, 0), (1087, .iaload, 1, 0, 0, 0), (1088, .aload_n 0, 1, 0, 0, 0), (1089, .iload_n 3, 1, 0, 0, 0), (1090, .iconst 3, 1, 0, 0, 0), (1091, .iadd, 1, 0, 0, 0), (1092, .iaload, 1, 0, 0, 0), (1093, .invokevirtual 122, 3, 0, 162, 0), (1096, .if_icmp .eq 94, 3, 0, 0, 0), (1099, .iconst 0, 1, 0, 0, 0), (1100, .ireturn, 1, 0, 0, 0), (1101, .aload_n 1, 1, 0, 0, 0), (1102, .aload_n 0, 1, 0, 0, 0), (1103, .iload_n 3, 1, 0, 0, 0), (1104, .iconst 1, 1, 0, 0, 0), (1105, .iadd, 1, 0, 0, 0), (1106, .iaload, 1, 0, 0, 0), (1107, .aload_n 0, 1, 0, 0, 0), (1108, .iload_n 3, 1, 0, 0, 0), (1109, .iconst 2, 1, 0, 0, 0), (1110, .iadd, 1, 0, 0, 0), (1111, .iaload, 1, 0, 0, 0), (1112, .invokevirtual 123, 3, 0, 87, 0), (1115, .aload_n 2, 1, 0, 0, 0), (1116, .aload_n 0, 1, 0, 0, 0), (1117, .iload_n 3, 1, 0, 0, 0), (1118, .iconst 1, 1, 0, 0, 0), (1119, .iadd, 1, 0, 0, 0), (1120, .iaload, 1, 0, 0, 0), (1121, .aload_n 0, 1, 0, 0, 0), (1122, .iload_n 3, 1, 0, 0, 0), (1123, .iconst 2, 1, 0, 0, 0), (1124, .iadd, 1, 0, 0, 0), (1125, .iaload, 1, 0, 0, 0), (1126, .invokevirtual 126, 3, 0, 163, 0), (1129, .if_icmp .eq 61, 3, 0, 0, 0), (1132, .iconst 0, 1, 0, 0, 0), (1133, .ireturn, 1, 0, 0, 0), (1134, .aload_n 1, 1, 0, 0, 0), (1135, .aload_n 0, 1, 0, 0, 0), (1136, .iload_n 3, 1, 0, 0, 0), (1137, .iconst 1, 1, 0, 0, 0), (1138, .iadd, 1, 0, 0, 0), (1139, .iaload, 1, 0, 0, 0), (1140, .aload_n 0, 1, 0, 0, 0), (1141, .iload_n 3, 1, 0, 0, 0), (1142, .iconst 2, 1, 0, 0, 0), (1143, .iadd, 1, 0, 0, 0), (1144, .iaload, 1, 0, 0, 0), (1145, .invokevirtual 127, 3, 0, 88, 0), (1148, .aload_n 2, 1, 0, 0, 0), (1149, .aload_n 0, 1, 0, 0, 0), (1150, .iload_n 3, 1, 0, 0, 0), (1151, .iconst 1, 1, 0, 0, 0), (1152, .iadd, 1, 0, 0, 0), (1153, .iaload, 1, 0, 0, 0), (1154, .aload_n 0, 1, 0, 0, 0), (1155, .iload_n 3, 1, 0, 0, 0), (1156, .iconst 2, 1, 0, 0, 0), (1157, .iadd, 1, 0, 0, 0), (1158, .iaload, 1, 0, 0, 0), (1159, .invokevirtual 130, 3, 0, 164, 0), (1162, .if_icmp .eq 28, 3, 0, 0, 0), (1165, .iconst 0, 1, 0, 0, 0), (1166, .ireturn, 1, 0, 0, 0), (1167, .aload_n 1, 1, 0, 0, 0), (1168, .aload_n 0, 1, 0, 0, 0), (1169, .iload_n 3, 1, 0, 0, 0), (1170, .iconst 1, 1, 0, 0, 0), (1171, .iadd, 1, 0, 0, 0), (1172, .iaload, 1, 0, 0, 0), (1173, .invokevirtual 131, 3, 0, 89, 0), (1176, .aload_n 2, 1, 0, 0, 0), (1177, .aload_n 0, 1, 0, 0, 0), (1178, .iload_n 3, 1, 0, 0, 0), (1179, .iconst 1, 1, 0, 0, 0), (1180, .iadd, 1, 0, 0, 0), (1181, .iaload, 1, 0, 0, 0), (1182, .invokevirtual 134, 3, 0, 165, 0), (1185, .if_icmp .eq 5, 3, 0, 0, 0), (1188, .iconst 0, 1, 0, 0, 0), (1189, .ireturn, 1, 0, 0, 0), (1190, .iinc 3 6, 3, 0, 0, 0), (1193, .goto (-1175), 3, 0, 0, 0), (1196, .iconst 1, 1, 0, 0, 0), (1197, .ireturn, 1, 0, 0, 0)] -- L_law
def rnL : List String := [RX0, RX1, RX2, RX3, RX4, RX5, RX6, RX7, RX8, RX9, RX10, RX11, RX12, RL, RJ6, RJ0, RJ1, RJ3]
def rn_ (o : Nat) : String := rnL.getD o ""
def mT0 : List (MethodName × ByteArray × Nat × Option FieldType × Nat × Nat) := [(yX0_init, cX0_init, 1, none, 0, 2), (yX0_clear, cX0_clear, 1, none, 0, 1), (yX0_addStep, cX0_addStep, 4, none, 0, 1), (yX0_closeLine, cX0_closeLine, 2, none, 0, 1), (yX0_sum, cX0_sum, 8, (some .int), 0, 1), (yX0_isMet, cX0_isMet, 10, (some .boolean), 0, 1), (yX0_isTestMet, cX0_isTestMet, 9, (some .boolean), 0, 1), (yX1_init, cX1_init, 3, none, 1, 2), (yX1_tell, cX1_tell, 6, (some .int), 1, 1), (yX1_untell, cX1_untell, 3, (some .boolean), 1, 1), (yX1_isHeld, cX1_isHeld, 3, (some .boolean), 1, 1), (yX2_init, cX2_init, 1, none, 2, 2), (yX2_readAll, cX2_readAll, 4, (some .boolean), 2, 1), (yX2_stop, cX2_stop, 3, (some .boolean), 2, 1), (yX2_readLine, cX2_readLine, 5, (some .boolean), 2, 1), (yX2_readNumber, cX2_readNumber, 4, (some .boolean), 2, 1), (yX2_readEither, cX2_readEither, 7, (some .boolean), 2, 1), (yX2_readOne, cX2_readOne, 4, (some .boolean), 2, 1), (yX2_readTest, cX2_readTest, 8, (some .boolean), 2, 1), (yX3_init, cX3_init, 1, none, 3, 2), (yX3_personOf, cX3_personOf, 2, (some .int), 3, 1), (yX3_gather, cX3_gather, 3, none, 3, 1), (yX3_bind, cX3_bind, 7, none, 3, 1), (yX3_weighPairs, cX3_weighPairs, 6, none, 3, 1), (yX3_choose, cX3_choose, 4, none, 3, 1)]
def mT1 : List (MethodName × ByteArray × Nat × Option FieldType × Nat × Nat) := [(yX3_weighSets, cX3_weighSets, 5, none, 3, 1), (yX3_weighBonds, cX3_weighBonds, 5, none, 3, 1), (yX3_chooseTails, cX3_chooseTails, 6, none, 3, 1), (yX3_greatestKey, cX3_greatestKey, 10, (some .long), 3, 1), (yX3_readKey, cX3_readKey, 5, none, 3, 1), (yX4_init, cX4_init, 1, none, 4, 2), (yX4_add, cX4_add, 4, (some .int), 4, 1), (yX4_isAlive, cX4_isAlive, 2, (some .boolean), 4, 1), (yX5_init, cX5_init, 1, none, 5, 2), (yX5_take, cX5_take, 6, none, 5, 1), (yX5_takeVersion, cX5_takeVersion, 4, none, 5, 1), (yX5_isThere, cX5_isThere, 2, (some .boolean), 5, 1), (yX5_valueOf, cX5_valueOf, 3, (some .int), 5, 1), (yX6_init, cX6_init, 1, none, 6, 2), (yX6_append, cX6_append, 3, none, 6, 1), (yX6_sortOf, cX6_sortOf, 1, (some .int), 6, 0), (yX6_rewind, cX6_rewind, 1, none, 6, 1), (yX6_advance, cX6_advance, 1, none, 6, 1), (yX6_takeWord, cX6_takeWord, 1, none, 6, 1), (yX6_takeNumber, cX6_takeNumber, 2, none, 6, 1), (yX6_reads, cX6_reads, 3, (some .boolean), 6, 1), (yX7_init, cX7_init, 1, none, 7, 2), (yX7_add, cX7_add, 7, none, 7, 1), (yX8_init, cX8_init, 1, none, 8, 2), (yX8_gather, cX8_gather, 9, none, 8, 1)]
def mT2 : List (MethodName × ByteArray × Nat × Option FieldType × Nat × Nat) := [(yX8_choose, cX8_choose, 6, none, 8, 1), (yX8_isAhead, cX8_isAhead, 3, (some .boolean), 8, 0), (yX8_isFirst, cX8_isFirst, 3, (some .boolean), 8, 1), (yX8_sumFor, cX8_sumFor, 4, (some .int), 8, 1), (yX8_latestFor, cX8_latestFor, 4, (some .int), 8, 1), (yX8_strongestFor, cX8_strongestFor, 5, (some .int), 8, 1), (yX9_init, cX9_init, 2, none, 9, 2), (yX9_weight, cX9_weight, 7, (some .int), 9, 1), (yX10_init, cX10_init, 3, none, 10, 2), (yX10_add, cX10_add, 4, none, 10, 1), (yX10_has, cX10_has, 5, (some .boolean), 10, 1), (yX11_init, cX11_init, 1, none, 11, 2), (yX11_trust, cX11_trust, 4, (some .boolean), 11, 1), (yX11_fade, cX11_fade, 3, (some .boolean), 11, 1), (yX11_rights, cX11_rights, 3, (some .boolean), 11, 1), (yX11_row, cX11_row, 2, (some .int), 11, 1), (yX11_set, cX11_set, 5, (some .int), 11, 1), (yX11_value, cX11_value, 5, (some .int), 11, 1), (yX11_forget, cX11_forget, 2, (some .boolean), 11, 1), (yX11_later, cX11_later, 2, (some .int), 11, 1), (yX11_feed, cX11_feed, 6, (some .int), 11, 1), (yX11_end, cX11_end, 2, (some .int), 11, 1), (yX11_rules, cX11_rules, 3, (some .int), 11, 1), (yX11_fault, cX11_fault, 2, (some .int), 11, 1), (yX11_score, cX11_score, 5, (some .int), 11, 1)]
def mT3 : List (MethodName × ByteArray × Nat × Option FieldType × Nat × Nat) := [(yX11_hand, cX11_hand, 4, (some .int), 11, 1), (yX11_unhand, cX11_unhand, 2, (some .boolean), 11, 1), (yX11_persons, cX11_persons, 3, (some .int), 11, 1), (yX11_worth, cX11_worth, 3, (some .int), 11, 1), (yX11_person, cX11_person, 4, (some .int), 11, 1), (yX11_golden, cX11_golden, 6, (some .int), 11, 1), (yX11_from, cX11_from, 6, (some .int), 11, 1), (yX11_torn, cX11_torn, 6, (some .int), 11, 1), (yX11_fix, cX11_fix, 4, (some .int), 11, 1), (yX11_unfix, cX11_unfix, 2, (some .boolean), 11, 1), (yX11_changes, cX11_changes, 2, (some .int), 11, 1), (yX11_change, cX11_change, 4, (some .int), 11, 1), (yX11_accept, cX11_accept, 3, (some .boolean), 11, 1), (yX11_refuse, cX11_refuse, 3, (some .boolean), 11, 1), (yX11_about, cX11_about, 2, (some .int), 11, 1), (yX11_isSource, cX11_isSource, 1, (some .boolean), 11, 0), (yX11_isField, cX11_isField, 1, (some .boolean), 11, 0), (yX11_isValue, cX11_isValue, 1, (some .boolean), 11, 0), (yX11_look, cX11_look, 3, none, 11, 1), (yX11_part, cX11_part, 3, (some .boolean), 11, 1), (yX11_personAsked, cX11_personAsked, 5, (some .int), 11, 1), (yX11_hear, cX11_hear, 3, none, 11, 1), (yX11_goldenOf, cX11_goldenOf, 4, (some .int), 11, 1), (yX11_latestFix, cX11_latestFix, 4, (some .int), 11, 1), (yX11_hasWish, cX11_hasWish, 3, (some .boolean), 11, 1)]
def mT4 : List (MethodName × ByteArray × Nat × Option FieldType × Nat × Nat) := [(yX11_listWishes, cX11_listWishes, 3, none, 11, 1), (yX11_listWishesOf, cX11_listWishesOf, 6, none, 11, 1), (yX12_init, cX12_init, 2, none, 12, 2), (yX12_isSource, cX12_isSource, 1, (some .boolean), 12, 0), (yX12_isField, cX12_isField, 1, (some .boolean), 12, 0), (yX12_trust, cX12_trust, 4, (some .boolean), 12, 1), (yX12_fade, cX12_fade, 3, (some .boolean), 12, 1), (yX12_rights, cX12_rights, 3, (some .boolean), 12, 1), (yX12_row, cX12_row, 2, (some .int), 12, 1), (yX12_isRow, cX12_isRow, 2, (some .boolean), 12, 1), (yX12_isThere, cX12_isThere, 3, (some .boolean), 12, 1), (yX12_isValue, cX12_isValue, 1, (some .boolean), 12, 0), (yX12_tell, cX12_tell, 6, none, 12, 1), (yX12_set, cX12_set, 5, (some .int), 12, 1), (yX12_version, cX12_version, 7, (some .int), 12, 1), (yX12_valueOf, cX12_valueOf, 6, (some .int), 12, 1), (yX12_value, cX12_value, 5, (some .int), 12, 1), (yX12_forget, cX12_forget, 2, (some .boolean), 12, 1), (yX12_later, cX12_later, 2, (some .int), 12, 1), (yX12_feed, cX12_feed, 6, (some .int), 12, 1), (yX12_four, cX12_four, 3, none, 12, 1), (yX12_end, cX12_end, 2, (some .int), 12, 1), (yX12_here, cX12_here, 2, (some .int), 12, 1), (yX12_isLetter, cX12_isLetter, 1, (some .boolean), 12, 0), (yX12_isDigit, cX12_isDigit, 1, (some .boolean), 12, 0)]
def mT5 : List (MethodName × ByteArray × Nat × Option FieldType × Nat × Nat) := [(yX12_next, cX12_next, 3, none, 12, 1), (yX12_wrong, cX12_wrong, 2, none, 12, 1), (yX12_isWord, cX12_isWord, 3, (some .boolean), 12, 1), (yX12_step, cX12_step, 4, none, 12, 1), (yX12_told, cX12_told, 4, (some .int), 12, 1), (yX12_hold, cX12_hold, 2, none, 12, 1), (yX12_pop, cX12_pop, 1, none, 12, 1), (yX12_settle, cX12_settle, 4, none, 12, 1), (yX12_isOpen, cX12_isOpen, 3, (some .boolean), 12, 1), (yX12_readE, cX12_readE, 2, none, 12, 1), (yX12_operand, cX12_operand, 6, (some .boolean), 12, 1), (yX12_sign, cX12_sign, 2, (some .boolean), 12, 1), (yX12_rules, cX12_rules, 3, (some .int), 12, 1), (yX12_fault, cX12_fault, 2, (some .int), 12, 1), (yX12_holds, cX12_holds, 12, (some .boolean), 12, 1), (yX12_scoreOf, cX12_scoreOf, 7, (some .int), 12, 1), (yX12_score, cX12_score, 5, (some .int), 12, 1), (yX12_isKnown, cX12_isKnown, 3, (some .boolean), 12, 0), (yX12_hand, cX12_hand, 4, (some .int), 12, 1), (yX12_unhand, cX12_unhand, 2, (some .boolean), 12, 1), (yX12_fix, cX12_fix, 4, (some .int), 12, 1), (yX12_unfix, cX12_unfix, 2, (some .boolean), 12, 1), (yX12_part, cX12_part, 8, none, 12, 1), (yX12_canBe, cX12_canBe, 7, (some .boolean), 12, 1), (yX12_look, cX12_look, 2, none, 12, 1)]
def mT6 : List (MethodName × ByteArray × Nat × Option FieldType × Nat × Nat) := [(yX12_persons, cX12_persons, 3, (some .int), 12, 1), (yX12_worth, cX12_worth, 3, (some .int), 12, 1), (yX12_person, cX12_person, 4, (some .int), 12, 1), (yX12_gold, cX12_gold, 11, none, 12, 1), (yX12_tells, cX12_tells, 5, (some .boolean), 12, 1), (yX12_golden, cX12_golden, 5, (some .int), 12, 1), (yX12_from, cX12_from, 5, (some .int), 12, 1), (yX12_torn, cX12_torn, 5, (some .int), 12, 1), (yX12_isRefused, cX12_isRefused, 6, (some .boolean), 12, 1), (yX12_seek, cX12_seek, 4, none, 12, 1), (yX12_changes, cX12_changes, 2, (some .int), 12, 1), (yX12_isChange, cX12_isChange, 3, (some .boolean), 12, 1), (yX12_change, cX12_change, 4, (some .int), 12, 1), (yX12_accept, cX12_accept, 3, (some .boolean), 12, 1), (yX12_refuse, cX12_refuse, 3, (some .boolean), 12, 1), (yX12_about, cX12_about, 2, (some .int), 12, 1), (yJ6_bitCount_0f7a4, cJ6_bitCount_0f7a4, 1, (some .int), 14, 0), (yJ0_length_8abf5, cJ0_length_8abf5, 1, (some .int), 15, 1), (yJ0_charAt_5068e, cJ0_charAt_5068e, 2, (some .char), 15, 1), (yJ0_coder_7d493, cJ0_coder_7d493, 1, (some .byte), 15, 1), (yJ0_isLatin1_aae02, cJ0_isLatin1_aae02, 1, (some .boolean), 15, 1), (yJ0_checkIndex_df160, cJ0_checkIndex_df160, 2, none, 15, 0), (yJ1_charAt_3b067, cJ1_charAt_3b067, 2, (some .char), 16, 0), (yJ3_checkIndex_8e157, cJ3_checkIndex_8e157, 3, (some .int), 17, 0), (yL_law, cL_law, 4, (some .boolean), 13, 0)]
def mT : List (MethodName × ByteArray × Nat × Option FieldType × Nat × Nat) := mT0 ++ (mT1 ++ (mT2 ++ (mT3 ++ (mT4 ++ (mT5 ++ (mT6))))))
def cT : List (List AE) := [cd0, cd1, cd2, cd3, cd4, cd5, cd6, cd7, cd8, cd9, cd10, cd11, cd12, cd13, cd14, cd15, cd16, cd17, cd18, cd19, cd20, cd21, cd22, cd23, cd24, cd25, cd26, cd27, cd28, cd29, cd30, cd31, cd32, cd33, cd34, cd35, cd36, cd37, cd38, cd39, cd40, cd41, cd42, cd43, cd44, cd45, cd46, cd47, cd48, cd49, cd50, cd51, cd52, cd53, cd54, cd55, cd56, cd57, cd58, cd59, cd60, cd61, cd62, cd63, cd64, cd65, cd66, cd67, cd68, cd69, cd70, cd71, cd72, cd73, cd74, cd75, cd76, cd77, cd78, cd79, cd80, cd81, cd82, cd83, cd84, cd85, cd86, cd87, cd88, cd89, cd90, cd91, cd92, cd93, cd94, cd95, cd96, cd97, cd98, cd99, cd100, cd101, cd102, cd103, cd104, cd105, cd106, cd107, cd108, cd109, cd110, cd111, cd112, cd113, cd114, cd115, cd116, cd117, cd118, cd119, cd120, cd121, cd122, cd123, cd124, cd125, cd126, cd127, cd128, cd129, cd130, cd131, cd132, cd133, cd134, cd135, cd136, cd137, cd138, cd139, cd140, cd141, cd142, cd143, cd144, cd145, cd146, cd147, cd148, cd149, cd150, cd151, cd152, cd153, cd154, cd155, cd156, cd157, cd158, cd159, cd160, cd161, cd162, cd163, cd164, cd165, cd166, cd167, cd168, cd169, cd170, cd171, cd172, cd173, cd174]
def mD (k : Nat) : MethodName × ByteArray × Nat × Option FieldType × Nat × Nat := mT.getD k (yL_law, cL_law, 0, none, 0, 0)
def ynm (k : Nat) : MethodName := (mD k).1
def byt (k : Nat) : ByteArray := (mD k).2.1
def mxl (k : Nat) : Nat := (mD k).2.2.1
def rty (k : Nat) : Option FieldType := (mD k).2.2.2.1
def own (k : Nat) : Nat := (mD k).2.2.2.2.1
def knd (k : Nat) : Nat := (mD k).2.2.2.2.2
def cod (k : Nat) : List AE := cT.getD k []
def fls : List (Nat × Nat × Nat × Nat) := [(0, 27, 0, 0), (11, 160, 0, 0), (0, 31, 0, 1), (2, 94, 0, 1), (0, 34, 0, 2), (0, 9, 0, 3), (0, 15, 0, 4), (0, 18, 0, 5), (0, 21, 0, 6), (0, 24, 0, 7), (9, 9, 9, 0), (11, 108, 9, 0), (9, 15, 9, 1), (11, 111, 9, 1), (4, 22, 4, 0), (11, 235, 4, 0), (4, 9, 4, 1), (8, 42, 4, 1), (0, 47, 4, 1), (11, 284, 4, 1), (4, 15, 4, 2), (5, 38, 4, 2), (4, 18, 4, 3), (11, 146, 4, 3), (7, 31, 7, 0), (5, 41, 7, 0), (11, 133, 7, 0), (7, 9, 7, 1), (5, 48, 7, 1), (7, 15, 7, 2), (5, 55, 7, 2), (7, 18, 7, 3), (5, 58, 7, 3), (7, 21, 7, 4), (5, 47, 7, 4), (7, 24, 7, 5), (5, 46, 7, 5), (7, 27, 7, 6), (5, 59, 7, 6), (6, 18, 6, 0), (11, 150, 6, 0), (2, 28, 6, 1), (6, 35, 6, 1), (2, 39, 6, 2), (6, 32, 6, 2), (2, 57, 6, 3), (6, 44, 6, 3), (6, 26, 6, 4), (6, 9, 6, 5), (6, 15, 6, 6), (2, 15, 2, 0), (11, 163, 2, 0), (2, 9, 2, 1), (11, 166, 2, 1), (1, 33, 1, 0), (3, 58, 1, 0), (11, 236, 1, 0), (1, 15, 1, 1), (3, 63, 1, 1), (11, 283, 1, 1), (1, 21, 1, 2), (3, 66, 1, 2), (11, 277, 1, 2), (1, 24, 1, 3), (3, 73, 1, 3), (11, 273, 1, 3), (1, 27, 1, 4), (1, 30, 1, 5), (5, 25, 5, 0), (8, 47, 5, 0), (11, 238, 5, 0), (5, 29, 5, 1), (11, 241, 5, 1), (5, 9, 5, 2), (3, 52, 5, 2), (5, 15, 5, 3), (8, 34, 5, 3), (0, 52, 5, 3), (5, 19, 5, 4), (8, 41, 5, 4), (5, 22, 5, 5), (8, 37, 5, 5), (3, 82, 3, 0), (11, 266, 3, 0), (3, 86, 3, 1), (11, 187, 3, 1), (3, 89, 3, 2), (11, 190, 3, 2), (3, 48, 3, 3), (3, 13, 3, 4), (3, 17, 3, 5), (3, 20, 3, 6), (3, 23, 3, 7), (3, 26, 3, 8), (3, 29, 3, 9), (3, 32, 3, 10), (3, 35, 3, 11), (3, 38, 3, 12), (3, 41, 3, 13), (3, 45, 3, 14), (8, 55, 8, 0), (11, 274, 8, 0), (8, 58, 8, 1), (11, 210, 8, 1), (8, 61, 8, 2), (11, 213, 8, 2), (8, 24, 8, 3), (8, 9, 8, 4), (8, 15, 8, 5), (8, 18, 8, 6), (8, 21, 8, 7), (10, 25, 10, 0), (11, 219, 10, 0), (10, 13, 10, 1), (11, 223, 10, 1), (10, 19, 10, 2), (11, 226, 10, 2), (10, 22, 10, 3), (11, 229, 10, 3), (11, 118, 11, 0), (11, 114, 11, 1), (11, 248, 11, 2), (11, 12, 11, 3), (11, 16, 11, 4), (11, 22, 11, 5), (11, 26, 11, 6), (11, 33, 11, 7), (11, 40, 11, 8), (11, 47, 11, 9), (11, 54, 11, 10), (11, 63, 11, 11), (11, 67, 11, 12), (11, 73, 11, 13), (11, 80, 11, 14), (11, 87, 11, 15), (11, 94, 11, 16), (11, 98, 11, 17), (12, 188, 12, 0), (12, 7, 12, 1), (12, 13, 12, 2), (12, 16, 12, 3), (12, 185, 12, 4), (12, 195, 12, 5), (12, 19, 12, 6), (12, 22, 12, 7), (12, 25, 12, 8), (12, 29, 12, 9), (12, 32, 12, 10), (12, 35, 12, 11), (12, 38, 12, 12), (12, 41, 12, 13), (12, 44, 12, 14), (12, 47, 12, 15), (12, 50, 12, 16), (12, 53, 12, 17), (12, 56, 12, 18), (12, 59, 12, 19), (12, 328, 12, 20), (12, 62, 12, 21), (12, 65, 12, 22), (12, 68, 12, 23), (12, 71, 12, 24), (12, 74, 12, 25), (12, 316, 12, 26), (12, 252, 12, 27), (12, 302, 12, 28), (12, 77, 12, 29), (12, 213, 12, 30), (12, 249, 12, 31), (12, 80, 12, 32), (12, 220, 12, 33), (12, 223, 12, 34), (12, 240, 12, 35), (12, 230, 12, 36), (12, 237, 12, 37), (12, 233, 12, 38), (12, 84, 12, 39), (12, 261, 12, 40), (12, 264, 12, 41), (12, 87, 12, 42), (12, 342, 12, 43), (12, 345, 12, 44), (12, 90, 12, 45), (12, 93, 12, 46), (12, 96, 12, 47), (12, 99, 12, 48), (12, 102, 12, 49), (12, 105, 12, 50), (12, 108, 12, 51), (12, 111, 12, 52), (12, 114, 12, 53), (12, 117, 12, 54), (12, 348, 12, 55), (12, 359, 12, 56), (12, 362, 12, 57), (12, 355, 12, 58), (12, 120, 12, 59), (12, 123, 12, 60), (12, 126, 12, 61), (12, 129, 12, 62), (12, 132, 12, 63), (12, 135, 12, 64), (12, 138, 12, 65), (12, 141, 12, 66), (12, 376, 12, 67), (12, 379, 12, 68), (12, 382, 12, 69), (12, 144, 12, 70), (12, 147, 12, 71), (12, 150, 12, 72), (12, 153, 12, 73), (12, 157, 12, 74), (12, 397, 12, 75), (12, 400, 12, 76), (12, 160, 12, 77), (12, 163, 12, 78), (12, 166, 12, 79), (12, 169, 12, 80), (12, 172, 12, 81), (12, 175, 12, 82)]
def sfl : List (Nat × Nat × Nat) := [(15, 9, 0), (15, 15, 1)]
def mls : List (Nat × Nat × Nat) := [(13, 9, 61), (11, 11, 0), (11, 21, 56), (11, 32, 30), (11, 39, 46), (11, 46, 38), (11, 53, 11), (11, 60, 7), (11, 72, 33), (11, 79, 19), (11, 86, 48), (11, 93, 58), (13, 13, 62), (11, 101, 90), (11, 105, 91), (13, 18, 63), (13, 23, 64), (13, 27, 65), (11, 122, 31), (13, 32, 66), (11, 126, 32), (11, 129, 92), (11, 136, 47), (13, 37, 67), (11, 139, 93), (11, 244, 34), (5, 32, 32), (5, 51, 35), (11, 143, 37), (5, 60, 36), (13, 41, 68), (13, 46, 69), (13, 50, 70), (11, 153, 39), (6, 22, 40), (13, 55, 71), (13, 59, 72), (11, 156, 12), (2, 18, 1), (2, 23, 41), (6, 29, 42), (6, 38, 43), (6, 41, 44), (2, 31, 13), (2, 35, 14), (2, 44, 45), (6, 47, 167), (15, 335, 169), (6, 52, 168), (15, 492, 170), (15, 495, 172), (16, 9, 171), (15, 1059, 173), (2, 50, 42), (2, 53, 15), (2, 62, 16), (2, 70, 17), (2, 77, 2), (2, 83, 18), (2, 66, 3), (13, 64, 73), (13, 68, 74), (11, 169, 36), (11, 172, 4), (0, 37, 5), (0, 43, 6), (13, 72, 75), (11, 176, 8), (13, 77, 76), (11, 180, 9), (13, 81, 77), (11, 184, 94), (11, 251, 21), (11, 255, 22), (3, 69, 10), (11, 259, 23), (3, 76, 4), (11, 263, 24), (3, 92, 25), (3, 108, 26), (3, 95, 27), (3, 98, 28), (3, 113, 166), (3, 104, 29), (13, 86, 78), (13, 90, 79), (11, 194, 20), (13, 95, 80), (11, 198, 95), (11, 201, 97), (11, 204, 98), (11, 280, 10), (11, 207, 96), (11, 269, 49), (8, 28, 20), (8, 50, 57), (11, 272, 50), (8, 64, 52), (8, 68, 53), (8, 71, 54), (8, 74, 51), (8, 78, 55), (13, 99, 81), (13, 103, 82), (13, 107, 83), (13, 111, 84), (13, 115, 85), (11, 216, 100), (11, 287, 101), (11, 290, 60), (11, 232, 59), (13, 119, 86), (11, 220, 99), (13, 123, 87), (13, 127, 88), (13, 131, 89), (13, 12, 102), (13, 17, 105), (12, 178, 103), (12, 182, 104), (13, 22, 106), (13, 26, 107), (13, 31, 108), (13, 36, 113), (12, 191, 109), (12, 198, 111), (12, 202, 112), (13, 40, 116), (12, 210, 115), (12, 206, 114), (13, 45, 117), (13, 49, 118), (13, 54, 119), (12, 216, 120), (13, 58, 121), (13, 63, 137), (12, 258, 125), (12, 226, 122), (12, 243, 123), (12, 246, 124), (12, 290, 127), (12, 255, 126), (12, 308, 129), (12, 325, 134), (12, 274, 133), (12, 278, 136), (12, 284, 132), (12, 271, 131), (12, 267, 128), (12, 305, 130), (12, 281, 135), (13, 67, 138), (13, 71, 141), (12, 335, 110), (12, 339, 140), (12, 331, 139), (13, 76, 143), (13, 80, 144), (13, 110, 145), (13, 114, 146), (13, 85, 150), (12, 371, 147), (12, 351, 142), (12, 365, 148), (12, 368, 149), (13, 89, 151), (13, 94, 152), (13, 98, 155), (12, 393, 154), (12, 389, 153), (13, 102, 156), (13, 106, 157), (13, 118, 160), (12, 406, 159), (12, 403, 158), (13, 122, 162), (12, 409, 161), (13, 126, 163), (13, 130, 164), (13, 134, 165)]
def spl : List (Nat × Nat × Nat) := [(11, 3, 990), (0, 3, 990), (9, 3, 990), (4, 3, 990), (7, 3, 990), (6, 3, 990), (2, 3, 990), (1, 3, 990), (1, 9, 991), (5, 3, 990), (3, 7, 990), (8, 3, 990), (10, 1, 990), (10, 7, 991), (3, 119, 992), (3, 125, 991), (8, 81, 991), (12, 1, 990)]
def nsl : List (Nat × Nat × Nat) := [(5, 63, 91)]
def cis : List (Nat × Nat × Int) := [(11, 237, 999999), (11, 132, 100000), (2, 97, 999999), (3, 112, 1048576), (14, 265, 1431655765), (14, 266, 858993459), (14, 267, 252645135), (11, 193, (-2000000)), (12, 194, 999999), (12, 201, 100000), (12, 375, (-2000000))]
def cll : List (Nat × Nat × Int) := [(0, 41, (-2)), (3, 102, (-9223372036854775808)), (9, 18, 100), (12, 319, 1818848875), (12, 321, 6447474), (12, 323, 2003330414), (12, 312, 6385252), (12, 314, 28530), (12, 288, 1935764837), (12, 294, 1852137842), (12, 296, 465490373491), (12, 298, 126922548994917), (12, 300, 7237492), (12, 385, 100), (12, 387, (-1))]
def srs : List (Nat × Nat × Nat) := [(2, 42, 0), (2, 48, 1), (2, 60, 2), (2, 81, 3), (2, 86, 4), (2, 88, 5), (2, 90, 6), (2, 92, 7), (2, 73, 8), (2, 75, 9)]
def cks : List (Nat × Nat × Nat) := [(13, 7, 11), (11, 9, 0), (11, 19, 9), (11, 30, 4), (11, 37, 7), (11, 44, 6), (11, 51, 2), (11, 58, 1), (11, 70, 5), (11, 77, 3), (11, 84, 8), (11, 91, 10), (13, 10, 12)]
def gsl : List (Nat × Nat × Nat) := [(15, 38, 0), (15, 1053, 1)]
end
section
-- VALIDITY: the data are the program's, the words are the tables'
def tb : List Jvm.Cond := lw_tbl.filter goodWord
theorem tb_good : ∀ c ∈ tb, (c.onTables && c.keeps) = true ∨ ∃ ty, c = Jvm.Cond.arrayClass ty := fun c h => good_of_word (List.mem_filter.mp h).2
theorem tb_in {c : Jvm.Cond} (h : c ∈ lw_tbl) (g : goodWord c = true) : c ∈ tb := List.mem_filter.mpr ⟨h, g⟩
theorem tb_GI {ws : List Jvm.Cond} (h : ∀ c ∈ ws, c ∈ tb) : GoodIn tb ws := fun c hc => ⟨h c hc, tb_good c (h c hc)⟩
/-- a list's words stand in another's order -/
def subl : List Jvm.Cond → List Jvm.Cond → Bool
  | [], _ => true
  | _ :: _, [] => false
  | a :: l, b :: m => if a = b then subl l m else subl (a :: l) m
theorem subl_mem : ∀ (l m : List Jvm.Cond), subl l m = true → ∀ c ∈ l, c ∈ m
  | [], _, _, c, h => absurd h List.not_mem_nil
  | _ :: _, [], h, _, _ => by simp [subl] at h
  | a :: l, b :: m, h, c, hc => by
    unfold subl at h
    split at h
    · next e =>
      rcases List.mem_cons.mp hc with rfl | hc
      · rw [e]; exact List.mem_cons_self
      · exact List.mem_cons_of_mem _ (subl_mem l m h c hc)
    · exact List.mem_cons_of_mem _ (subl_mem (a :: l) m h c hc)
def clT : List (Nat → String × String × String × Bool) := [TX0, TX1, TX2, TX3, TX4, TX5, TX6, TX7, TX8, TX9, TX10, TX11, TX12]
def clt (ci j : Nat) : String × String × String × Bool := (clT.getD ci TX0) j
def fC (q : Nat × Nat × Nat × Nat) : Jvm.Cond := .fieldLink (rn_ q.1) q.2.1 (clt q.2.2.1 q.2.2.2).1 (clt q.2.2.1 q.2.2.2).2.1 (clt q.2.2.1 q.2.2.2).2.2.1
def fS (q : Nat × Nat × Nat) : Jvm.Cond := .fieldLink (rn_ q.1) q.2.1 "java/lang/String" (if q.2.2 = 0 then "value" else "coder") (if q.2.2 = 0 then "[B" else "B")
def mC (q : Nat × Nat × Nat) : Jvm.Cond := .methodLink (rn_ q.1) q.2.1 (ynm q.2.2)
def sC (q : Nat × Nat × Nat) : Jvm.Cond := .methodLink (rn_ q.1) q.2.1 (if q.2.2 = 990 then Lib.objectInit else if q.2.2 = 991 then Lib.Math.max.name else Lib.MathLoose.max_long.x)
def cC (q : Nat × Nat × Int) : Jvm.Cond := .constant (rn_ q.1) q.2.1 (Int32.ofInt q.2.2)
def cL (q : Nat × Nat × Int) : Jvm.Cond := .constantLong (rn_ q.1) q.2.1 (Int64.ofInt q.2.2)
def kC (q : Nat × Nat × Nat) : Jvm.Cond := .classLink (rn_ q.1) q.2.1 (rn_ q.2.2)
def gC (q : Nat × Nat × Nat) : Jvm.Cond := if q.2.2 = 0 then .fieldLink (rn_ q.1) q.2.1 "java/lang/String" "COMPACT_STRINGS" "Z" else .fieldLink (rn_ q.1) q.2.1 "jdk/internal/util/Preconditions" "SIOOBE_FORMATTER" "Ljava/util/function/BiFunction;"
theorem fls_t : subl (fls.map fC) lw_tbl = true := by decide +kernel
theorem sfl_t : subl (sfl.map fS) lw_tbl = true := by decide +kernel
theorem mls_t : subl (mls.map mC) lw_tbl = true := by decide +kernel
theorem spl_t : subl (spl.map sC) lw_tbl = true := by decide +kernel
theorem cis_t : subl (cis.map cC) lw_tbl = true := by decide +kernel
theorem cll_t : subl (cll.map cL) lw_tbl = true := by decide +kernel
theorem cks_t : subl (cks.map kC) lw_tbl = true := by decide +kernel
theorem gsl_t : subl (gsl.map gC) lw_tbl = true := by decide +kernel
theorem map_tb {α : Type} {f : α → Jvm.Cond} {l : List α} (h : subl (l.map f) lw_tbl = true) (g : ∀ q, goodWord (f q) = true) : ∀ q ∈ l, f q ∈ tb := fun q hq => tb_in (subl_mem _ _ h _ (List.mem_map.mpr ⟨q, hq, rfl⟩)) (g q)
theorem fls_ok : ∀ q ∈ fls, fC q ∈ tb := map_tb fls_t (fun _ => rfl)
theorem sfl_ok : ∀ q ∈ sfl, fS q ∈ tb := map_tb sfl_t (fun _ => rfl)
theorem mls_ok : ∀ q ∈ mls, mC q ∈ tb := map_tb mls_t (fun _ => rfl)
theorem spl_ok : ∀ q ∈ spl, sC q ∈ tb := map_tb spl_t (fun _ => rfl)
theorem cis_ok : ∀ q ∈ cis, cC q ∈ tb := map_tb cis_t (fun _ => rfl)
theorem cll_ok : ∀ q ∈ cll, cL q ∈ tb := map_tb cll_t (fun _ => rfl)
theorem cks_ok : ∀ q ∈ cks, kC q ∈ tb := map_tb cks_t (fun _ => rfl)
theorem gsl_ok : ∀ q ∈ gsl, gC q ∈ tb := map_tb gsl_t (fun q => by unfold gC; split <;> rfl)
/-- what an entry must be -/
def okE (bs : ByteArray) (o kd : Nat) (e : AE) : Bool :=
  decide (decode bs e.1 = .ok (e.2.1, e.2.2.1)) && (match e.2.1 with
  | .getfield i => if e.2.2.2.2.1 = 100 then decide ((o, i, e.2.2.2.2.2) ∈ sfl) else decide ((o, i, e.2.2.2.2.1, e.2.2.2.2.2) ∈ fls)
  | .putfield i => decide ((o, i, e.2.2.2.2.1, e.2.2.2.2.2) ∈ fls) && (!(clt e.2.2.2.2.1 e.2.2.2.2.2).2.2.2 || (kd == 2 && o == e.2.2.2.2.1))
  | .getstatic i => decide ((o, i, e.2.2.2.2.1) ∈ gsl)
  | .ldc i => if e.2.2.2.2.1 = 0 then decide ((o, i, e.2.2.2.1) ∈ cis) else decide ((o, i, e.2.2.2.2.2) ∈ srs)
  | .ldc_w i => decide (e.2.2.2.2.1 = 0 ∧ (o, i, e.2.2.2.1) ∈ cis)
  | .ldc2_w i => decide ((o, i, e.2.2.2.1) ∈ cll)
  | .new i => decide (99 ≤ e.2.2.2.2.1 ∨ (o, i, e.2.2.2.2.1) ∈ cks)
  | .invokevirtual i => decide ((o, i, e.2.2.2.2.1) ∈ mls)
  | .invokestatic i => decide (e.2.2.2.2.1 = 999 ∨ (o, i, e.2.2.2.2.1) ∈ mls ∨ (o, i, e.2.2.2.2.1) ∈ spl ∨ (o, i, e.2.2.2.2.1) ∈ nsl)
  | .invokespecial i => decide (e.2.2.2.2.1 = 999 ∨ (o, i, e.2.2.2.2.1) ∈ mls ∨ (o, i, e.2.2.2.2.1) ∈ spl)
  | _ => true)
end
section
theorem chk {p : AE → Bool} {l : List AE} {n : Nat} (h : ((l.drop n).take 60).all p = true) (k : (l.drop (n + 60)).all p = true) : (l.drop n).all p = true := by
  rw [← List.take_append_drop 60 (l.drop n), List.all_append, h, List.drop_drop, k]; rfl
theorem chk0 {p : AE → Bool} {l : List AE} {n : Nat} (h : l.length ≤ n) : (l.drop n).all p = true := by rw [List.drop_eq_nil_of_le h]; rfl
theorem ok0 : cd0.all (okE cX0_init 0 2) = true := by decide +kernel
theorem ok1 : cd1.all (okE cX0_clear 0 1) = true := by decide +kernel
theorem ok2 : cd2.all (okE cX0_addStep 0 1) = true := by decide +kernel
theorem ok3 : cd3.all (okE cX0_closeLine 0 1) = true := by decide +kernel
theorem ok4 : cd4.all (okE cX0_sum 0 1) = true := by decide +kernel
theorem ok5 : cd5.all (okE cX0_isMet 0 1) = true := by decide +kernel
theorem ok6 : cd6.all (okE cX0_isTestMet 0 1) = true := by decide +kernel
theorem ok7 : cd7.all (okE cX1_init 1 2) = true := by decide +kernel
theorem ok8 : cd8.all (okE cX1_tell 1 1) = true := by decide +kernel
theorem ok9 : cd9.all (okE cX1_untell 1 1) = true := by decide +kernel
theorem ok10 : cd10.all (okE cX1_isHeld 1 1) = true := by decide +kernel
theorem ok11 : cd11.all (okE cX2_init 2 2) = true := by decide +kernel
theorem ok12 : cd12.all (okE cX2_readAll 2 1) = true := by decide +kernel
theorem ok13 : cd13.all (okE cX2_stop 2 1) = true := by decide +kernel
theorem ok14 : cd14.all (okE cX2_readLine 2 1) = true := by decide +kernel
theorem ok15 : cd15.all (okE cX2_readNumber 2 1) = true := by decide +kernel
theorem ok16 : cd16.all (okE cX2_readEither 2 1) = true := by decide +kernel
theorem ok17 : cd17.all (okE cX2_readOne 2 1) = true := by decide +kernel
theorem ok18 : cd18.all (okE cX2_readTest 2 1) = true := by decide +kernel
theorem ok19 : cd19.all (okE cX3_init 3 2) = true := by decide +kernel
theorem ok20 : cd20.all (okE cX3_personOf 3 1) = true := by decide +kernel
theorem ok21 : cd21.all (okE cX3_gather 3 1) = true := by decide +kernel
theorem ok22 : cd22.all (okE cX3_bind 3 1) = true := by decide +kernel
theorem ok23 : cd23.all (okE cX3_weighPairs 3 1) = true := by decide +kernel
theorem ok24 : cd24.all (okE cX3_choose 3 1) = true := by decide +kernel
theorem ok25 : cd25.all (okE cX3_weighSets 3 1) = true := by decide +kernel
theorem ok26 : cd26.all (okE cX3_weighBonds 3 1) = true := by decide +kernel
theorem ok27 : cd27.all (okE cX3_chooseTails 3 1) = true := by decide +kernel
theorem ok28 : cd28.all (okE cX3_greatestKey 3 1) = true := by decide +kernel
theorem ok29 : cd29.all (okE cX3_readKey 3 1) = true := by decide +kernel
theorem ok30 : cd30.all (okE cX4_init 4 2) = true := by decide +kernel
theorem ok31 : cd31.all (okE cX4_add 4 1) = true := by decide +kernel
theorem ok32 : cd32.all (okE cX4_isAlive 4 1) = true := by decide +kernel
theorem ok33 : cd33.all (okE cX5_init 5 2) = true := by decide +kernel
theorem ok34 : cd34.all (okE cX5_take 5 1) = true := by decide +kernel
theorem ok35 : cd35.all (okE cX5_takeVersion 5 1) = true := by decide +kernel
theorem ok36 : cd36.all (okE cX5_isThere 5 1) = true := by decide +kernel
theorem ok37 : cd37.all (okE cX5_valueOf 5 1) = true := by decide +kernel
theorem ok38 : cd38.all (okE cX6_init 6 2) = true := by decide +kernel
theorem ok39 : cd39.all (okE cX6_append 6 1) = true := by decide +kernel
theorem ok40 : cd40.all (okE cX6_sortOf 6 0) = true := by decide +kernel
theorem ok41 : cd41.all (okE cX6_rewind 6 1) = true := by decide +kernel
theorem ok42 : cd42.all (okE cX6_advance 6 1) = true := by decide +kernel
theorem ok43 : cd43.all (okE cX6_takeWord 6 1) = true := by decide +kernel
theorem ok44 : cd44.all (okE cX6_takeNumber 6 1) = true := by decide +kernel
theorem ok45 : cd45.all (okE cX6_reads 6 1) = true := by decide +kernel
theorem ok46 : cd46.all (okE cX7_init 7 2) = true := by decide +kernel
theorem ok47 : cd47.all (okE cX7_add 7 1) = true := by decide +kernel
theorem ok48 : cd48.all (okE cX8_init 8 2) = true := by decide +kernel
theorem ok49 : cd49.all (okE cX8_gather 8 1) = true := by decide +kernel
theorem ok50 : cd50.all (okE cX8_choose 8 1) = true := by decide +kernel
theorem ok51 : cd51.all (okE cX8_isAhead 8 0) = true := by decide +kernel
theorem ok52 : cd52.all (okE cX8_isFirst 8 1) = true := by decide +kernel
theorem ok53 : cd53.all (okE cX8_sumFor 8 1) = true := by decide +kernel
theorem ok54 : cd54.all (okE cX8_latestFor 8 1) = true := by decide +kernel
theorem ok55 : cd55.all (okE cX8_strongestFor 8 1) = true := by decide +kernel
theorem ok56 : cd56.all (okE cX9_init 9 2) = true := by decide +kernel
theorem ok57 : cd57.all (okE cX9_weight 9 1) = true := by decide +kernel
theorem ok58 : cd58.all (okE cX10_init 10 2) = true := by decide +kernel
theorem ok59 : cd59.all (okE cX10_add 10 1) = true := by decide +kernel
theorem ok60 : cd60.all (okE cX10_has 10 1) = true := by decide +kernel
theorem ok61 : cd61.all (okE cX11_init 11 2) = true := by decide +kernel
theorem ok62 : cd62.all (okE cX11_trust 11 1) = true := by decide +kernel
theorem ok63 : cd63.all (okE cX11_fade 11 1) = true := by decide +kernel
theorem ok64 : cd64.all (okE cX11_rights 11 1) = true := by decide +kernel
theorem ok65 : cd65.all (okE cX11_row 11 1) = true := by decide +kernel
theorem ok66 : cd66.all (okE cX11_set 11 1) = true := by decide +kernel
theorem ok67 : cd67.all (okE cX11_value 11 1) = true := by decide +kernel
theorem ok68 : cd68.all (okE cX11_forget 11 1) = true := by decide +kernel
theorem ok69 : cd69.all (okE cX11_later 11 1) = true := by decide +kernel
theorem ok70 : cd70.all (okE cX11_feed 11 1) = true := by decide +kernel
theorem ok71 : cd71.all (okE cX11_end 11 1) = true := by decide +kernel
theorem ok72 : cd72.all (okE cX11_rules 11 1) = true := by decide +kernel
theorem ok73 : cd73.all (okE cX11_fault 11 1) = true := by decide +kernel
theorem ok74 : cd74.all (okE cX11_score 11 1) = true := by decide +kernel
theorem ok75 : cd75.all (okE cX11_hand 11 1) = true := by decide +kernel
theorem ok76 : cd76.all (okE cX11_unhand 11 1) = true := by decide +kernel
theorem ok77 : cd77.all (okE cX11_persons 11 1) = true := by decide +kernel
theorem ok78 : cd78.all (okE cX11_worth 11 1) = true := by decide +kernel
theorem ok79 : cd79.all (okE cX11_person 11 1) = true := by decide +kernel
theorem ok80 : cd80.all (okE cX11_golden 11 1) = true := by decide +kernel
theorem ok81 : cd81.all (okE cX11_from 11 1) = true := by decide +kernel
theorem ok82 : cd82.all (okE cX11_torn 11 1) = true := by decide +kernel
theorem ok83 : cd83.all (okE cX11_fix 11 1) = true := by decide +kernel
theorem ok84 : cd84.all (okE cX11_unfix 11 1) = true := by decide +kernel
theorem ok85 : cd85.all (okE cX11_changes 11 1) = true := by decide +kernel
theorem ok86 : cd86.all (okE cX11_change 11 1) = true := by decide +kernel
theorem ok87 : cd87.all (okE cX11_accept 11 1) = true := by decide +kernel
theorem ok88 : cd88.all (okE cX11_refuse 11 1) = true := by decide +kernel
theorem ok89 : cd89.all (okE cX11_about 11 1) = true := by decide +kernel
theorem ok90 : cd90.all (okE cX11_isSource 11 0) = true := by decide +kernel
theorem ok91 : cd91.all (okE cX11_isField 11 0) = true := by decide +kernel
theorem ok92 : cd92.all (okE cX11_isValue 11 0) = true := by decide +kernel
theorem ok93 : cd93.all (okE cX11_look 11 1) = true := by decide +kernel
theorem ok94 : cd94.all (okE cX11_part 11 1) = true := by decide +kernel
theorem ok95 : cd95.all (okE cX11_personAsked 11 1) = true := by decide +kernel
theorem ok96 : cd96.all (okE cX11_hear 11 1) = true := by decide +kernel
theorem ok97 : cd97.all (okE cX11_goldenOf 11 1) = true := by decide +kernel
theorem ok98 : cd98.all (okE cX11_latestFix 11 1) = true := by decide +kernel
theorem ok99 : cd99.all (okE cX11_hasWish 11 1) = true := by decide +kernel
theorem ok100 : cd100.all (okE cX11_listWishes 11 1) = true := by decide +kernel
theorem ok101 : cd101.all (okE cX11_listWishesOf 11 1) = true := by decide +kernel
theorem ok102_0 : ((cd102.drop 0).take 60).all (okE cX12_init 12 2) = true := by decide +kernel
theorem ok102_60 : ((cd102.drop 60).take 60).all (okE cX12_init 12 2) = true := by decide +kernel
theorem ok102_120 : ((cd102.drop 120).take 60).all (okE cX12_init 12 2) = true := by decide +kernel
theorem ok102_180 : ((cd102.drop 180).take 60).all (okE cX12_init 12 2) = true := by decide +kernel
theorem ok102 : cd102.all (okE cX12_init 12 2) = true := chk (n := 0) ok102_0 (chk (n := 60) ok102_60 (chk (n := 120) ok102_120 (chk (n := 180) ok102_180 (chk0 (by decide +kernel)))))
theorem ok103 : cd103.all (okE cX12_isSource 12 0) = true := by decide +kernel
theorem ok104 : cd104.all (okE cX12_isField 12 0) = true := by decide +kernel
theorem ok105 : cd105.all (okE cX12_trust 12 1) = true := by decide +kernel
theorem ok106 : cd106.all (okE cX12_fade 12 1) = true := by decide +kernel
theorem ok107 : cd107.all (okE cX12_rights 12 1) = true := by decide +kernel
theorem ok108 : cd108.all (okE cX12_row 12 1) = true := by decide +kernel
theorem ok109 : cd109.all (okE cX12_isRow 12 1) = true := by decide +kernel
theorem ok110 : cd110.all (okE cX12_isThere 12 1) = true := by decide +kernel
theorem ok111 : cd111.all (okE cX12_isValue 12 0) = true := by decide +kernel
theorem ok112 : cd112.all (okE cX12_tell 12 1) = true := by decide +kernel
theorem ok113 : cd113.all (okE cX12_set 12 1) = true := by decide +kernel
theorem ok114 : cd114.all (okE cX12_version 12 1) = true := by decide +kernel
theorem ok115 : cd115.all (okE cX12_valueOf 12 1) = true := by decide +kernel
theorem ok116 : cd116.all (okE cX12_value 12 1) = true := by decide +kernel
theorem ok117 : cd117.all (okE cX12_forget 12 1) = true := by decide +kernel
theorem ok118 : cd118.all (okE cX12_later 12 1) = true := by decide +kernel
theorem ok119 : cd119.all (okE cX12_feed 12 1) = true := by decide +kernel
theorem ok120 : cd120.all (okE cX12_four 12 1) = true := by decide +kernel
theorem ok121 : cd121.all (okE cX12_end 12 1) = true := by decide +kernel
theorem ok122 : cd122.all (okE cX12_here 12 1) = true := by decide +kernel
theorem ok123 : cd123.all (okE cX12_isLetter 12 0) = true := by decide +kernel
theorem ok124 : cd124.all (okE cX12_isDigit 12 0) = true := by decide +kernel
theorem ok125_0 : ((cd125.drop 0).take 60).all (okE cX12_next 12 1) = true := by decide +kernel
theorem ok125_60 : ((cd125.drop 60).take 60).all (okE cX12_next 12 1) = true := by decide +kernel
theorem ok125_120 : ((cd125.drop 120).take 60).all (okE cX12_next 12 1) = true := by decide +kernel
theorem ok125 : cd125.all (okE cX12_next 12 1) = true := chk (n := 0) ok125_0 (chk (n := 60) ok125_60 (chk (n := 120) ok125_120 (chk0 (by decide +kernel))))
theorem ok126 : cd126.all (okE cX12_wrong 12 1) = true := by decide +kernel
theorem ok127 : cd127.all (okE cX12_isWord 12 1) = true := by decide +kernel
theorem ok128 : cd128.all (okE cX12_step 12 1) = true := by decide +kernel
theorem ok129 : cd129.all (okE cX12_told 12 1) = true := by decide +kernel
theorem ok130 : cd130.all (okE cX12_hold 12 1) = true := by decide +kernel
theorem ok131 : cd131.all (okE cX12_pop 12 1) = true := by decide +kernel
theorem ok132 : cd132.all (okE cX12_settle 12 1) = true := by decide +kernel
theorem ok133 : cd133.all (okE cX12_isOpen 12 1) = true := by decide +kernel
theorem ok134 : cd134.all (okE cX12_readE 12 1) = true := by decide +kernel
theorem ok135_0 : ((cd135.drop 0).take 60).all (okE cX12_operand 12 1) = true := by decide +kernel
theorem ok135_60 : ((cd135.drop 60).take 60).all (okE cX12_operand 12 1) = true := by decide +kernel
theorem ok135_120 : ((cd135.drop 120).take 60).all (okE cX12_operand 12 1) = true := by decide +kernel
theorem ok135 : cd135.all (okE cX12_operand 12 1) = true := chk (n := 0) ok135_0 (chk (n := 60) ok135_60 (chk (n := 120) ok135_120 (chk0 (by decide +kernel))))
theorem ok136 : cd136.all (okE cX12_sign 12 1) = true := by decide +kernel
theorem ok137_0 : ((cd137.drop 0).take 60).all (okE cX12_rules 12 1) = true := by decide +kernel
theorem ok137_60 : ((cd137.drop 60).take 60).all (okE cX12_rules 12 1) = true := by decide +kernel
theorem ok137_120 : ((cd137.drop 120).take 60).all (okE cX12_rules 12 1) = true := by decide +kernel
theorem ok137_180 : ((cd137.drop 180).take 60).all (okE cX12_rules 12 1) = true := by decide +kernel
theorem ok137 : cd137.all (okE cX12_rules 12 1) = true := chk (n := 0) ok137_0 (chk (n := 60) ok137_60 (chk (n := 120) ok137_120 (chk (n := 180) ok137_180 (chk0 (by decide +kernel)))))
theorem ok138 : cd138.all (okE cX12_fault 12 1) = true := by decide +kernel
theorem ok139_0 : ((cd139.drop 0).take 60).all (okE cX12_holds 12 1) = true := by decide +kernel
theorem ok139_60 : ((cd139.drop 60).take 60).all (okE cX12_holds 12 1) = true := by decide +kernel
theorem ok139_120 : ((cd139.drop 120).take 60).all (okE cX12_holds 12 1) = true := by decide +kernel
theorem ok139_180 : ((cd139.drop 180).take 60).all (okE cX12_holds 12 1) = true := by decide +kernel
theorem ok139 : cd139.all (okE cX12_holds 12 1) = true := chk (n := 0) ok139_0 (chk (n := 60) ok139_60 (chk (n := 120) ok139_120 (chk (n := 180) ok139_180 (chk0 (by decide +kernel)))))
theorem ok140 : cd140.all (okE cX12_scoreOf 12 1) = true := by decide +kernel
theorem ok141 : cd141.all (okE cX12_score 12 1) = true := by decide +kernel
theorem ok142 : cd142.all (okE cX12_isKnown 12 0) = true := by decide +kernel
theorem ok143 : cd143.all (okE cX12_hand 12 1) = true := by decide +kernel
theorem ok144 : cd144.all (okE cX12_unhand 12 1) = true := by decide +kernel
theorem ok145 : cd145.all (okE cX12_fix 12 1) = true := by decide +kernel
theorem ok146 : cd146.all (okE cX12_unfix 12 1) = true := by decide +kernel
theorem ok147_0 : ((cd147.drop 0).take 60).all (okE cX12_part 12 1) = true := by decide +kernel
theorem ok147_60 : ((cd147.drop 60).take 60).all (okE cX12_part 12 1) = true := by decide +kernel
theorem ok147_120 : ((cd147.drop 120).take 60).all (okE cX12_part 12 1) = true := by decide +kernel
theorem ok147_180 : ((cd147.drop 180).take 60).all (okE cX12_part 12 1) = true := by decide +kernel
theorem ok147_240 : ((cd147.drop 240).take 60).all (okE cX12_part 12 1) = true := by decide +kernel
theorem ok147 : cd147.all (okE cX12_part 12 1) = true := chk (n := 0) ok147_0 (chk (n := 60) ok147_60 (chk (n := 120) ok147_120 (chk (n := 180) ok147_180 (chk (n := 240) ok147_240 (chk0 (by decide +kernel))))))
theorem ok148 : cd148.all (okE cX12_canBe 12 1) = true := by decide +kernel
theorem ok149 : cd149.all (okE cX12_look 12 1) = true := by decide +kernel
theorem ok150 : cd150.all (okE cX12_persons 12 1) = true := by decide +kernel
theorem ok151 : cd151.all (okE cX12_worth 12 1) = true := by decide +kernel
theorem ok152 : cd152.all (okE cX12_person 12 1) = true := by decide +kernel
theorem ok153_0 : ((cd153.drop 0).take 60).all (okE cX12_gold 12 1) = true := by decide +kernel
theorem ok153_60 : ((cd153.drop 60).take 60).all (okE cX12_gold 12 1) = true := by decide +kernel
theorem ok153_120 : ((cd153.drop 120).take 60).all (okE cX12_gold 12 1) = true := by decide +kernel
theorem ok153_180 : ((cd153.drop 180).take 60).all (okE cX12_gold 12 1) = true := by decide +kernel
theorem ok153_240 : ((cd153.drop 240).take 60).all (okE cX12_gold 12 1) = true := by decide +kernel
theorem ok153_300 : ((cd153.drop 300).take 60).all (okE cX12_gold 12 1) = true := by decide +kernel
theorem ok153 : cd153.all (okE cX12_gold 12 1) = true := chk (n := 0) ok153_0 (chk (n := 60) ok153_60 (chk (n := 120) ok153_120 (chk (n := 180) ok153_180 (chk (n := 240) ok153_240 (chk (n := 300) ok153_300 (chk0 (by decide +kernel)))))))
theorem ok154 : cd154.all (okE cX12_tells 12 1) = true := by decide +kernel
theorem ok155 : cd155.all (okE cX12_golden 12 1) = true := by decide +kernel
theorem ok156 : cd156.all (okE cX12_from 12 1) = true := by decide +kernel
theorem ok157 : cd157.all (okE cX12_torn 12 1) = true := by decide +kernel
theorem ok158 : cd158.all (okE cX12_isRefused 12 1) = true := by decide +kernel
theorem ok159 : cd159.all (okE cX12_seek 12 1) = true := by decide +kernel
theorem ok160 : cd160.all (okE cX12_changes 12 1) = true := by decide +kernel
theorem ok161 : cd161.all (okE cX12_isChange 12 1) = true := by decide +kernel
theorem ok162 : cd162.all (okE cX12_change 12 1) = true := by decide +kernel
theorem ok163 : cd163.all (okE cX12_accept 12 1) = true := by decide +kernel
theorem ok164 : cd164.all (okE cX12_refuse 12 1) = true := by decide +kernel
theorem ok165 : cd165.all (okE cX12_about 12 1) = true := by decide +kernel
theorem ok166 : cd166.all (okE cJ6_bitCount_0f7a4 14 0) = true := by decide +kernel
theorem ok167 : cd167.all (okE cJ0_length_8abf5 15 1) = true := by decide +kernel
theorem ok168 : cd168.all (okE cJ0_charAt_5068e 15 1) = true := by decide +kernel
theorem ok169 : cd169.all (okE cJ0_coder_7d493 15 1) = true := by decide +kernel
theorem ok170 : cd170.all (okE cJ0_isLatin1_aae02 15 1) = true := by decide +kernel
theorem ok171 : cd171.all (okE cJ0_checkIndex_df160 15 0) = true := by decide +kernel
theorem ok172 : cd172.all (okE cJ1_charAt_3b067 16 0) = true := by decide +kernel
theorem ok173 : cd173.all (okE cJ3_checkIndex_8e157 17 0) = true := by decide +kernel
theorem ok174_0 : ((cd174.drop 0).take 60).all (okE cL_law 13 0) = true := by decide +kernel
theorem ok174_60 : ((cd174.drop 60).take 60).all (okE cL_law 13 0) = true := by decide +kernel
theorem ok174_120 : ((cd174.drop 120).take 60).all (okE cL_law 13 0) = true := by decide +kernel
theorem ok174_180 : ((cd174.drop 180).take 60).all (okE cL_law 13 0) = true := by decide +kernel
theorem ok174_240 : ((cd174.drop 240).take 60).all (okE cL_law 13 0) = true := by decide +kernel
theorem ok174_300 : ((cd174.drop 300).take 60).all (okE cL_law 13 0) = true := by decide +kernel
theorem ok174_360 : ((cd174.drop 360).take 60).all (okE cL_law 13 0) = true := by decide +kernel
theorem ok174_420 : ((cd174.drop 420).take 60).all (okE cL_law 13 0) = true := by decide +kernel
theorem ok174_480 : ((cd174.drop 480).take 60).all (okE cL_law 13 0) = true := by decide +kernel
theorem ok174_540 : ((cd174.drop 540).take 60).all (okE cL_law 13 0) = true := by decide +kernel
theorem ok174_600 : ((cd174.drop 600).take 60).all (okE cL_law 13 0) = true := by decide +kernel
theorem ok174_660 : ((cd174.drop 660).take 60).all (okE cL_law 13 0) = true := by decide +kernel
theorem ok174_720 : ((cd174.drop 720).take 60).all (okE cL_law 13 0) = true := by decide +kernel
theorem ok174_780 : ((cd174.drop 780).take 60).all (okE cL_law 13 0) = true := by decide +kernel
theorem ok174_840 : ((cd174.drop 840).take 60).all (okE cL_law 13 0) = true := by decide +kernel
theorem ok174 : cd174.all (okE cL_law 13 0) = true := chk (n := 0) ok174_0 (chk (n := 60) ok174_60 (chk (n := 120) ok174_120 (chk (n := 180) ok174_180 (chk (n := 240) ok174_240 (chk (n := 300) ok174_300 (chk (n := 360) ok174_360 (chk (n := 420) ok174_420 (chk (n := 480) ok174_480 (chk (n := 540) ok174_540 (chk (n := 600) ok174_600 (chk (n := 660) ok174_660 (chk (n := 720) ok174_720 (chk (n := 780) ok174_780 (chk (n := 840) ok174_840 (chk0 (by decide +kernel))))))))))))))))
end
section
-- METHODS: their words stand in the tables
set_option maxRecDepth 100000 in
theorem cw0 : Jvm.Cond.code yX0_init cX0_init 1 none ∈ lw_tbl := List.mem_of_getElem? (i := 90) rfl
set_option maxRecDepth 100000 in
theorem cw1 : Jvm.Cond.code yX0_clear cX0_clear 1 none ∈ lw_tbl := List.mem_of_getElem? (i := 585) rfl
set_option maxRecDepth 100000 in
theorem cw2 : Jvm.Cond.code yX0_addStep cX0_addStep 4 none ∈ lw_tbl := List.mem_of_getElem? (i := 682) rfl
set_option maxRecDepth 100000 in
theorem cw3 : Jvm.Cond.code yX0_closeLine cX0_closeLine 2 none ∈ lw_tbl := List.mem_of_getElem? (i := 697) rfl
set_option maxRecDepth 100000 in
theorem cw4 : Jvm.Cond.code yX0_sum cX0_sum 8 (some .int) ∈ lw_tbl := List.mem_of_getElem? (i := 711) rfl
set_option maxRecDepth 100000 in
theorem cw5 : Jvm.Cond.code yX0_isMet cX0_isMet 10 (some .boolean) ∈ lw_tbl := List.mem_of_getElem? (i := 715) rfl
set_option maxRecDepth 100000 in
theorem cw6 : Jvm.Cond.code yX0_isTestMet cX0_isTestMet 9 (some .boolean) ∈ lw_tbl := List.mem_of_getElem? (i := 720) rfl
set_option maxRecDepth 100000 in
theorem cw7 : Jvm.Cond.code yX1_init cX1_init 3 none ∈ lw_tbl := List.mem_of_getElem? (i := 248) rfl
set_option maxRecDepth 100000 in
theorem cw8 : Jvm.Cond.code yX1_tell cX1_tell 6 (some .int) ∈ lw_tbl := List.mem_of_getElem? (i := 728) rfl
set_option maxRecDepth 100000 in
theorem cw9 : Jvm.Cond.code yX1_untell cX1_untell 3 (some .boolean) ∈ lw_tbl := List.mem_of_getElem? (i := 736) rfl
set_option maxRecDepth 100000 in
theorem cw10 : Jvm.Cond.code yX1_isHeld cX1_isHeld 3 (some .boolean) ∈ lw_tbl := List.mem_of_getElem? (i := 756) rfl
set_option maxRecDepth 100000 in
theorem cw11 : Jvm.Cond.code yX2_init cX2_init 1 none ∈ lw_tbl := List.mem_of_getElem? (i := 233) rfl
set_option maxRecDepth 100000 in
theorem cw12 : Jvm.Cond.code yX2_readAll cX2_readAll 4 (some .boolean) ∈ lw_tbl := List.mem_of_getElem? (i := 581) rfl
set_option maxRecDepth 100000 in
theorem cw13 : Jvm.Cond.code yX2_stop cX2_stop 3 (some .boolean) ∈ lw_tbl := List.mem_of_getElem? (i := 605) rfl
set_option maxRecDepth 100000 in
theorem cw14 : Jvm.Cond.code yX2_readLine cX2_readLine 5 (some .boolean) ∈ lw_tbl := List.mem_of_getElem? (i := 609) rfl
set_option maxRecDepth 100000 in
theorem cw15 : Jvm.Cond.code yX2_readNumber cX2_readNumber 4 (some .boolean) ∈ lw_tbl := List.mem_of_getElem? (i := 668) rfl
set_option maxRecDepth 100000 in
theorem cw16 : Jvm.Cond.code yX2_readEither cX2_readEither 7 (some .boolean) ∈ lw_tbl := List.mem_of_getElem? (i := 673) rfl
set_option maxRecDepth 100000 in
theorem cw17 : Jvm.Cond.code yX2_readOne cX2_readOne 4 (some .boolean) ∈ lw_tbl := List.mem_of_getElem? (i := 677) rfl
set_option maxRecDepth 100000 in
theorem cw18 : Jvm.Cond.code yX2_readTest cX2_readTest 8 (some .boolean) ∈ lw_tbl := List.mem_of_getElem? (i := 686) rfl
set_option maxRecDepth 100000 in
theorem cw19 : Jvm.Cond.code yX3_init cX3_init 1 none ∈ lw_tbl := List.mem_of_getElem? (i := 317) rfl
set_option maxRecDepth 100000 in
theorem cw20 : Jvm.Cond.code yX3_personOf cX3_personOf 2 (some .int) ∈ lw_tbl := List.mem_of_getElem? (i := 810) rfl
set_option maxRecDepth 100000 in
theorem cw21 : Jvm.Cond.code yX3_gather cX3_gather 3 none ∈ lw_tbl := List.mem_of_getElem? (i := 748) rfl
set_option maxRecDepth 100000 in
theorem cw22 : Jvm.Cond.code yX3_bind cX3_bind 7 none ∈ lw_tbl := List.mem_of_getElem? (i := 752) rfl
set_option maxRecDepth 100000 in
theorem cw23 : Jvm.Cond.code yX3_weighPairs cX3_weighPairs 6 none ∈ lw_tbl := List.mem_of_getElem? (i := 760) rfl
set_option maxRecDepth 100000 in
theorem cw24 : Jvm.Cond.code yX3_choose cX3_choose 4 none ∈ lw_tbl := List.mem_of_getElem? (i := 765) rfl
set_option maxRecDepth 100000 in
theorem cw25 : Jvm.Cond.code yX3_weighSets cX3_weighSets 5 none ∈ lw_tbl := List.mem_of_getElem? (i := 769) rfl
set_option maxRecDepth 100000 in
theorem cw26 : Jvm.Cond.code yX3_weighBonds cX3_weighBonds 5 none ∈ lw_tbl := List.mem_of_getElem? (i := 773) rfl
set_option maxRecDepth 100000 in
theorem cw27 : Jvm.Cond.code yX3_chooseTails cX3_chooseTails 6 none ∈ lw_tbl := List.mem_of_getElem? (i := 778) rfl
set_option maxRecDepth 100000 in
theorem cw28 : Jvm.Cond.code yX3_greatestKey cX3_greatestKey 10 (some .long) ∈ lw_tbl := List.mem_of_getElem? (i := 782) rfl
set_option maxRecDepth 100000 in
theorem cw29 : Jvm.Cond.code yX3_readKey cX3_readKey 5 none ∈ lw_tbl := List.mem_of_getElem? (i := 796) rfl
set_option maxRecDepth 100000 in
theorem cw30 : Jvm.Cond.code yX4_init cX4_init 1 none ∈ lw_tbl := List.mem_of_getElem? (i := 139) rfl
set_option maxRecDepth 100000 in
theorem cw31 : Jvm.Cond.code yX4_add cX4_add 4 (some .int) ∈ lw_tbl := List.mem_of_getElem? (i := 507) rfl
set_option maxRecDepth 100000 in
theorem cw32 : Jvm.Cond.code yX4_isAlive cX4_isAlive 2 (some .boolean) ∈ lw_tbl := List.mem_of_getElem? (i := 515) rfl
set_option maxRecDepth 100000 in
theorem cw33 : Jvm.Cond.code yX5_init cX5_init 1 none ∈ lw_tbl := List.mem_of_getElem? (i := 284) rfl
set_option maxRecDepth 100000 in
theorem cw34 : Jvm.Cond.code yX5_take cX5_take 6 none ∈ lw_tbl := List.mem_of_getElem? (i := 536) rfl
set_option maxRecDepth 100000 in
theorem cw35 : Jvm.Cond.code yX5_takeVersion cX5_takeVersion 4 none ∈ lw_tbl := List.mem_of_getElem? (i := 541) rfl
set_option maxRecDepth 100000 in
theorem cw36 : Jvm.Cond.code yX5_isThere cX5_isThere 2 (some .boolean) ∈ lw_tbl := List.mem_of_getElem? (i := 549) rfl
set_option maxRecDepth 100000 in
theorem cw37 : Jvm.Cond.code yX5_valueOf cX5_valueOf 3 (some .int) ∈ lw_tbl := List.mem_of_getElem? (i := 545) rfl
set_option maxRecDepth 100000 in
theorem cw38 : Jvm.Cond.code yX6_init cX6_init 1 none ∈ lw_tbl := List.mem_of_getElem? (i := 201) rfl
set_option maxRecDepth 100000 in
theorem cw39 : Jvm.Cond.code yX6_append cX6_append 3 none ∈ lw_tbl := List.mem_of_getElem? (i := 566) rfl
set_option maxRecDepth 100000 in
theorem cw40 : Jvm.Cond.code yX6_sortOf cX6_sortOf 1 (some .int) ∈ lw_tbl := List.mem_of_getElem? (i := 569) rfl
set_option maxRecDepth 100000 in
theorem cw41 : Jvm.Cond.code yX6_rewind cX6_rewind 1 none ∈ lw_tbl := List.mem_of_getElem? (i := 589) rfl
set_option maxRecDepth 100000 in
theorem cw42 : Jvm.Cond.code yX6_advance cX6_advance 1 none ∈ lw_tbl := List.mem_of_getElem? (i := 593) rfl
set_option maxRecDepth 100000 in
theorem cw43 : Jvm.Cond.code yX6_takeWord cX6_takeWord 1 none ∈ lw_tbl := List.mem_of_getElem? (i := 597) rfl
set_option maxRecDepth 100000 in
theorem cw44 : Jvm.Cond.code yX6_takeNumber cX6_takeNumber 2 none ∈ lw_tbl := List.mem_of_getElem? (i := 601) rfl
set_option maxRecDepth 100000 in
theorem cw45 : Jvm.Cond.code yX6_reads cX6_reads 3 (some .boolean) ∈ lw_tbl := List.mem_of_getElem? (i := 614) rfl
set_option maxRecDepth 100000 in
theorem cw46 : Jvm.Cond.code yX7_init cX7_init 1 none ∈ lw_tbl := List.mem_of_getElem? (i := 165) rfl
set_option maxRecDepth 100000 in
theorem cw47 : Jvm.Cond.code yX7_add cX7_add 7 none ∈ lw_tbl := List.mem_of_getElem? (i := 524) rfl
set_option maxRecDepth 100000 in
theorem cw48 : Jvm.Cond.code yX8_init cX8_init 1 none ∈ lw_tbl := List.mem_of_getElem? (i := 373) rfl
set_option maxRecDepth 100000 in
theorem cw49 : Jvm.Cond.code yX8_gather cX8_gather 9 none ∈ lw_tbl := List.mem_of_getElem? (i := 835) rfl
set_option maxRecDepth 100000 in
theorem cw50 : Jvm.Cond.code yX8_choose cX8_choose 6 none ∈ lw_tbl := List.mem_of_getElem? (i := 845) rfl
set_option maxRecDepth 100000 in
theorem cw51 : Jvm.Cond.code yX8_isAhead cX8_isAhead 3 (some .boolean) ∈ lw_tbl := List.mem_of_getElem? (i := 861) rfl
set_option maxRecDepth 100000 in
theorem cw52 : Jvm.Cond.code yX8_isFirst cX8_isFirst 3 (some .boolean) ∈ lw_tbl := List.mem_of_getElem? (i := 849) rfl
set_option maxRecDepth 100000 in
theorem cw53 : Jvm.Cond.code yX8_sumFor cX8_sumFor 4 (some .int) ∈ lw_tbl := List.mem_of_getElem? (i := 853) rfl
set_option maxRecDepth 100000 in
theorem cw54 : Jvm.Cond.code yX8_latestFor cX8_latestFor 4 (some .int) ∈ lw_tbl := List.mem_of_getElem? (i := 857) rfl
set_option maxRecDepth 100000 in
theorem cw55 : Jvm.Cond.code yX8_strongestFor cX8_strongestFor 5 (some .int) ∈ lw_tbl := List.mem_of_getElem? (i := 865) rfl
set_option maxRecDepth 100000 in
theorem cw56 : Jvm.Cond.code yX9_init cX9_init 2 none ∈ lw_tbl := List.mem_of_getElem? (i := 124) rfl
set_option maxRecDepth 100000 in
theorem cw57 : Jvm.Cond.code yX9_weight cX9_weight 7 (some .int) ∈ lw_tbl := List.mem_of_getElem? (i := 840) rfl
set_option maxRecDepth 100000 in
theorem cw58 : Jvm.Cond.code yX10_init cX10_init 3 none ∈ lw_tbl := List.mem_of_getElem? (i := 407) rfl
set_option maxRecDepth 100000 in
theorem cw59 : Jvm.Cond.code yX10_add cX10_add 4 none ∈ lw_tbl := List.mem_of_getElem? (i := 901) rfl
set_option maxRecDepth 100000 in
theorem cw60 : Jvm.Cond.code yX10_has cX10_has 5 (some .boolean) ∈ lw_tbl := List.mem_of_getElem? (i := 897) rfl
set_option maxRecDepth 100000 in
theorem cw61 : Jvm.Cond.code yX11_init cX11_init 1 none ∈ lw_tbl := List.mem_of_getElem? (i := 82) rfl
set_option maxRecDepth 100000 in
theorem cw62 : Jvm.Cond.code yX11_trust cX11_trust 4 (some .boolean) ∈ lw_tbl := List.mem_of_getElem? (i := 485) rfl
set_option maxRecDepth 100000 in
theorem cw63 : Jvm.Cond.code yX11_fade cX11_fade 3 (some .boolean) ∈ lw_tbl := List.mem_of_getElem? (i := 495) rfl
set_option maxRecDepth 100000 in
theorem cw64 : Jvm.Cond.code yX11_rights cX11_rights 3 (some .boolean) ∈ lw_tbl := List.mem_of_getElem? (i := 499) rfl
set_option maxRecDepth 100000 in
theorem cw65 : Jvm.Cond.code yX11_row cX11_row 2 (some .int) ∈ lw_tbl := List.mem_of_getElem? (i := 503) rfl
set_option maxRecDepth 100000 in
theorem cw66 : Jvm.Cond.code yX11_set cX11_set 5 (some .int) ∈ lw_tbl := List.mem_of_getElem? (i := 511) rfl
set_option maxRecDepth 100000 in
theorem cw67 : Jvm.Cond.code yX11_value cX11_value 5 (some .int) ∈ lw_tbl := List.mem_of_getElem? (i := 528) rfl
set_option maxRecDepth 100000 in
theorem cw68 : Jvm.Cond.code yX11_forget cX11_forget 2 (some .boolean) ∈ lw_tbl := List.mem_of_getElem? (i := 554) rfl
set_option maxRecDepth 100000 in
theorem cw69 : Jvm.Cond.code yX11_later cX11_later 2 (some .int) ∈ lw_tbl := List.mem_of_getElem? (i := 558) rfl
set_option maxRecDepth 100000 in
theorem cw70 : Jvm.Cond.code yX11_feed cX11_feed 6 (some .int) ∈ lw_tbl := List.mem_of_getElem? (i := 562) rfl
set_option maxRecDepth 100000 in
theorem cw71 : Jvm.Cond.code yX11_end cX11_end 2 (some .int) ∈ lw_tbl := List.mem_of_getElem? (i := 573) rfl
set_option maxRecDepth 100000 in
theorem cw72 : Jvm.Cond.code yX11_rules cX11_rules 3 (some .int) ∈ lw_tbl := List.mem_of_getElem? (i := 577) rfl
set_option maxRecDepth 100000 in
theorem cw73 : Jvm.Cond.code yX11_fault cX11_fault 2 (some .int) ∈ lw_tbl := List.mem_of_getElem? (i := 702) rfl
set_option maxRecDepth 100000 in
theorem cw74 : Jvm.Cond.code yX11_score cX11_score 5 (some .int) ∈ lw_tbl := List.mem_of_getElem? (i := 706) rfl
set_option maxRecDepth 100000 in
theorem cw75 : Jvm.Cond.code yX11_hand cX11_hand 4 (some .int) ∈ lw_tbl := List.mem_of_getElem? (i := 724) rfl
set_option maxRecDepth 100000 in
theorem cw76 : Jvm.Cond.code yX11_unhand cX11_unhand 2 (some .boolean) ∈ lw_tbl := List.mem_of_getElem? (i := 732) rfl
set_option maxRecDepth 100000 in
theorem cw77 : Jvm.Cond.code yX11_persons cX11_persons 3 (some .int) ∈ lw_tbl := List.mem_of_getElem? (i := 740) rfl
set_option maxRecDepth 100000 in
theorem cw78 : Jvm.Cond.code yX11_worth cX11_worth 3 (some .int) ∈ lw_tbl := List.mem_of_getElem? (i := 801) rfl
set_option maxRecDepth 100000 in
theorem cw79 : Jvm.Cond.code yX11_person cX11_person 4 (some .int) ∈ lw_tbl := List.mem_of_getElem? (i := 806) rfl
set_option maxRecDepth 100000 in
theorem cw80 : Jvm.Cond.code yX11_golden cX11_golden 6 (some .int) ∈ lw_tbl := List.mem_of_getElem? (i := 814) rfl
set_option maxRecDepth 100000 in
theorem cw81 : Jvm.Cond.code yX11_from cX11_from 6 (some .int) ∈ lw_tbl := List.mem_of_getElem? (i := 869) rfl
set_option maxRecDepth 100000 in
theorem cw82 : Jvm.Cond.code yX11_torn cX11_torn 6 (some .int) ∈ lw_tbl := List.mem_of_getElem? (i := 873) rfl
set_option maxRecDepth 100000 in
theorem cw83 : Jvm.Cond.code yX11_fix cX11_fix 4 (some .int) ∈ lw_tbl := List.mem_of_getElem? (i := 877) rfl
set_option maxRecDepth 100000 in
theorem cw84 : Jvm.Cond.code yX11_unfix cX11_unfix 2 (some .boolean) ∈ lw_tbl := List.mem_of_getElem? (i := 881) rfl
set_option maxRecDepth 100000 in
theorem cw85 : Jvm.Cond.code yX11_changes cX11_changes 2 (some .int) ∈ lw_tbl := List.mem_of_getElem? (i := 885) rfl
set_option maxRecDepth 100000 in
theorem cw86 : Jvm.Cond.code yX11_change cX11_change 4 (some .int) ∈ lw_tbl := List.mem_of_getElem? (i := 905) rfl
set_option maxRecDepth 100000 in
theorem cw87 : Jvm.Cond.code yX11_accept cX11_accept 3 (some .boolean) ∈ lw_tbl := List.mem_of_getElem? (i := 913) rfl
set_option maxRecDepth 100000 in
theorem cw88 : Jvm.Cond.code yX11_refuse cX11_refuse 3 (some .boolean) ∈ lw_tbl := List.mem_of_getElem? (i := 917) rfl
set_option maxRecDepth 100000 in
theorem cw89 : Jvm.Cond.code yX11_about cX11_about 2 (some .int) ∈ lw_tbl := List.mem_of_getElem? (i := 921) rfl
set_option maxRecDepth 100000 in
theorem cw90 : Jvm.Cond.code yX11_isSource cX11_isSource 1 (some .boolean) ∈ lw_tbl := List.mem_of_getElem? (i := 488) rfl
set_option maxRecDepth 100000 in
theorem cw91 : Jvm.Cond.code yX11_isField cX11_isField 1 (some .boolean) ∈ lw_tbl := List.mem_of_getElem? (i := 491) rfl
set_option maxRecDepth 100000 in
theorem cw92 : Jvm.Cond.code yX11_isValue cX11_isValue 1 (some .boolean) ∈ lw_tbl := List.mem_of_getElem? (i := 518) rfl
set_option maxRecDepth 100000 in
theorem cw93 : Jvm.Cond.code yX11_look cX11_look 3 none ∈ lw_tbl := List.mem_of_getElem? (i := 532) rfl
set_option maxRecDepth 100000 in
theorem cw94 : Jvm.Cond.code yX11_part cX11_part 3 (some .boolean) ∈ lw_tbl := List.mem_of_getElem? (i := 744) rfl
set_option maxRecDepth 100000 in
theorem cw95 : Jvm.Cond.code yX11_personAsked cX11_personAsked 5 (some .int) ∈ lw_tbl := List.mem_of_getElem? (i := 818) rfl
set_option maxRecDepth 100000 in
theorem cw96 : Jvm.Cond.code yX11_hear cX11_hear 3 none ∈ lw_tbl := List.mem_of_getElem? (i := 831) rfl
set_option maxRecDepth 100000 in
theorem cw97 : Jvm.Cond.code yX11_goldenOf cX11_goldenOf 4 (some .int) ∈ lw_tbl := List.mem_of_getElem? (i := 822) rfl
set_option maxRecDepth 100000 in
theorem cw98 : Jvm.Cond.code yX11_latestFix cX11_latestFix 4 (some .int) ∈ lw_tbl := List.mem_of_getElem? (i := 826) rfl
set_option maxRecDepth 100000 in
theorem cw99 : Jvm.Cond.code yX11_hasWish cX11_hasWish 3 (some .boolean) ∈ lw_tbl := List.mem_of_getElem? (i := 909) rfl
set_option maxRecDepth 100000 in
theorem cw100 : Jvm.Cond.code yX11_listWishes cX11_listWishes 3 none ∈ lw_tbl := List.mem_of_getElem? (i := 889) rfl
set_option maxRecDepth 100000 in
theorem cw101 : Jvm.Cond.code yX11_listWishesOf cX11_listWishesOf 6 none ∈ lw_tbl := List.mem_of_getElem? (i := 893) rfl
set_option maxRecDepth 100000 in
theorem cw102 : Jvm.Cond.code yX12_init cX12_init 2 none ∈ lw_tbl := List.mem_of_getElem? (i := 926) rfl
set_option maxRecDepth 100000 in
theorem cw103 : Jvm.Cond.code yX12_isSource cX12_isSource 1 (some .boolean) ∈ lw_tbl := List.mem_of_getElem? (i := 1184) rfl
set_option maxRecDepth 100000 in
theorem cw104 : Jvm.Cond.code yX12_isField cX12_isField 1 (some .boolean) ∈ lw_tbl := List.mem_of_getElem? (i := 1187) rfl
set_option maxRecDepth 100000 in
theorem cw105 : Jvm.Cond.code yX12_trust cX12_trust 4 (some .boolean) ∈ lw_tbl := List.mem_of_getElem? (i := 1181) rfl
set_option maxRecDepth 100000 in
theorem cw106 : Jvm.Cond.code yX12_fade cX12_fade 3 (some .boolean) ∈ lw_tbl := List.mem_of_getElem? (i := 1191) rfl
set_option maxRecDepth 100000 in
theorem cw107 : Jvm.Cond.code yX12_rights cX12_rights 3 (some .boolean) ∈ lw_tbl := List.mem_of_getElem? (i := 1195) rfl
set_option maxRecDepth 100000 in
theorem cw108 : Jvm.Cond.code yX12_row cX12_row 2 (some .int) ∈ lw_tbl := List.mem_of_getElem? (i := 1199) rfl
set_option maxRecDepth 100000 in
theorem cw109 : Jvm.Cond.code yX12_isRow cX12_isRow 2 (some .boolean) ∈ lw_tbl := List.mem_of_getElem? (i := 1207) rfl
set_option maxRecDepth 100000 in
theorem cw110 : Jvm.Cond.code yX12_isThere cX12_isThere 3 (some .boolean) ∈ lw_tbl := List.mem_of_getElem? (i := 1332) rfl
set_option maxRecDepth 100000 in
theorem cw111 : Jvm.Cond.code yX12_isValue cX12_isValue 1 (some .boolean) ∈ lw_tbl := List.mem_of_getElem? (i := 1210) rfl
set_option maxRecDepth 100000 in
theorem cw112 : Jvm.Cond.code yX12_tell cX12_tell 6 none ∈ lw_tbl := List.mem_of_getElem? (i := 1216) rfl
set_option maxRecDepth 100000 in
theorem cw113 : Jvm.Cond.code yX12_set cX12_set 5 (some .int) ∈ lw_tbl := List.mem_of_getElem? (i := 1203) rfl
set_option maxRecDepth 100000 in
theorem cw114 : Jvm.Cond.code yX12_version cX12_version 7 (some .int) ∈ lw_tbl := List.mem_of_getElem? (i := 1228) rfl
set_option maxRecDepth 100000 in
theorem cw115 : Jvm.Cond.code yX12_valueOf cX12_valueOf 6 (some .int) ∈ lw_tbl := List.mem_of_getElem? (i := 1224) rfl
set_option maxRecDepth 100000 in
theorem cw116 : Jvm.Cond.code yX12_value cX12_value 5 (some .int) ∈ lw_tbl := List.mem_of_getElem? (i := 1220) rfl
set_option maxRecDepth 100000 in
theorem cw117 : Jvm.Cond.code yX12_forget cX12_forget 2 (some .boolean) ∈ lw_tbl := List.mem_of_getElem? (i := 1232) rfl
set_option maxRecDepth 100000 in
theorem cw118 : Jvm.Cond.code yX12_later cX12_later 2 (some .int) ∈ lw_tbl := List.mem_of_getElem? (i := 1236) rfl
set_option maxRecDepth 100000 in
theorem cw119 : Jvm.Cond.code yX12_feed cX12_feed 6 (some .int) ∈ lw_tbl := List.mem_of_getElem? (i := 1240) rfl
set_option maxRecDepth 100000 in
theorem cw120 : Jvm.Cond.code yX12_four cX12_four 3 none ∈ lw_tbl := List.mem_of_getElem? (i := 1244) rfl
set_option maxRecDepth 100000 in
theorem cw121 : Jvm.Cond.code yX12_end cX12_end 2 (some .int) ∈ lw_tbl := List.mem_of_getElem? (i := 1248) rfl
set_option maxRecDepth 100000 in
theorem cw122 : Jvm.Cond.code yX12_here cX12_here 2 (some .int) ∈ lw_tbl := List.mem_of_getElem? (i := 1260) rfl
set_option maxRecDepth 100000 in
theorem cw123 : Jvm.Cond.code yX12_isLetter cX12_isLetter 1 (some .boolean) ∈ lw_tbl := List.mem_of_getElem? (i := 1263) rfl
set_option maxRecDepth 100000 in
theorem cw124 : Jvm.Cond.code yX12_isDigit cX12_isDigit 1 (some .boolean) ∈ lw_tbl := List.mem_of_getElem? (i := 1266) rfl
set_option maxRecDepth 100000 in
theorem cw125 : Jvm.Cond.code yX12_next cX12_next 3 none ∈ lw_tbl := List.mem_of_getElem? (i := 1256) rfl
set_option maxRecDepth 100000 in
theorem cw126 : Jvm.Cond.code yX12_wrong cX12_wrong 2 none ∈ lw_tbl := List.mem_of_getElem? (i := 1276) rfl
set_option maxRecDepth 100000 in
theorem cw127 : Jvm.Cond.code yX12_isWord cX12_isWord 3 (some .boolean) ∈ lw_tbl := List.mem_of_getElem? (i := 1271) rfl
set_option maxRecDepth 100000 in
theorem cw128 : Jvm.Cond.code yX12_step cX12_step 4 none ∈ lw_tbl := List.mem_of_getElem? (i := 1307) rfl
set_option maxRecDepth 100000 in
theorem cw129 : Jvm.Cond.code yX12_told cX12_told 4 (some .int) ∈ lw_tbl := List.mem_of_getElem? (i := 1280) rfl
set_option maxRecDepth 100000 in
theorem cw130 : Jvm.Cond.code yX12_hold cX12_hold 2 none ∈ lw_tbl := List.mem_of_getElem? (i := 1311) rfl
set_option maxRecDepth 100000 in
theorem cw131 : Jvm.Cond.code yX12_pop cX12_pop 1 none ∈ lw_tbl := List.mem_of_getElem? (i := 1303) rfl
set_option maxRecDepth 100000 in
theorem cw132 : Jvm.Cond.code yX12_settle cX12_settle 4 none ∈ lw_tbl := List.mem_of_getElem? (i := 1299) rfl
set_option maxRecDepth 100000 in
theorem cw133 : Jvm.Cond.code yX12_isOpen cX12_isOpen 3 (some .boolean) ∈ lw_tbl := List.mem_of_getElem? (i := 1289) rfl
set_option maxRecDepth 100000 in
theorem cw134 : Jvm.Cond.code yX12_readE cX12_readE 2 none ∈ lw_tbl := List.mem_of_getElem? (i := 1285) rfl
set_option maxRecDepth 100000 in
theorem cw135 : Jvm.Cond.code yX12_operand cX12_operand 6 (some .boolean) ∈ lw_tbl := List.mem_of_getElem? (i := 1315) rfl
set_option maxRecDepth 100000 in
theorem cw136 : Jvm.Cond.code yX12_sign cX12_sign 2 (some .boolean) ∈ lw_tbl := List.mem_of_getElem? (i := 1293) rfl
set_option maxRecDepth 100000 in
theorem cw137 : Jvm.Cond.code yX12_rules cX12_rules 3 (some .int) ∈ lw_tbl := List.mem_of_getElem? (i := 1252) rfl
set_option maxRecDepth 100000 in
theorem cw138 : Jvm.Cond.code yX12_fault cX12_fault 2 (some .int) ∈ lw_tbl := List.mem_of_getElem? (i := 1324) rfl
set_option maxRecDepth 100000 in
theorem cw139 : Jvm.Cond.code yX12_holds cX12_holds 12 (some .boolean) ∈ lw_tbl := List.mem_of_getElem? (i := 1340) rfl
set_option maxRecDepth 100000 in
theorem cw140 : Jvm.Cond.code yX12_scoreOf cX12_scoreOf 7 (some .int) ∈ lw_tbl := List.mem_of_getElem? (i := 1336) rfl
set_option maxRecDepth 100000 in
theorem cw141 : Jvm.Cond.code yX12_score cX12_score 5 (some .int) ∈ lw_tbl := List.mem_of_getElem? (i := 1328) rfl
set_option maxRecDepth 100000 in
theorem cw142 : Jvm.Cond.code yX12_isKnown cX12_isKnown 3 (some .boolean) ∈ lw_tbl := List.mem_of_getElem? (i := 1367) rfl
set_option maxRecDepth 100000 in
theorem cw143 : Jvm.Cond.code yX12_hand cX12_hand 4 (some .int) ∈ lw_tbl := List.mem_of_getElem? (i := 1344) rfl
set_option maxRecDepth 100000 in
theorem cw144 : Jvm.Cond.code yX12_unhand cX12_unhand 2 (some .boolean) ∈ lw_tbl := List.mem_of_getElem? (i := 1348) rfl
set_option maxRecDepth 100000 in
theorem cw145 : Jvm.Cond.code yX12_fix cX12_fix 4 (some .int) ∈ lw_tbl := List.mem_of_getElem? (i := 1352) rfl
set_option maxRecDepth 100000 in
theorem cw146 : Jvm.Cond.code yX12_unfix cX12_unfix 2 (some .boolean) ∈ lw_tbl := List.mem_of_getElem? (i := 1356) rfl
set_option maxRecDepth 100000 in
theorem cw147 : Jvm.Cond.code yX12_part cX12_part 8 none ∈ lw_tbl := List.mem_of_getElem? (i := 1364) rfl
set_option maxRecDepth 100000 in
theorem cw148 : Jvm.Cond.code yX12_canBe cX12_canBe 7 (some .boolean) ∈ lw_tbl := List.mem_of_getElem? (i := 1371) rfl
set_option maxRecDepth 100000 in
theorem cw149 : Jvm.Cond.code yX12_look cX12_look 2 none ∈ lw_tbl := List.mem_of_getElem? (i := 1375) rfl
set_option maxRecDepth 100000 in
theorem cw150 : Jvm.Cond.code yX12_persons cX12_persons 3 (some .int) ∈ lw_tbl := List.mem_of_getElem? (i := 1360) rfl
set_option maxRecDepth 100000 in
theorem cw151 : Jvm.Cond.code yX12_worth cX12_worth 3 (some .int) ∈ lw_tbl := List.mem_of_getElem? (i := 1379) rfl
set_option maxRecDepth 100000 in
theorem cw152 : Jvm.Cond.code yX12_person cX12_person 4 (some .int) ∈ lw_tbl := List.mem_of_getElem? (i := 1384) rfl
set_option maxRecDepth 100000 in
theorem cw153 : Jvm.Cond.code yX12_gold cX12_gold 11 none ∈ lw_tbl := List.mem_of_getElem? (i := 1396) rfl
set_option maxRecDepth 100000 in
theorem cw154 : Jvm.Cond.code yX12_tells cX12_tells 5 (some .boolean) ∈ lw_tbl := List.mem_of_getElem? (i := 1392) rfl
set_option maxRecDepth 100000 in
theorem cw155 : Jvm.Cond.code yX12_golden cX12_golden 5 (some .int) ∈ lw_tbl := List.mem_of_getElem? (i := 1388) rfl
set_option maxRecDepth 100000 in
theorem cw156 : Jvm.Cond.code yX12_from cX12_from 5 (some .int) ∈ lw_tbl := List.mem_of_getElem? (i := 1402) rfl
set_option maxRecDepth 100000 in
theorem cw157 : Jvm.Cond.code yX12_torn cX12_torn 5 (some .int) ∈ lw_tbl := List.mem_of_getElem? (i := 1406) rfl
set_option maxRecDepth 100000 in
theorem cw158 : Jvm.Cond.code yX12_isRefused cX12_isRefused 6 (some .boolean) ∈ lw_tbl := List.mem_of_getElem? (i := 1418) rfl
set_option maxRecDepth 100000 in
theorem cw159 : Jvm.Cond.code yX12_seek cX12_seek 4 none ∈ lw_tbl := List.mem_of_getElem? (i := 1414) rfl
set_option maxRecDepth 100000 in
theorem cw160 : Jvm.Cond.code yX12_changes cX12_changes 2 (some .int) ∈ lw_tbl := List.mem_of_getElem? (i := 1410) rfl
set_option maxRecDepth 100000 in
theorem cw161 : Jvm.Cond.code yX12_isChange cX12_isChange 3 (some .boolean) ∈ lw_tbl := List.mem_of_getElem? (i := 1426) rfl
set_option maxRecDepth 100000 in
theorem cw162 : Jvm.Cond.code yX12_change cX12_change 4 (some .int) ∈ lw_tbl := List.mem_of_getElem? (i := 1422) rfl
set_option maxRecDepth 100000 in
theorem cw163 : Jvm.Cond.code yX12_accept cX12_accept 3 (some .boolean) ∈ lw_tbl := List.mem_of_getElem? (i := 1430) rfl
set_option maxRecDepth 100000 in
theorem cw164 : Jvm.Cond.code yX12_refuse cX12_refuse 3 (some .boolean) ∈ lw_tbl := List.mem_of_getElem? (i := 1434) rfl
set_option maxRecDepth 100000 in
theorem cw165 : Jvm.Cond.code yX12_about cX12_about 2 (some .int) ∈ lw_tbl := List.mem_of_getElem? (i := 1438) rfl
set_option maxRecDepth 100000 in
theorem cw166 : Jvm.Cond.code yJ6_bitCount_0f7a4 cJ6_bitCount_0f7a4 1 (some .int) ∈ lw_tbl := List.mem_of_getElem? (i := 786) rfl
set_option maxRecDepth 100000 in
theorem cw167 : Jvm.Cond.code yJ0_length_8abf5 cJ0_length_8abf5 1 (some .int) ∈ lw_tbl := List.mem_of_getElem? (i := 618) rfl
set_option maxRecDepth 100000 in
theorem cw168 : Jvm.Cond.code yJ0_charAt_5068e cJ0_charAt_5068e 2 (some .char) ∈ lw_tbl := List.mem_of_getElem? (i := 628) rfl
set_option maxRecDepth 100000 in
theorem cw169 : Jvm.Cond.code yJ0_coder_7d493 cJ0_coder_7d493 1 (some .byte) ∈ lw_tbl := List.mem_of_getElem? (i := 622) rfl
set_option maxRecDepth 100000 in
theorem cw170 : Jvm.Cond.code yJ0_isLatin1_aae02 cJ0_isLatin1_aae02 1 (some .boolean) ∈ lw_tbl := List.mem_of_getElem? (i := 632) rfl
set_option maxRecDepth 100000 in
theorem cw171 : Jvm.Cond.code yJ0_checkIndex_df160 cJ0_checkIndex_df160 2 none ∈ lw_tbl := List.mem_of_getElem? (i := 638) rfl
set_option maxRecDepth 100000 in
theorem cw172 : Jvm.Cond.code yJ1_charAt_3b067 cJ1_charAt_3b067 2 (some .char) ∈ lw_tbl := List.mem_of_getElem? (i := 635) rfl
set_option maxRecDepth 100000 in
theorem cw173 : Jvm.Cond.code yJ3_checkIndex_8e157 cJ3_checkIndex_8e157 3 (some .int) ∈ lw_tbl := List.mem_of_getElem? (i := 643) rfl
def mwI : List (Nat × Nat × Nat) := [(60, 89, 0), (60, 583, 584), (60, 680, 681), (60, 695, 696), (60, 709, 710), (60, 714, 10), (60, 719, 11), (66, 247, 0), (66, 726, 727), (66, 734, 735), (66, 754, 755), (65, 232, 0), (65, 579, 580), (65, 604, 4), (65, 608, 5), (65, 667, 6), (65, 672, 7), (65, 676, 8), (65, 685, 9), (69, 316, 0), (69, 808, 809), (69, 746, 747), (69, 750, 751), (69, 758, 759), (69, 763, 764), (69, 768, 13), (69, 772, 14), (69, 777, 15), (69, 781, 16), (69, 795, 17), (62, 138, 0), (62, 505, 506), (62, 513, 514), (68, 283, 0), (68, 534, 535), (68, 540, 1), (68, 547, 548), (68, 543, 544), (64, 200, 0), (64, 564, 565), (64, 568, 0), (64, 587, 588), (64, 591, 592), (64, 596, 2), (64, 600, 3), (64, 612, 613), (63, 164, 0), (63, 522, 523), (70, 372, 0), (70, 833, 834), (70, 843, 844), (70, 860, 0), (70, 848, 22), (70, 852, 23), (70, 856, 24), (70, 864, 25), (61, 123, 0), (61, 838, 839), (71, 406, 0), (71, 899, 900), (71, 895, 896), (59, 81, 0), (59, 483, 484), (59, 493, 494), (59, 497, 498), (59, 501, 502), (59, 509, 510), (59, 526, 527), (59, 552, 553), (59, 556, 557), (59, 560, 561), (59, 571, 572), (59, 575, 576), (59, 700, 701), (59, 704, 705), (59, 722, 723), (59, 730, 731), (59, 738, 739), (59, 799, 800), (59, 804, 805), (59, 812, 813), (59, 867, 868), (59, 871, 872), (59, 875, 876), (59, 879, 880), (59, 883, 884), (59, 903, 904), (59, 911, 912), (59, 915, 916), (59, 919, 920), (59, 487, 0), (59, 490, 0), (59, 517, 0), (59, 531, 0), (59, 743, 12), (59, 817, 18), (59, 830, 21), (59, 821, 19), (59, 825, 20), (59, 908, 28), (59, 888, 26), (59, 892, 27), (72, 925, 0), (72, 1183, 0), (72, 1186, 0), (72, 1179, 1180), (72, 1189, 1190), (72, 1193, 1194), (72, 1197, 1198), (72, 1206, 29), (72, 1331, 47), (72, 1209, 0), (72, 1215, 30), (72, 1201, 1202), (72, 1227, 32), (72, 1223, 31), (72, 1218, 1219), (72, 1230, 1231), (72, 1234, 1235), (72, 1238, 1239), (72, 1243, 33), (72, 1246, 1247), (72, 1259, 35), (72, 1262, 0), (72, 1265, 0), (72, 1255, 34), (72, 1275, 37), (72, 1270, 36), (72, 1306, 44), (72, 1279, 38), (72, 1310, 45), (72, 1302, 43), (72, 1298, 42), (72, 1288, 40), (72, 1284, 39), (72, 1314, 46), (72, 1292, 41), (72, 1250, 1251), (72, 1322, 1323), (72, 1339, 49), (72, 1335, 48), (72, 1326, 1327), (72, 1366, 0), (72, 1342, 1343), (72, 1346, 1347), (72, 1350, 1351), (72, 1354, 1355), (72, 1363, 50), (72, 1370, 51), (72, 1374, 52), (72, 1358, 1359), (72, 1377, 1378), (72, 1382, 1383), (72, 1395, 54), (72, 1391, 53), (72, 1386, 1387), (72, 1400, 1401), (72, 1404, 1405), (72, 1417, 56), (72, 1413, 55), (72, 1408, 1409), (72, 1425, 57), (72, 1420, 1421), (72, 1428, 1429), (72, 1432, 1433), (72, 1436, 1437), (77, 785, 0), (73, 616, 617), (73, 626, 627), (73, 620, 621), (73, 630, 631), (73, 637, 0), (74, 634, 0), (75, 642, 0), (0, 0, 0)]
def narL : List Nat := [0, 0, 3, 1, 4, 6, 5, 1, 4, 2, 2, 0, 2, 2, 2, 3, 3, 3, 2, 0, 1, 1, 2, 3, 0, 0, 1, 0, 2, 1, 0, 2, 1, 0, 4, 2, 1, 2, 0, 1, 1, 0, 0, 0, 0, 1, 0, 6, 0, 6, 0, 3, 1, 1, 1, 1, 0, 3, 1, 3, 3, 0, 3, 2, 2, 1, 4, 4, 1, 1, 5, 1, 0, 1, 4, 3, 1, 2, 2, 3, 4, 4, 4, 3, 1, 1, 3, 2, 2, 1, 1, 1, 1, 2, 2, 4, 2, 2, 2, 2, 1, 2, 0, 1, 1, 3, 2, 2, 1, 1, 2, 1, 5, 4, 4, 4, 4, 1, 1, 5, 1, 1, 1, 1, 1, 0, 1, 1, 3, 2, 1, 0, 1, 0, 0, 0, 0, 0, 1, 5, 4, 4, 3, 3, 1, 3, 1, 2, 2, 0, 2, 2, 3, 4, 4, 4, 4, 4, 3, 1, 1, 2, 3, 2, 2, 1, 1, 0, 1, 0, 0, 2, 2, 3, 1]
def nar (k : Nat) : Nat := narL.getD k 0
def mwB (k : Nat) : Bool :=
  decide (lw_tbl[(mwI.getD k (0, 0, 0)).1]? = some (Jvm.Cond.initialized (ynm k).cls)) &&
  decide (lw_tbl[(mwI.getD k (0, 0, 0)).2.1]? = some (if knd k = 0 then Jvm.Cond.static (ynm k) else Jvm.Cond.instanceMethod (ynm k))) &&
  (knd k != 1 || decide (lw_tbl[(mwI.getD k (0, 0, 0)).2.2]? = some (Jvm.Cond.selects (ynm k).cls (ynm k) (ynm k)))) &&
  decide ((ynm k).cls ≠ "java/lang/invoke/MethodHandle" ∧ (ynm k).cls ≠ "java/lang/invoke/VarHandle" ∧ (parseMethodDescriptor (ynm k).desc).map (fun d => d.parameters.length) = some (nar k)) &&
  plainName (ynm k).cls && decide (rn_ (own k) = (ynm k).cls) && (knd k != 2 || decide ((ynm k).name = "<init>")) && decide (mxl k + 19 ≤ 64)
theorem mw_0 : ((List.range 29).map (· + 0)).all mwB = true := by decide +kernel
theorem mw_29 : ((List.range 29).map (· + 29)).all mwB = true := by decide +kernel
theorem mw_58 : ((List.range 29).map (· + 58)).all mwB = true := by decide +kernel
theorem mw_87 : ((List.range 29).map (· + 87)).all mwB = true := by decide +kernel
theorem mw_116 : ((List.range 29).map (· + 116)).all mwB = true := by decide +kernel
theorem mw_145 : ((List.range 29).map (· + 145)).all mwB = true := by decide +kernel
theorem mw : ∀ k, k < 174 → mwB k = true := by
  intro k hk
  have key : ∀ n, ((List.range 29).map (· + n)).all mwB = true → n ≤ k → k < n + 29 → mwB k = true := fun n h h1 h2 => List.all_eq_true.mp h k (List.mem_map.mpr ⟨k - n, List.mem_range.mpr (by omega), by omega⟩)
  rcases (show k < 29 ∨ (29 ≤ k ∧ k < 58) ∨ (58 ≤ k ∧ k < 87) ∨ (87 ≤ k ∧ k < 116) ∨ (116 ≤ k ∧ k < 145) ∨ (145 ≤ k ∧ k < 174) by omega) with h | h | h | h | h | h
  · exact key 0 mw_0 (by omega) (by omega)
  · exact key 29 mw_29 h.1 (by omega)
  · exact key 58 mw_58 h.1 (by omega)
  · exact key 87 mw_87 h.1 (by omega)
  · exact key 116 mw_116 h.1 (by omega)
  · exact key 145 mw_145 h.1 (by omega)
/-- code lists beside method rows -/
def okAll : List (List AE) → List (MethodName × ByteArray × Nat × Option FieldType × Nat × Nat) → Prop
  | c :: cs, m :: ms => c.all (okE m.2.1 m.2.2.2.2.1 m.2.2.2.2.2) = true ∧ okAll cs ms
  | [], [] => True
  | _, _ => False
def cwAll : List (MethodName × ByteArray × Nat × Option FieldType × Nat × Nat) → Prop
  | [] => True
  | [_] => True
  | m :: n :: ms => Jvm.Cond.code m.1 m.2.1 m.2.2.1 m.2.2.2.1 ∈ lw_tbl ∧ cwAll (n :: ms)
set_option maxRecDepth 20000 in
theorem okAll_t : okAll cT mT := And.intro ok0 (And.intro ok1 (And.intro ok2 (And.intro ok3 (And.intro ok4 (And.intro ok5 (And.intro ok6 (And.intro ok7 (And.intro ok8 (And.intro ok9 (And.intro ok10 (And.intro ok11 (And.intro ok12 (And.intro ok13 (And.intro ok14 (And.intro ok15 (And.intro ok16 (And.intro ok17 (And.intro ok18 (And.intro ok19 (And.intro ok20 (And.intro ok21 (And.intro ok22 (And.intro ok23 (And.intro ok24 (And.intro ok25 (And.intro ok26 (And.intro ok27 (And.intro ok28 (And.intro ok29 (And.intro ok30 (And.intro ok31 (And.intro ok32 (And.intro ok33 (And.intro ok34 (And.intro ok35 (And.intro ok36 (And.intro ok37 (And.intro ok38 (And.intro ok39 (And.intro ok40 (And.intro ok41 (And.intro ok42 (And.intro ok43 (And.intro ok44 (And.intro ok45 (And.intro ok46 (And.intro ok47 (And.intro ok48 (And.intro ok49 (And.intro ok50 (And.intro ok51 (And.intro ok52 (And.intro ok53 (And.intro ok54 (And.intro ok55 (And.intro ok56 (And.intro ok57 (And.intro ok58 (And.intro ok59 (And.intro ok60 (And.intro ok61 (And.intro ok62 (And.intro ok63 (And.intro ok64 (And.intro ok65 (And.intro ok66 (And.intro ok67 (And.intro ok68 (And.intro ok69 (And.intro ok70 (And.intro ok71 (And.intro ok72 (And.intro ok73 (And.intro ok74 (And.intro ok75 (And.intro ok76 (And.intro ok77 (And.intro ok78 (And.intro ok79 (And.intro ok80 (And.intro ok81 (And.intro ok82 (And.intro ok83 (And.intro ok84 (And.intro ok85 (And.intro ok86 (And.intro ok87 (And.intro ok88 (And.intro ok89 (And.intro ok90 (And.intro ok91 (And.intro ok92 (And.intro ok93 (And.intro ok94 (And.intro ok95 (And.intro ok96 (And.intro ok97 (And.intro ok98 (And.intro ok99 (And.intro ok100 (And.intro ok101 (And.intro ok102 (And.intro ok103 (And.intro ok104 (And.intro ok105 (And.intro ok106 (And.intro ok107 (And.intro ok108 (And.intro ok109 (And.intro ok110 (And.intro ok111 (And.intro ok112 (And.intro ok113 (And.intro ok114 (And.intro ok115 (And.intro ok116 (And.intro ok117 (And.intro ok118 (And.intro ok119 (And.intro ok120 (And.intro ok121 (And.intro ok122 (And.intro ok123 (And.intro ok124 (And.intro ok125 (And.intro ok126 (And.intro ok127 (And.intro ok128 (And.intro ok129 (And.intro ok130 (And.intro ok131 (And.intro ok132 (And.intro ok133 (And.intro ok134 (And.intro ok135 (And.intro ok136 (And.intro ok137 (And.intro ok138 (And.intro ok139 (And.intro ok140 (And.intro ok141 (And.intro ok142 (And.intro ok143 (And.intro ok144 (And.intro ok145 (And.intro ok146 (And.intro ok147 (And.intro ok148 (And.intro ok149 (And.intro ok150 (And.intro ok151 (And.intro ok152 (And.intro ok153 (And.intro ok154 (And.intro ok155 (And.intro ok156 (And.intro ok157 (And.intro ok158 (And.intro ok159 (And.intro ok160 (And.intro ok161 (And.intro ok162 (And.intro ok163 (And.intro ok164 (And.intro ok165 (And.intro ok166 (And.intro ok167 (And.intro ok168 (And.intro ok169 (And.intro ok170 (And.intro ok171 (And.intro ok172 (And.intro ok173 (And.intro ok174 (True.intro)))))))))))))))))))))))))))))))))))))))))))))))))))))))))))))))))))))))))))))))))))))))))))))))))))))))))))))))))))))))))))))))))))))))))))))))))))))))))))))))))))))))))))))))
set_option maxRecDepth 20000 in
theorem cwAll_t : cwAll mT := And.intro cw0 (And.intro cw1 (And.intro cw2 (And.intro cw3 (And.intro cw4 (And.intro cw5 (And.intro cw6 (And.intro cw7 (And.intro cw8 (And.intro cw9 (And.intro cw10 (And.intro cw11 (And.intro cw12 (And.intro cw13 (And.intro cw14 (And.intro cw15 (And.intro cw16 (And.intro cw17 (And.intro cw18 (And.intro cw19 (And.intro cw20 (And.intro cw21 (And.intro cw22 (And.intro cw23 (And.intro cw24 (And.intro cw25 (And.intro cw26 (And.intro cw27 (And.intro cw28 (And.intro cw29 (And.intro cw30 (And.intro cw31 (And.intro cw32 (And.intro cw33 (And.intro cw34 (And.intro cw35 (And.intro cw36 (And.intro cw37 (And.intro cw38 (And.intro cw39 (And.intro cw40 (And.intro cw41 (And.intro cw42 (And.intro cw43 (And.intro cw44 (And.intro cw45 (And.intro cw46 (And.intro cw47 (And.intro cw48 (And.intro cw49 (And.intro cw50 (And.intro cw51 (And.intro cw52 (And.intro cw53 (And.intro cw54 (And.intro cw55 (And.intro cw56 (And.intro cw57 (And.intro cw58 (And.intro cw59 (And.intro cw60 (And.intro cw61 (And.intro cw62 (And.intro cw63 (And.intro cw64 (And.intro cw65 (And.intro cw66 (And.intro cw67 (And.intro cw68 (And.intro cw69 (And.intro cw70 (And.intro cw71 (And.intro cw72 (And.intro cw73 (And.intro cw74 (And.intro cw75 (And.intro cw76 (And.intro cw77 (And.intro cw78 (And.intro cw79 (And.intro cw80 (And.intro cw81 (And.intro cw82 (And.intro cw83 (And.intro cw84 (And.intro cw85 (And.intro cw86 (And.intro cw87 (And.intro cw88 (And.intro cw89 (And.intro cw90 (And.intro cw91 (And.intro cw92 (And.intro cw93 (And.intro cw94 (And.intro cw95 (And.intro cw96 (And.intro cw97 (And.intro cw98 (And.intro cw99 (And.intro cw100 (And.intro cw101 (And.intro cw102 (And.intro cw103 (And.intro cw104 (And.intro cw105 (And.intro cw106 (And.intro cw107 (And.intro cw108 (And.intro cw109 (And.intro cw110 (And.intro cw111 (And.intro cw112 (And.intro cw113 (And.intro cw114 (And.intro cw115 (And.intro cw116 (And.intro cw117 (And.intro cw118 (And.intro cw119 (And.intro cw120 (And.intro cw121 (And.intro cw122 (And.intro cw123 (And.intro cw124 (And.intro cw125 (And.intro cw126 (And.intro cw127 (And.intro cw128 (And.intro cw129 (And.intro cw130 (And.intro cw131 (And.intro cw132 (And.intro cw133 (And.intro cw134 (And.intro cw135 (And.intro cw136 (And.intro cw137 (And.intro cw138 (And.intro cw139 (And.intro cw140 (And.intro cw141 (And.intro cw142 (And.intro cw143 (And.intro cw144 (And.intro cw145 (And.intro cw146 (And.intro cw147 (And.intro cw148 (And.intro cw149 (And.intro cw150 (And.intro cw151 (And.intro cw152 (And.intro cw153 (And.intro cw154 (And.intro cw155 (And.intro cw156 (And.intro cw157 (And.intro cw158 (And.intro cw159 (And.intro cw160 (And.intro cw161 (And.intro cw162 (And.intro cw163 (And.intro cw164 (And.intro cw165 (And.intro cw166 (And.intro cw167 (And.intro cw168 (And.intro cw169 (And.intro cw170 (And.intro cw171 (And.intro cw172 (And.intro cw173 (True.intro))))))))))))))))))))))))))))))))))))))))))))))))))))))))))))))))))))))))))))))))))))))))))))))))))))))))))))))))))))))))))))))))))))))))))))))))))))))))))))))))))))))))))))))
theorem okAll_at : ∀ (cs : List (List AE)) (ms : List (MethodName × ByteArray × Nat × Option FieldType × Nat × Nat)) (k : Nat) (d : MethodName × ByteArray × Nat × Option FieldType × Nat × Nat), okAll cs ms → (cs.getD k []).all (okE (ms.getD k d).2.1 (ms.getD k d).2.2.2.2.1 (ms.getD k d).2.2.2.2.2) = true
  | [], [], k, d, _ => by simp
  | [], _ :: _, _, _, h => h.elim
  | _ :: _, [], _, _, h => h.elim
  | c :: cs, m :: ms, 0, d, h => by simpa using h.1
  | c :: cs, m :: ms, k + 1, d, h => by simpa using okAll_at cs ms k d h.2
theorem okK (k : Nat) : ∀ e ∈ cod k, okE (byt k) (own k) (knd k) e = true := List.all_eq_true.mp (okAll_at cT mT k _ okAll_t)
theorem cwAll_at : ∀ (ms : List (MethodName × ByteArray × Nat × Option FieldType × Nat × Nat)) (k : Nat) (d : MethodName × ByteArray × Nat × Option FieldType × Nat × Nat), cwAll ms → k + 1 < ms.length → Jvm.Cond.code (ms.getD k d).1 (ms.getD k d).2.1 (ms.getD k d).2.2.1 (ms.getD k d).2.2.2.1 ∈ lw_tbl
  | [], k, d, _, h => by simp at h
  | [_], k, d, _, h => by simp at h
  | m :: n :: ms, 0, d, h, _ => by simpa using h.1
  | m :: n :: ms, k + 1, d, h, h2 => by simpa using cwAll_at (n :: ms) k d h.2 (by simpa using h2)
theorem cwK (k : Nat) (h : k < 174) : Jvm.Cond.code (ynm k) (byt k) (mxl k) (rty k) ∈ tb := tb_in (cwAll_at mT k _ cwAll_t (by rw [show mT.length = 175 from rfl]; omega)) rfl
def en (cs : List AE) (pc : Nat) : Option AE := cs.find? (fun e => Nat.beq e.1 pc)
theorem en_mem {cs : List AE} {pc : Nat} {e : AE} (h : en cs pc = some e) : e ∈ cs ∧ e.1 = pc := ⟨List.mem_of_find?_eq_some h, Nat.eq_of_beq_eq_true (List.find?_some (p := fun e : AE => Nat.beq e.1 pc) h)⟩
theorem okD {k pc : Nat} {e : AE} (h : en (cod k) pc = some e) : decode (byt k) pc = .ok (e.2.1, e.2.2.1) := by
  have h2 := okK k e (en_mem h).1
  unfold okE at h2
  rw [Bool.and_eq_true] at h2
  rw [← (en_mem h).2]
  exact of_decide_eq_true h2.1
end
section
def wI (w : AW) (a j : Nat) : Int := w.2.1 a j
def wL (w : AW) (a j : Nat) : Int := w.2.2.1 a j
def wR (w : AW) (a j : Nat) : Option Nat := w.2.2.2 a j
def uI (w : AW) (a j : Nat) (x : Int) : AW := (w.1, (fun b i => if b = a ∧ i = j then x else w.2.1 b i), w.2.2.1, w.2.2.2)
def uL (w : AW) (a j : Nat) (x : Int) : AW := (w.1, w.2.1, (fun b i => if b = a ∧ i = j then x else w.2.2.1 b i), w.2.2.2)
def uR (w : AW) (a j : Nat) (x : Option Nat) : AW := (w.1, w.2.1, w.2.2.1, (fun b i => if b = a ∧ i = j then x else w.2.2.2 b i))
/-- one more cell, all zero -/
def uN (w : AW) (q : Nat × Nat × Nat) : AW := (w.1 ++ [q], (fun b i => if b = w.1.length then 0 else w.2.1 b i), (fun b i => if b = w.1.length then 0 else w.2.2.1 b i), (fun b i => if b = w.1.length then none else w.2.2.2 b i))
/-- how many cells, how many slots -/
def cN (w : AW) : Nat := w.1.length
def sN (w : AW) : Nat := (w.1.map (fun q => q.2.2)).sum
def i32 (x : Int) : Prop := -2147483648 ≤ x ∧ x ≤ 2147483647
def i64 (x : Int) : Prop := -9223372036854775808 ≤ x ∧ x ≤ 9223372036854775807
def w32 (x : Int) : Int := Int.bmod x 4294967296
def w64 (x : Int) : Int := Int.bmod x 18446744073709551616
def bAnd (x y : Int) : Int := (Int32.ofInt x &&& Int32.ofInt y).toInt
def bOr (x y : Int) : Int := (Int32.ofInt x ||| Int32.ofInt y).toInt
def bXor (x y : Int) : Int := (Int32.ofInt x ^^^ Int32.ofInt y).toInt
def bShl (x y : Int) : Int := (Int32.ofInt x <<< (Int32.ofInt y &&& 31)).toInt
def bShr (x y : Int) : Int := (Int32.ofInt x >>> (Int32.ofInt y &&& 31)).toInt
def bUshr (x y : Int) : Int := ((Int32.ofInt x).toUInt32 >>> ((Int32.ofInt y).toUInt32 &&& Int32.toUInt32 31)).toInt32.toInt
def lAnd (x y : Int) : Int := (Int64.ofInt x &&& Int64.ofInt y).toInt
def lOr (x y : Int) : Int := (Int64.ofInt x ||| Int64.ofInt y).toInt
def lXor (x y : Int) : Int := (Int64.ofInt x ^^^ Int64.ofInt y).toInt
def lShl (x y : Int) : Int := (Int64.ofInt x <<< ((Int32.ofInt y).toInt64 &&& 63)).toInt
def lShr (x y : Int) : Int := (Int64.ofInt x >>> ((Int32.ofInt y).toInt64 &&& 63)).toInt
def lUshr (x y : Int) : Int := ((Int64.ofInt x).toUInt64 >>> ((Int32.ofInt y).toInt64.toUInt64 &&& Int64.toUInt64 63)).toInt64.toInt
def lCmp (x y : Int) : Int := if x < y then -1 else if x = y then 0 else 1
def iMax (x y : Int) : Int := if x < y then y else x
def lMax (x y : Int) : Int := if y < x then x else y
def c16 (x : Int) : Int := ((Int32.ofInt x).toUInt32 % 65536).toInt32.toInt
def kL (lv : List (Option AV)) (i : Nat) : List (Option AV) := match lv[i]? with
  | some (some (Sum.inr (Sum.inl _))) => lv.set i none
  | _ => lv
/-- locals behind a store of one word, of two -/
def s1 (lv : List (Option AV)) (i : Nat) (v : AV) : List (Option AV) := (match i with
  | 0 => lv
  | j + 1 => kL lv j).set i (some v)
def s2 (lv : List (Option AV)) (i : Nat) (v : AV) : List (Option AV) := ((match i with
  | 0 => lv
  | j + 1 => kL lv j).set (i + 1) none).set i (some v)
def cat (v : AV) : Nat := match v with
  | Sum.inr (Sum.inl _) => 2
  | _ => 1
def catS (st : List AV) : Nat := (st.map cat).sum
/-- the kinds of a class's fields: 0 int, 1 boolean, 2 long, 3 a reference -/
def fT (ci j : Nat) : Nat := (fTL.getD ci []).getD j 0
def rg (a b x : Int) : Bool := decide (a ≤ x) && decide (x ≤ b)
def tgt (pc : Nat) (off : Int) : Nat := ((pc : Int) + off).toNat
def lInt (lv : List (Option AV)) (i : Nat) : Option Int := match lv[i]? with
  | some (some (Sum.inl x)) => some x
  | _ => none
def lLng (lv : List (Option AV)) (i : Nat) : Option Int := match lv[i]? with
  | some (some (Sum.inr (Sum.inl x))) => some x
  | _ => none
def lRef (lv : List (Option AV)) (i : Nat) : Option Nat := match lv[i]? with
  | some (some (Sum.inr (Sum.inr (some x)))) => if x < 5000 then some x else none
  | _ => none
def fGv (w : AW) (r a b : Nat) : AV := match fT a b with
  | 0 => vI (wI w r b)
  | 1 => vI (wI w r b)
  | 2 => vL (wL w r b)
  | _ => vO (wR w r b)
def fGet (w : AW) (st : List AV) (a b : Nat) : Option (List AV) := match st with
  | Sum.inr (Sum.inr (some r)) :: st =>
    if a = 100 then (if 2000 ≤ r ∧ r < 2010 then some ((if b = 0 then vR (r + 1000) else vI 0) :: st) else none) else
    match w.1[r]? with
    | some (0, ci, n) => if ci = a ∧ b < n then some (fGv w r a b :: st) else none
    | _ => none
  | _ => none
def fPut (w : AW) (st : List AV) (a b : Nat) : Option (List Prop × List AV × AW) := match st with
  | v :: Sum.inr (Sum.inr (some r)) :: st =>
    match w.1[r]? with
    | some (0, ci, n) => if ci = a ∧ b < n then (match fT a b, v with
      | 0, Sum.inl x => some ([], st, uI w r b x)
      | 1, Sum.inl x => some ([x = 0 ∨ x = 1], st, uI w r b x)
      | 2, Sum.inr (Sum.inl x) => some ([], st, uL w r b x)
      | 3, Sum.inr (Sum.inr x) => some ([], st, uR w r b x)
      | _, _ => none) else none
    | _ => none
  | _ => none
def aGet (E : AX) (w : AW) (st : List AV) (t : Nat) : Option (List Prop × List AV) := match st with
  | Sum.inl i :: Sum.inr (Sum.inr (some r)) :: st =>
    match w.1[r]? with
    | some (1, ty, n) => if ty = t then some ([0 ≤ i ∧ i < (n : Int)], (if t = 2 then vL (wL w r i.toNat) else vI (wI w r i.toNat)) :: st) else none
    | some _ => none
    | none => if r = 1000 ∧ t = 0 then some ([0 ≤ i ∧ i < (E.1 : Int)], vI (E.2 i.toNat).toInt :: st) else
      if 3000 ≤ r ∧ r < 3010 ∧ t = 1 then some ([0 ≤ i ∧ i < ((strB.getD (r - 3000) []).length : Int)], vI ((strB.getD (r - 3000) []).getD i.toNat 0) :: st) else none
  | _ => none
def aPut (w : AW) (st : List AV) (t : Nat) : Option (List Prop × List AV × AW) := match st with
  | v :: Sum.inl i :: Sum.inr (Sum.inr (some r)) :: st =>
    match w.1[r]? with
    | some (1, ty, n) => if ty = t then (match t, v with
      | 0, Sum.inl x => some ([0 ≤ i ∧ i < (n : Int)], st, uI w r i.toNat x)
      | 1, Sum.inl x => some ([0 ≤ i ∧ i < (n : Int), x = 0 ∨ x = 1], st, uI w r i.toNat x)
      | 2, Sum.inr (Sum.inl x) => some ([0 ≤ i ∧ i < (n : Int)], st, uL w r i.toNat x)
      | _, _ => none) else none
    | _ => none
  | _ => none
def aLen (E : AX) (w : AW) (st : List AV) : Option (List Prop × List AV) := match st with
  | Sum.inr (Sum.inr (some r)) :: st =>
    match w.1[r]? with
    | some (1, _, n) => if n < 100000 then some ([], vI (n : Int) :: st) else none
    | some _ => none
    | none => if r = 1000 then some ([E.1 < 100000], vI (E.1 : Int) :: st) else if 3000 ≤ r ∧ r < 3010 then some ([], vI ((strB.getD (r - 3000) []).length : Int) :: st) else none
  | _ => none
/-- one instruction that goes on: what it asks, and the state behind it -/
def ex (E : AX) (e : AE) (pc : Nat) (lv : List (Option AV)) (st : List AV) (w : AW) : Option (List Prop × AS) :=
  match e.2.1 with
  | .iconst n => if rg (-128) 127 n = true then some ([], pc + 1, lv, vI n :: st, w) else none
  | .bipush n => if rg (-128) 127 n = true then some ([], pc + 2, lv, vI n :: st, w) else none
  | .sipush n => if rg (-32768) 32767 n = true then some ([], pc + 3, lv, vI n :: st, w) else none
  | .lconst n => some ([], pc + 1, lv, vL ((n : Nat) : Int) :: st, w)
  | .ldc _ => if e.2.2.2.2.1 = 0 then (if rg (-2147483648) 2147483647 e.2.2.2.1 = true then some ([], pc + 2, lv, vI e.2.2.2.1 :: st, w) else none) else if e.2.2.2.2.2 < 10 then some ([], pc + 2, lv, vR (2000 + e.2.2.2.2.2) :: st, w) else none
  | .ldc_w _ => if rg (-2147483648) 2147483647 e.2.2.2.1 = true then some ([], pc + 3, lv, vI e.2.2.2.1 :: st, w) else none
  | .ldc2_w _ => if rg (-9223372036854775808) 9223372036854775807 e.2.2.2.1 = true then some ([], pc + 3, lv, vL e.2.2.2.1 :: st, w) else none
  | .iload i => (lInt lv i).map (fun x => ([], pc + 2, lv, vI x :: st, w))
  | .iload_n i => (lInt lv i).map (fun x => ([], pc + 1, lv, vI x :: st, w))
  | .lload i => (lLng lv i).map (fun x => ([], pc + 2, lv, vL x :: st, w))
  | .lload_n i => (lLng lv i).map (fun x => ([], pc + 1, lv, vL x :: st, w))
  | .aload i => (lRef lv i).map (fun x => ([], pc + 2, lv, vR x :: st, w))
  | .aload_n i => (lRef lv i).map (fun x => ([], pc + 1, lv, vR x :: st, w))
  | .istore i => match st with
    | Sum.inl x :: st => if (i : Nat) < lv.length then some ([], pc + 2, s1 lv i (vI x), st, w) else none
    | _ => none
  | .istore_n i => match st with
    | Sum.inl x :: st => if (i : Nat) < lv.length then some ([], pc + 1, s1 lv i (vI x), st, w) else none
    | _ => none
  | .lstore i => match st with
    | Sum.inr (Sum.inl x) :: st => if (i : Nat) + 1 < lv.length then some ([], pc + 2, s2 lv i (vL x), st, w) else none
    | _ => none
  | .lstore_n i => match st with
    | Sum.inr (Sum.inl x) :: st => if (i : Nat) + 1 < lv.length then some ([], pc + 1, s2 lv i (vL x), st, w) else none
    | _ => none
  | .astore i => match st with
    | Sum.inr (Sum.inr (some x)) :: st => if x < 5000 ∧ (i : Nat) < lv.length then some ([], pc + 2, s1 lv i (vR x), st, w) else none
    | _ => none
  | .astore_n i => match st with
    | Sum.inr (Sum.inr (some x)) :: st => if x < 5000 ∧ (i : Nat) < lv.length then some ([], pc + 1, s1 lv i (vR x), st, w) else none
    | _ => none
  | .iinc i n => (lInt lv i).map (fun x => ([i32 (x + n)], pc + 3, s1 lv i (vI (x + n)), st, w))
  | .iadd => match st with
    | Sum.inl y :: Sum.inl x :: st => if e.2.2.2.1 = 0 then some ([i32 (x + y)], pc + 1, lv, vI (x + y) :: st, w) else some ([], pc + 1, lv, vI (w32 (x + y)) :: st, w)
    | _ => none
  | .isub => match st with
    | Sum.inl y :: Sum.inl x :: st => if e.2.2.2.1 = 0 then some ([i32 (x - y)], pc + 1, lv, vI (x - y) :: st, w) else some ([], pc + 1, lv, vI (w32 (x - y)) :: st, w)
    | _ => none
  | .imul => match st with
    | Sum.inl y :: Sum.inl x :: st => if e.2.2.2.1 = 0 then some ([i32 (x * y)], pc + 1, lv, vI (x * y) :: st, w) else some ([], pc + 1, lv, vI (w32 (x * y)) :: st, w)
    | _ => none
  | .ineg => match st with
    | Sum.inl x :: st => some ([i32 (-x)], pc + 1, lv, vI (-x) :: st, w)
    | _ => none
  | .iand => match st with
    | Sum.inl y :: Sum.inl x :: st => some ([], pc + 1, lv, vI (bAnd x y) :: st, w)
    | _ => none
  | .ior => match st with
    | Sum.inl y :: Sum.inl x :: st => some ([], pc + 1, lv, vI (bOr x y) :: st, w)
    | _ => none
  | .ixor => match st with
    | Sum.inl y :: Sum.inl x :: st => some ([], pc + 1, lv, vI (bXor x y) :: st, w)
    | _ => none
  | .ishl => match st with
    | Sum.inl y :: Sum.inl x :: st => some ([], pc + 1, lv, vI (bShl x y) :: st, w)
    | _ => none
  | .ishr => match st with
    | Sum.inl y :: Sum.inl x :: st => some ([], pc + 1, lv, vI (bShr x y) :: st, w)
    | _ => none
  | .iushr => match st with
    | Sum.inl y :: Sum.inl x :: st => some ([], pc + 1, lv, vI (bUshr x y) :: st, w)
    | _ => none
  | .ladd => match st with
    | Sum.inr (Sum.inl y) :: Sum.inr (Sum.inl x) :: st => some ([i64 (x + y)], pc + 1, lv, vL (x + y) :: st, w)
    | _ => none
  | .lsub => match st with
    | Sum.inr (Sum.inl y) :: Sum.inr (Sum.inl x) :: st => some ([i64 (x - y)], pc + 1, lv, vL (x - y) :: st, w)
    | _ => none
  | .lmul => match st with
    | Sum.inr (Sum.inl y) :: Sum.inr (Sum.inl x) :: st => some ([i64 (x * y)], pc + 1, lv, vL (x * y) :: st, w)
    | _ => none
  | .land => match st with
    | Sum.inr (Sum.inl y) :: Sum.inr (Sum.inl x) :: st => some ([], pc + 1, lv, vL (lAnd x y) :: st, w)
    | _ => none
  | .lor => match st with
    | Sum.inr (Sum.inl y) :: Sum.inr (Sum.inl x) :: st => some ([], pc + 1, lv, vL (lOr x y) :: st, w)
    | _ => none
  | .lxor => match st with
    | Sum.inr (Sum.inl y) :: Sum.inr (Sum.inl x) :: st => some ([], pc + 1, lv, vL (lXor x y) :: st, w)
    | _ => none
  | .lshl => match st with
    | Sum.inl y :: Sum.inr (Sum.inl x) :: st => some ([], pc + 1, lv, vL (lShl x y) :: st, w)
    | _ => none
  | .lshr => match st with
    | Sum.inl y :: Sum.inr (Sum.inl x) :: st => some ([], pc + 1, lv, vL (lShr x y) :: st, w)
    | _ => none
  | .lushr => match st with
    | Sum.inl y :: Sum.inr (Sum.inl x) :: st => some ([], pc + 1, lv, vL (lUshr x y) :: st, w)
    | _ => none
  | .lcmp => match st with
    | Sum.inr (Sum.inl y) :: Sum.inr (Sum.inl x) :: st => some ([], pc + 1, lv, vI (lCmp x y) :: st, w)
    | _ => none
  | .i2l => match st with
    | Sum.inl x :: st => some ([], pc + 1, lv, vL x :: st, w)
    | _ => none
  | .l2i => match st with
    | Sum.inr (Sum.inl x) :: st => some ([], pc + 1, lv, vI (w32 x) :: st, w)
    | _ => none
  | .i2c => match st with
    | Sum.inl x :: st => some ([], pc + 1, lv, vI (c16 x) :: st, w)
    | _ => none
  | .dup => match st with
    | v :: st => if cat v = 1 then some ([], pc + 1, lv, v :: v :: st, w) else none
    | _ => none
  | .dup2 => match st with
    | v :: u :: st => if cat v = 1 ∧ cat u = 1 then some ([], pc + 1, lv, v :: u :: v :: u :: st, w) else none
    | _ => none
  | .pop => match st with
    | v :: st => if cat v = 1 then some ([], pc + 1, lv, st, w) else none
    | _ => none
  | .goto off => if 0 ≤ (pc : Int) + off then some ([], tgt pc off, lv, st, w) else none
  | .getfield _ => (fGet w st e.2.2.2.2.1 e.2.2.2.2.2).map (fun st => ([], pc + 3, lv, st, w))
  | .getstatic _ => if e.2.2.2.2.1 = 0 then some ([], pc + 3, lv, vI 1 :: st, w) else if e.2.2.2.2.1 = 1 then some ([], pc + 3, lv, vR 5000 :: st, w) else none
  | .putfield _ => (fPut w st e.2.2.2.2.1 e.2.2.2.2.2).map (fun q => (q.1, pc + 3, lv, q.2.1, q.2.2))
  | .iaload => (aGet E w st 0).map (fun q => (q.1, pc + 1, lv, q.2, w))
  | .baload => (aGet E w st 1).map (fun q => (q.1, pc + 1, lv, q.2, w))
  | .laload => (aGet E w st 2).map (fun q => (q.1, pc + 1, lv, q.2, w))
  | .iastore => (aPut w st 0).map (fun q => (q.1, pc + 1, lv, q.2.1, q.2.2))
  | .bastore => (aPut w st 1).map (fun q => (q.1, pc + 1, lv, q.2.1, q.2.2))
  | .lastore => (aPut w st 2).map (fun q => (q.1, pc + 1, lv, q.2.1, q.2.2))
  | .arraylength => (aLen E w st).map (fun q => (q.1, pc + 1, lv, q.2, w))
  | .invokespecial _ => if e.2.2.2.2.1 = 990 then (match st with
    | Sum.inr (Sum.inr (some r)) :: st => if r < 5000 ∧ catS st ≤ 8 then some ([], pc + 3, lv, st, w) else none
    | _ => none) else none
  | .invokestatic _ => if e.2.2.2.2.1 = 991 then (match st with
    | Sum.inl y :: Sum.inl x :: st => if catS st ≤ 8 then some ([], pc + 3, lv, vI (iMax x y) :: st, w) else none
    | _ => none) else if e.2.2.2.2.1 = 992 then (match st with
    | Sum.inr (Sum.inl y) :: Sum.inr (Sum.inl x) :: st => if catS st ≤ 8 then some ([], pc + 3, lv, vL (lMax x y) :: st, w) else none
    | _ => none) else none
  | _ => none
/-- how long an instruction is (those of a fixed length) -/
def il (i : Instr) : Nat := match i with
  | .bipush _ => 2
  | .sipush _ => 3
  | .ldc _ => 2
  | .ldc_w _ => 3
  | .ldc2_w _ => 3
  | .iload _ => 2
  | .lload _ => 2
  | .aload _ => 2
  | .istore _ => 2
  | .lstore _ => 2
  | .astore _ => 2
  | .iinc _ _ => 3
  | .goto _ => 3
  | .ifCond _ _ => 3
  | .if_icmp _ _ => 3
  | .getfield _ => 3
  | .putfield _ => 3
  | .getstatic _ => 3
  | .invokevirtual _ => 3
  | .invokespecial _ => 3
  | .invokestatic _ => 3
  | .new _ => 3
  | .newarray _ => 2
  | _ => 1
def nx (E : AX) (cs : List AE) (t : AS) : Option (List Prop × AS) := match en cs t.1 with
  | none => none
  | some e => if Nat.beq e.2.2.1 (il e.2.1) = true then ex E e t.1 t.2.1 t.2.2.1 t.2.2.2 else none
def rn (E : AX) (cs : List AE) : Nat → AS → Option (List Prop × AS)
  | 0, t => some ([], t)
  | n + 1, t => match nx E cs t with
    | none => none
    | some (ps, t') => match rn E cs n t' with
      | none => none
      | some (qs, t'') => some (ps ++ qs, t'')
def all_ : List Prop → Prop
  | [] => True
  | [p] => p
  | p :: q :: ps => p ∧ all_ (q :: ps)
def cz (c : ClassFile.Cond) (x : Int) : Prop := match c with
  | .eq => x = 0
  | .ne => x ≠ 0
  | .lt => x < 0
  | .ge => 0 ≤ x
  | .gt => 0 < x
  | .le => x ≤ 0
def cc_ (c : ClassFile.Cond) (x y : Int) : Prop := match c with
  | .eq => x = y
  | .ne => x ≠ y
  | .lt => x < y
  | .ge => y ≤ x
  | .gt => y < x
  | .le => x ≤ y
/-- a branch: its condition, the two states -/
def bcE (e : AE) (pc : Nat) (lv : List (Option AV)) (st : List AV) (w : AW) : Option (Prop × AS × AS) :=
  match e.2.1, st with
  | .ifCond c off, Sum.inl x :: st => if 0 ≤ (pc : Int) + off then some (cz c x, (tgt pc off, lv, st, w), (pc + 3, lv, st, w)) else none
  | .if_icmp c off, Sum.inl y :: Sum.inl x :: st => if 0 ≤ (pc : Int) + off then some (cc_ c x y, (tgt pc off, lv, st, w), (pc + 3, lv, st, w)) else none
  | _, _ => none
def bc (cs : List AE) (t : AS) : Option (Prop × AS × AS) := match en cs t.1 with
  | none => none
  | some e => if Nat.beq e.2.2.1 (il e.2.1) = true then bcE e t.1 t.2.1 t.2.2.1 t.2.2.2 else none
end
section
-- REPRESENTATION: what a world of the abstract machine is in the heap
def rv (base : Nat) (sp : Nat → Value) (r : Nat) : Value := if r < 1000 then .ref (base + r) else sp r
def tr (base : Nat) (sp : Nat → Value) (v : AV) : Value := match v with
  | Sum.inl x => .int (Int32.ofInt x)
  | Sum.inr (Sum.inl x) => .long (Int64.ofInt x)
  | Sum.inr (Sum.inr none) => .null
  | Sum.inr (Sum.inr (some r)) => rv base sp r
def okSp (sp : Nat → Value) : Prop := (∀ r, r < 5000 → ∃ a, sp r = .ref a) ∧ ∀ r, sp r = .null ∨ ∃ a, sp r = .ref a
theorem rv_ref {base : Nat} {sp : Nat → Value} (h : okSp sp) {r : Nat} (hr : r < 5000) : ∃ a, rv base sp r = .ref a := by
  unfold rv
  split
  · exact ⟨_, rfl⟩
  · exact h.1 r hr
theorem tr_cat {base : Nat} {sp : Nat → Value} (h : okSp sp) (v : AV) : (tr base sp v).category = cat v := by
  rcases v with x | x | r
  · rfl
  · rfl
  · cases r with
    | none => rfl
    | some r =>
      show (rv base sp r).category = 1
      unfold rv
      split
      · rfl
      · rcases h.2 r with e | ⟨a, e⟩ <;> rw [e] <;> rfl
theorem tr_null {base : Nat} {sp : Nat → Value} (h : okSp sp) (x : Option Nat) : tr base sp (vO x) = .null ∨ ∃ a, tr base sp (vO x) = .ref a := by
  cases x with
  | none => exact Or.inl rfl
  | some r =>
    show rv base sp r = .null ∨ ∃ a, rv base sp r = .ref a
    unfold rv
    split
    · exact Or.inr ⟨_, rfl⟩
    · exact h.2 r
theorem trS_cat {base : Nat} {sp : Nat → Value} (h : okSp sp) (st : List AV) : ((st.map (tr base sp)).map fun v => v.category).sum = catS st := by
  induction st with
  | nil => rfl
  | cons v st ih =>
    simp only [List.map_cons, List.sum_cons, catS] at ih ⊢
    rw [ih, tr_cat h]
def fv (base : Nat) (sp : Nat → Value) (w : AW) (k ci j : Nat) : Value := match fT ci j with
  | 0 => .int (Int32.ofInt (wI w k j))
  | 1 => .int (Int32.ofInt (wI w k j))
  | 2 => .long (Int64.ofInt (wL w k j))
  | _ => tr base sp (vO (wR w k j))
def ct (base : Nat) (sp : Nat → Value) (cs : ClassId × ClassId × ClassId) (w : AW) (k : Nat) (q : Nat × Nat × Nat) : va_E := match q with
  | (0, ci, n) => .inr (ci, (List.range n).map (fv base sp w k ci))
  | (_ + 1, 0, n) => .inl (cs.1, n, .inl (fun j => Int32.ofInt (wI w k j)))
  | (_ + 1, 1, n) => .inl (cs.2.1, n, .inl (fun j => Int32.ofInt (wI w k j)))
  | (_ + 1, _ + 2, n) => .inl (cs.2.2, n, .inr (.inl (fun j => Int64.ofInt (wL w k j))))
def wsO (base : Nat) (sp : Nat → Value) (cs : ClassId × ClassId × ClassId) (w : AW) : va_W := (List.range w.1.length).map (fun k => (base + k, ct base sp cs w k (w.1.getD k (0, 0, 0))))
def tysO (cs : ClassId × ClassId × ClassId) : List (ClassId × FieldType) := [(cs.1, .int), (cs.2.1, .boolean), (cs.2.2, .long)]
theorem wsO_at {base : Nat} {sp : Nat → Value} {cs : ClassId × ClassId × ClassId} {w : AW} {k : Nat} {q : Nat × Nat × Nat} (h : w.1[k]? = some q) : (wsO base sp cs w)[k]? = some (base + k, ct base sp cs w k q) := by
  have hk := (List.getElem?_eq_some_iff.mp h).1
  have e : w.1.getD k (0, 0, 0) = q := by simp [List.getD, h]
  simp only [wsO, List.getElem?_map, List.getElem?_range hk, Option.map_some, e]
theorem wsO_of {base : Nat} {sp : Nat → Value} {cs : ClassId × ClassId × ClassId} {w : AW} {k : Nat} {p : Nat × va_E} (h : (wsO base sp cs w)[k]? = some p) : ∃ q, w.1[k]? = some q ∧ p = (base + k, ct base sp cs w k q) := by
  have hk : k < w.1.length := by
    have := (List.getElem?_eq_some_iff.mp h).1
    simpa [wsO] using this
  have h2 : w.1[k]? = some w.1[k] := List.getElem?_eq_getElem hk
  refine ⟨_, h2, ?_⟩
  rw [wsO_at h2] at h
  exact (Option.some.inj h).symm
def hW (D : va_G) (cs : ClassId × ClassId × ClassId) (base : Nat) (sp : Nat → Value) (w : AW) (H : Heap) : Prop := H.size = base + w.1.length ∧ w.1.length ≤ 1000 ∧ va_P D classes (wsO base sp cs w) H
theorem hW.upd {D : va_G} {cs : ClassId × ClassId × ClassId} {base : Nat} {sp : Nat → Value} {w w' : AW} {H H1 : Heap} (h : hW D cs base sp w H) {r : Nat} {q : Nat × Nat × Nat} (hr : w.1[r]? = some q) (hl : w'.1 = w.1) (hne : ∀ k, k ≠ r → ∀ q', ct base sp cs w' k q' = ct base sp cs w k q') (z : H1.size = H.size) (oq : ∀ a : Nat, a ≠ base + r → H1[a]? = H[a]?) (ha : va_at D classes (base + r, ct base sp cs w' r q) H1) : hW D cs base sp w' H1 := by
  obtain ⟨h1, h2, h3⟩ := h
  refine ⟨by rw [z, h1, hl], by rw [hl]; exact h2, ?_⟩
  intro k p hp
  obtain ⟨q', hq', rfl⟩ := wsO_of hp
  rw [hl] at hq'
  by_cases hk : k = r
  · subst hk
    cases hr.symm.trans hq'
    exact ha
  · rw [hne k hk q']
    exact (h3 k _ (wsO_at hq')).kept (oq _ (by show base + k ≠ base + r; omega))
theorem ct_congr {base : Nat} {sp : Nat → Value} {cs : ClassId × ClassId × ClassId} {w w' : AW} {k : Nat} (h1 : ∀ j, wI w' k j = wI w k j) (h2 : ∀ j, wL w' k j = wL w k j) (h3 : ∀ j, wR w' k j = wR w k j) (q : Nat × Nat × Nat) : ct base sp cs w' k q = ct base sp cs w k q := by
  have e : fv base sp w' k = fv base sp w k := by
    funext ci j
    unfold fv
    rw [h1, h2, h3]
  unfold ct
  split <;> simp only [e, h1, h2]
theorem wI_uI_ne {w : AW} {a j k i : Nat} {x : Int} (h : k ≠ a) : wI (uI w a j x) k i = wI w k i := by simp [wI, uI, h]
theorem wL_uL_ne {w : AW} {a j k i : Nat} {x : Int} (h : k ≠ a) : wL (uL w a j x) k i = wL w k i := by simp [wL, uL, h]
theorem wR_uR_ne {w : AW} {a j k i : Nat} {x : Option Nat} (h : k ≠ a) : wR (uR w a j x) k i = wR w k i := by simp [wR, uR, h]
theorem wI_uI {w : AW} {a j i : Nat} {x : Int} : wI (uI w a j x) a i = if i = j then x else wI w a i := by simp [wI, uI]
theorem wL_uL {w : AW} {a j i : Nat} {x : Int} : wL (uL w a j x) a i = if i = j then x else wL w a i := by simp [wL, uL]
theorem wR_uR {w : AW} {a j i : Nat} {x : Option Nat} : wR (uR w a j x) a i = if i = j then x else wR w a i := by simp [wR, uR]
theorem ct_uI {base : Nat} {sp : Nat → Value} {cs : ClassId × ClassId × ClassId} {w : AW} {a j : Nat} {x : Int} {k : Nat} (h : k ≠ a) (q : Nat × Nat × Nat) : ct base sp cs (uI w a j x) k q = ct base sp cs w k q := ct_congr (fun _ => wI_uI_ne h) (fun _ => rfl) (fun _ => rfl) q
theorem ct_uL {base : Nat} {sp : Nat → Value} {cs : ClassId × ClassId × ClassId} {w : AW} {a j : Nat} {x : Int} {k : Nat} (h : k ≠ a) (q : Nat × Nat × Nat) : ct base sp cs (uL w a j x) k q = ct base sp cs w k q := ct_congr (w := w) (w' := uL w a j x) (fun _ => rfl) (fun _ => wL_uL_ne h) (fun _ => rfl) q
theorem ct_uR {base : Nat} {sp : Nat → Value} {cs : ClassId × ClassId × ClassId} {w : AW} {a j : Nat} {x : Option Nat} {k : Nat} (h : k ≠ a) (q : Nat × Nat × Nat) : ct base sp cs (uR w a j x) k q = ct base sp cs w k q := ct_congr (w := w) (w' := uR w a j x) (fun _ => rfl) (fun _ => rfl) (fun _ => wR_uR_ne h) q
-- locals
def hasL (base : Nat) (sp : Nat → Value) (ls : Array Slot) (n : Nat) (lv : List (Option AV)) : Prop := ls.size = n ∧ lv_wf ls ∧ lv.length = n ∧ ∀ (i : Nat) (v : AV), lv[i]? = some (some v) → ls[i]? = some (.val (tr base sp v))
def tlv (base : Nat) (sp : Nat → Value) (lv : List (Option AV)) : List (Nat × Value) := (List.range lv.length).filterMap (fun i => match lv[i]? with
  | some (some v) => some (i, tr base sp v)
  | _ => none)
theorem mem_tlv {base : Nat} {sp : Nat → Value} {lv : List (Option AV)} {i : Nat} {v : AV} (h : lv[i]? = some (some v)) : (i, tr base sp v) ∈ tlv base sp lv :=
  List.mem_filterMap.mpr ⟨i, List.mem_range.mpr (List.getElem?_eq_some_iff.mp h).1, by rw [h]⟩
theorem hasL.has {base : Nat} {sp : Nat → Value} {ls : Array Slot} {n : Nat} {lv : List (Option AV)} (h : hasL base sp ls n lv) : lv_has ls n (tlv base sp lv) := by
  refine ⟨h.1, h.2.1, fun q hq => ?_⟩
  obtain ⟨i, -, hi⟩ := List.mem_filterMap.mp hq
  split at hi
  · next v hv => cases hi; exact h.2.2.2 i v hv
  · cases hi
theorem kL_at {lv : List (Option AV)} {m j : Nat} {u : AV} (h : (kL lv m)[j]? = some (some u)) : lv[j]? = some (some u) ∧ (j = m → cat u ≠ 2) := by
  unfold kL at h
  split at h
  · by_cases hj : m = j
    · subst hj
      rw [List.getElem?_set] at h
      simp at h
    · rw [List.getElem?_set_ne hj] at h
      exact ⟨h, fun e => absurd e.symm hj⟩
  · next hn =>
    refine ⟨h, fun e => ?_⟩
    subst e
    intro hc
    rcases u with x | x | r
    · simp [cat] at hc
    · exact hn x h
    · simp [cat] at hc
theorem kL_len (lv : List (Option AV)) (i : Nat) : (kL lv i).length = lv.length := by
  unfold kL
  split
  · exact List.length_set
  · rfl
theorem s1_len (lv : List (Option AV)) (i : Nat) (v : AV) : (s1 lv i v).length = lv.length := by
  unfold s1
  rw [List.length_set]
  cases i with
  | zero => rfl
  | succ j => exact kL_len lv j
theorem s2_len (lv : List (Option AV)) (i : Nat) (v : AV) : (s2 lv i v).length = lv.length := by
  unfold s2
  rw [List.length_set, List.length_set]
  cases i with
  | zero => rfl
  | succ j => exact kL_len lv j
theorem hasL_s1 {base : Nat} {sp : Nat → Value} (hsp : okSp sp) {ls : Array Slot} {n i : Nat} {lv : List (Option AV)} {v : AV} (hn : lv.length = n) (h : lv_has ls n ((i, tr base sp v) :: (tlv base sp lv).filter (fun q => !(q.1 == i) && !(q.1 + 1 == i && q.2.category == 2)))) : hasL base sp ls n (s1 lv i v) := by
  refine ⟨h.1, h.2.1, by rw [s1_len]; exact hn, fun j u hj => ?_⟩
  unfold s1 at hj
  by_cases hji : i = j
  · subst hji
    rw [List.getElem?_set] at hj
    simp at hj
    obtain ⟨-, rfl⟩ := hj
    exact h.2.2 _ List.mem_cons_self
  · rw [List.getElem?_set_ne hji] at hj
    have key : lv[j]? = some (some u) ∧ (j + 1 = i → cat u ≠ 2) := by
      cases i with
      | zero => exact ⟨hj, fun e => by omega⟩
      | succ i' => exact ⟨(kL_at hj).1, fun e => (kL_at hj).2 (by omega)⟩
    refine h.2.2 (j, tr base sp u) (List.mem_cons_of_mem _ (List.mem_filter.mpr ⟨mem_tlv key.1, ?_⟩))
    have h1 : (j == i) = false := by simp; omega
    simp only [h1, tr_cat hsp, Bool.not_false, Bool.true_and, Bool.not_eq_true', Bool.and_eq_false_iff, beq_eq_false_iff_ne]
    by_cases e : j + 1 = i
    · exact Or.inr (key.2 e)
    · exact Or.inl e
theorem hasL_s2 {base : Nat} {sp : Nat → Value} (hsp : okSp sp) {ls : Array Slot} {n i : Nat} {lv : List (Option AV)} {v : AV} (hn : lv.length = n) (h : lv_has ls n ((i, tr base sp v) :: (tlv base sp lv).filter (fun q => !(q.1 == i) && (!(q.1 == i + 1) && !(q.1 + 1 == i && q.2.category == 2))))) : hasL base sp ls n (s2 lv i v) := by
  refine ⟨h.1, h.2.1, by rw [s2_len]; exact hn, fun j u hj => ?_⟩
  unfold s2 at hj
  by_cases hji : i = j
  · subst hji
    rw [List.getElem?_set] at hj
    simp at hj
    obtain ⟨-, rfl⟩ := hj
    exact h.2.2 _ List.mem_cons_self
  · rw [List.getElem?_set_ne hji] at hj
    by_cases hj2 : i + 1 = j
    · subst hj2
      rw [List.getElem?_set] at hj
      simp at hj
    rw [List.getElem?_set_ne hj2] at hj
    have key : lv[j]? = some (some u) ∧ (j + 1 = i → cat u ≠ 2) := by
      cases i with
      | zero => exact ⟨hj, fun e => by omega⟩
      | succ i' => exact ⟨(kL_at hj).1, fun e => (kL_at hj).2 (by omega)⟩
    refine h.2.2 (j, tr base sp u) (List.mem_cons_of_mem _ (List.mem_filter.mpr ⟨mem_tlv key.1, ?_⟩))
    have h1 : (j == i) = false := by simp; omega
    have h2 : (j == i + 1) = false := by simp; omega
    simp only [h1, h2, tr_cat hsp, Bool.not_false, Bool.true_and, Bool.not_eq_true', Bool.and_eq_false_iff, beq_eq_false_iff_ne]
    by_cases e : j + 1 = i
    · exact Or.inr (key.2 e)
    · exact Or.inl e
/-- a method's locals at its entry -/
def enA (args : List AV) : List (Option AV) := args.flatMap (fun v => if cat v = 2 then [some v, none] else [some v])
def enL (args : List AV) (n : Nat) : List (Option AV) := enA args ++ List.replicate (n - (enA args).length) none
theorem enA_len {base : Nat} {sp : Nat → Value} (hsp : okSp sp) (args : List AV) : (lg_sl (args.map (tr base sp))).length = (enA args).length := by
  induction args with
  | nil => rfl
  | cons v vs ih =>
    simp only [List.map_cons, lg_sl, enA, List.flatMap_cons, List.length_append, tr_cat hsp] at ih ⊢
    rw [ih]
    split <;> rfl
theorem enA_at {base : Nat} {sp : Nat → Value} (hsp : okSp sp) : ∀ (args : List AV) (o i : Nat) (v : AV), (enA args)[i]? = some (some v) → (o + i, tr base sp v) ∈ lv_args o (args.map (tr base sp))
  | [], o, i, v, h => by simp [enA] at h
  | a :: as, o, i, v, h => by
    simp only [List.map_cons, lv_args, tr_cat hsp]
    simp only [enA, List.flatMap_cons] at h
    by_cases hc : cat a = 2
    · rw [if_pos hc] at h ⊢
      match i, h with
      | 0, h => simp at h; subst h; exact List.mem_cons_self
      | 1, h => simp at h
      | i + 2, h =>
        refine List.mem_cons_of_mem _ ?_
        have := enA_at (base := base) hsp as (o + 2) i v (by simpa [enA] using h)
        rwa [show o + 2 + i = o + (i + 2) by omega] at this
    · rw [if_neg hc] at h ⊢
      match i, h with
      | 0, h => simp at h; subst h; exact List.mem_cons_self
      | i + 1, h =>
        refine List.mem_cons_of_mem _ ?_
        have := enA_at (base := base) hsp as (o + 1) i v (by simpa [enA] using h)
        rwa [show o + 1 + i = o + (i + 1) by omega] at this
theorem hasL_entry {base : Nat} {sp : Nat → Value} (hsp : okSp sp) (args : List AV) {n : Nat} (h : (enA args).length ≤ n) : hasL base sp ((lg_sl (args.map (tr base sp)) ++ List.replicate (n - (lg_sl (args.map (tr base sp))).length) Slot.unset).toArray) n (enL args n) := by
  have h1 := lv_entry (args.map (tr base sp)) (n := n) (by rw [enA_len hsp]; exact h)
  refine ⟨h1.1, h1.2.1, by unfold enL; rw [List.length_append, List.length_replicate]; omega, fun i v hv => ?_⟩
  refine h1.2.2 (i, tr base sp v) ?_
  unfold enL at hv
  by_cases hi : i < (enA args).length
  · rw [List.getElem?_append_left hi] at hv
    have := enA_at (base := base) hsp args 0 i v hv
    rwa [Nat.zero_add] at this
  · rw [List.getElem?_append_right (by omega), List.getElem?_replicate] at hv
    split at hv <;> simp at hv
end
section
-- NUMBERS
theorem i32_of (x : Int32) : i32 x.toInt := ⟨by have := x.le_toInt; omega, by have := x.toInt_lt; omega⟩
theorem i64_of (x : Int64) : i64 x.toInt := ⟨by have := x.le_toInt; omega, by have := x.toInt_lt; omega⟩
theorem t32 {x : Int} (h : i32 x) : (Int32.ofInt x).toInt = x := Int32.toInt_ofInt_of_le (by have := h.1; omega) (by have := h.2; omega)
theorem t64 {x : Int} (h : i64 x) : (Int64.ofInt x).toInt = x := Int64.toInt_ofInt_of_le (by have := h.1; omega) (by have := h.2; omega)
theorem lt32 {x y : Int} (hx : i32 x) (hy : i32 y) : Int32.ofInt x < Int32.ofInt y ↔ x < y := by rw [Int32.lt_iff_toInt_lt, t32 hx, t32 hy]
theorem le32 {x y : Int} (hx : i32 x) (hy : i32 y) : Int32.ofInt x ≤ Int32.ofInt y ↔ x ≤ y := by rw [Int32.le_iff_toInt_le, t32 hx, t32 hy]
theorem eq32 {x y : Int} (hx : i32 x) (hy : i32 y) : Int32.ofInt x = Int32.ofInt y ↔ x = y := by rw [← Int32.toInt_inj, t32 hx, t32 hy]
theorem lt64 {x y : Int} (hx : i64 x) (hy : i64 y) : Int64.ofInt x < Int64.ofInt y ↔ x < y := by rw [Int64.lt_iff_toInt_lt, t64 hx, t64 hy]
theorem eq64 {x y : Int} (hx : i64 x) (hy : i64 y) : Int64.ofInt x = Int64.ofInt y ↔ x = y := by rw [← Int64.toInt_inj, t64 hx, t64 hy]
theorem c32 {x : Int} (h : i32 x) : (Int32.ofInt x).toNatClampNeg = x.toNat := Int32.toNatClampNeg_ofInt_of_le (by have := h.1; omega) (by have := h.2; omega)
theorem in32 {x : Int} {n : Nat} (h : i32 x) (hn : 0 ≤ x ∧ x < (n : Int)) : vp_in (Int32.ofInt x) n := vp_in_iff.mpr (by rw [t32 h]; exact hn)
theorem i32_0 : i32 0 := by constructor <;> decide
theorem i64_0 : i64 0 := by constructor <;> decide
theorem w32_t (x : Int) : w32 x = (Int32.ofInt x).toInt := Int32.toInt_ofInt.symm
theorem w32_of (x : Int) : Int32.ofInt (w32 x) = Int32.ofInt x := by rw [w32_t, Int32.ofInt_toInt]
theorem i32_w (x : Int) : i32 (w32 x) := by rw [w32_t]; exact i32_of _
theorem w32_id {x : Int} (h : i32 x) : w32 x = x := by rw [w32_t, t32 h]
theorem i64_i {x : Int} (h : i32 x) : i64 x := ⟨by have := h.1; omega, by have := h.2; omega⟩
theorem i2l_t {x : Int} (h : i32 x) : (Int32.ofInt x).toInt64 = Int64.ofInt x := Int64.toInt_inj.mp (by rw [Int32.toInt_toInt64, t32 h, t64 (i64_i h)])
theorem lcm_t {x y : Int} (hx : i64 x) (hy : i64 y) : lg_cmp (Int64.ofInt x) (Int64.ofInt y) = Int32.ofInt (lCmp x y) := by
  unfold lg_cmp lCmp
  simp only [gt_iff_lt, lt64 hy hx, eq64 hx hy]
  split
  · rw [if_neg (by omega), if_neg (by omega)]; rfl
  · split
    · next h => rw [if_neg (by omega)]; rfl
    · rw [if_pos (by omega)]; rfl
theorem lCmp_i (x y : Int) : i32 (lCmp x y) := by
  unfold lCmp
  split
  · constructor <;> decide
  · split <;> constructor <;> decide
theorem iMax_t {x y : Int} (hx : i32 x) (hy : i32 y) : (if Int32.ofInt x < Int32.ofInt y then Int32.ofInt y else Int32.ofInt x) = Int32.ofInt (iMax x y) := by
  unfold iMax
  simp only [lt32 hx hy]
  split <;> rfl
theorem lMax_t {x y : Int} (hx : i64 x) (hy : i64 y) : (if Int64.ofInt y < Int64.ofInt x then Int64.ofInt x else Int64.ofInt y) = Int64.ofInt (lMax x y) := by
  unfold lMax
  simp only [lt64 hy hx]
  split <;> rfl
-- what holds of all numbers of a state
def okv (v : AV) : Prop := match v with
  | Sum.inl x => i32 x
  | Sum.inr (Sum.inl x) => i64 x
  | _ => True
def okS (st : List AV) : Prop := ∀ v ∈ st, okv v
def okL (lv : List (Option AV)) : Prop := ∀ v, some v ∈ lv → okv v
def okW (w : AW) : Prop := (∀ a j, i32 (wI w a j)) ∧ ∀ a j, i64 (wL w a j)
theorem okS.c {v : AV} {st : List AV} (h : okv v) (hs : okS st) : okS (v :: st) := fun u hu => by
  rcases List.mem_cons.mp hu with rfl | hu
  · exact h
  · exact hs u hu
theorem okS.h {v : AV} {st : List AV} (hs : okS (v :: st)) : okv v := hs v List.mem_cons_self
theorem okS.t {v : AV} {st : List AV} (hs : okS (v :: st)) : okS st := fun u hu => hs u (List.mem_cons_of_mem _ hu)
theorem okL.at {lv : List (Option AV)} (h : okL lv) {i : Nat} {v : AV} (hi : lv[i]? = some (some v)) : okv v := h v (List.mem_of_getElem? hi)
theorem okL_kL {lv : List (Option AV)} (h : okL lv) (i : Nat) : okL (kL lv i) := by
  unfold kL
  split
  · intro v hv
    rcases List.mem_or_eq_of_mem_set hv with h1 | h1
    · exact h v h1
    · cases h1
  · exact h
theorem okL_s1 {lv : List (Option AV)} (h : okL lv) (i : Nat) {v : AV} (hv : okv v) : okL (s1 lv i v) := by
  intro u hu
  unfold s1 at hu
  rcases List.mem_or_eq_of_mem_set hu with h1 | h1
  · cases i with
    | zero => exact h u h1
    | succ j => exact okL_kL h j u h1
  · cases h1; exact hv
theorem okL_s2 {lv : List (Option AV)} (h : okL lv) (i : Nat) {v : AV} (hv : okv v) : okL (s2 lv i v) := by
  intro u hu
  unfold s2 at hu
  rcases List.mem_or_eq_of_mem_set hu with h1 | h1
  · rcases List.mem_or_eq_of_mem_set h1 with h1 | h1
    · cases i with
      | zero => exact h u h1
      | succ j => exact okL_kL h j u h1
    · cases h1
  · cases h1; exact hv
theorem okW_uI {w : AW} (h : okW w) {a j : Nat} {x : Int} (hx : i32 x) : okW (uI w a j x) := by
  refine ⟨fun b i => ?_, h.2⟩
  show i32 (if b = a ∧ i = j then x else w.2.1 b i)
  split
  · exact hx
  · exact h.1 b i
theorem okW_uL {w : AW} (h : okW w) {a j : Nat} {x : Int} (hx : i64 x) : okW (uL w a j x) := by
  refine ⟨h.1, fun b i => ?_⟩
  show i64 (if b = a ∧ i = j then x else w.2.2.1 b i)
  split
  · exact hx
  · exact h.2 b i
theorem okW_uR {w : AW} (h : okW w) {a j : Nat} {x : Option Nat} : okW (uR w a j x) := h
theorem okW_uN {w : AW} (h : okW w) {q : Nat × Nat × Nat} : okW (uN w q) := by
  refine ⟨fun b i => ?_, fun b i => ?_⟩
  · show i32 (if b = w.1.length then 0 else w.2.1 b i)
    split
    · exact i32_0
    · exact h.1 b i
  · show i64 (if b = w.1.length then 0 else w.2.2.1 b i)
    split
    · exact i64_0
    · exact h.2 b i
/-- what stays as it was at the start: the String constants, two statics, a link between nest mates, the script -/
def Sx (E : AX) (base : Nat) (sp : Nat → Value) (U : State) (H : Heap) : Prop :=
  (∃ adK adV : Nat → Nat, (∀ i, i < 10 → sp (2000 + i) = .ref (adK i) ∧ sp (3000 + i) = .ref (adV i)) ∧ vk_S 10 (strB.map List.length) (strB.map (List.map Int32.ofInt)) adK adV (fun q => base ≤ q) U H ∧ ∀ i, i < 10 → vk_R RX2 (strN.getD i (0, "")).1 (strN.getD i (0, "")).2 (adK i) U) ∧
  va_Z "java/lang/String" "COMPACT_STRINGS" "Z" (.int 1) (fun q => base ≤ q) U H ∧
  va_Z "jdk/internal/util/Preconditions" "SIOOBE_FORMATTER" "Ljava/util/function/BiFunction;" (sp 5000) (fun q => base ≤ q) U H ∧
  va_Nw (.methodLinkNest RX5 63 (ynm 91) RX11) U ∧
  ∃ b, sp 1000 = .ref b ∧ va_X b E.1 E.2 U H ∧ b < H.size ∧ ¬ base ≤ b
theorem Sx.go {E : AX} {base : Nat} {sp : Nat → Value} {s U : State} {H : Heap} {locs : List Loc} (h : Sx E base sp s s.heap) (hW : s.WarmedH U.vm) (hS : va_S (fun q => base ≤ q) s.heap H locs) : Sx E base sp U H := by
  obtain ⟨⟨adK, adV, h1, h2, h3⟩, h4, h5, h6, b, h7, h8, h9, h10⟩ := h
  exact ⟨⟨adK, adV, h1, (vk_S.moved hW.alike h2).kept hS.2.1, fun i hi => vk_R.warm hW (h3 i hi)⟩, (va_Z.moved hW.alike h4).kept hS.2.1, (va_Z.moved hW.alike h5).kept hS.2.1, va_Nw.warmM hW h6, b, h7, (va_X.moved hW.alike h8).kept (hS.2.1 b h9 h10), Nat.lt_of_lt_of_le h9 hS.1, h10⟩
theorem Sx.same {E : AX} {base : Nat} {sp : Nat → Value} {s U : State} {H : Heap} (hv : U.vm = s.vm) (h : Sx E base sp s H) : Sx E base sp U H := by
  have ha : s.vm.Alike U.vm := by rw [hv]; exact Vm.Alike.refl _
  obtain ⟨⟨adK, adV, h1, h2, h3⟩, h4, h5, h6, b, h7, h8, h9, h10⟩ := h
  exact ⟨⟨adK, adV, h1, vk_S.moved ha h2, fun i hi => vk_R.same hv (h3 i hi)⟩, va_Z.moved ha h4, va_Z.moved ha h5, va_Nw.same rfl hv.symm h6, b, h7, va_X.moved ha h8, h9, h10⟩
def retI (ins : Instr) (rt : Option AV) : Bool := match ins, rt with
  | .return_, none => true
  | .ireturn, some (Sum.inl _) => true
  | .lreturn, some (Sum.inr (Sum.inl _)) => true
  | _, _ => false
def retT (ty : Option FieldType) (rt : Option AV) : Prop := match ty, rt with
  | none, none => True
  | some .int, some (Sum.inl _) => True
  | some .boolean, some (Sum.inl x) => x = 0 ∨ x = 1
  | some .char, some (Sum.inl x) => 0 ≤ x ∧ x ≤ 65535
  | some .byte, some (Sum.inl x) => -128 ≤ x ∧ x ≤ 127
  | some .long, some (Sum.inr (Sum.inl _)) => True
  | _, _ => False
/-- what is known in a method's body -/
def Cx (l : Launch) (E : AX) (h k : Nat) (w0 : AW) (nc ns : Nat) (Φ : Option AV → AW → Prop) (p : Program) (e : Env) (R : Room) (s : State) (m : MethodId) (args : Array Value) (below : List Frame) (meth : Method) (c : Code) (Q : State → Prop) (D : va_G) (cs : ClassId × ClassId × ClassId) (base : Nat) (sp : Nat → Value) : Prop :=
  (p.tables.exec = Jvm.exec ∧ c.code = byt k ∧ c.maxLocals = mxl k ∧ s.vm.findClass (rn_ (own k)) = some m.cls ∧ ∀ w ∈ tb, w.before args s = true) ∧
  (knd k = 2 → meth.name = "<init>") ∧ (h ≤ R.frames ∧ 64 * h ≤ R.locals ∧ nc ≤ R.cells ∧ ns ≤ R.slots) ∧
  va_K D classes (tysO cs) s ∧ okSp sp ∧ Sx E base sp s s.heap ∧ base ≤ s.heap.size ∧
  ∀ (H : Heap) (locs : List Loc) (ls : Array Slot) (pc : Nat) (ins : Instr) (rt : Option AV) (wf : AW), Φ rt wf → cN wf = cN w0 + nc → sN wf = sN w0 + ns → okW wf → (∀ v ∈ rt, okv v) → hW D cs base sp wf H → va_S (fun q => base ≤ q) s.heap H locs → decode (byt k) pc = .ok (ins, 1) → retI ins rt = true → retT (rty k) rt → W p l e R s m args below meth c H locs nc ns Q (F0 m pc ls (rt.toList.map (tr base sp)))
/-- the machine, standing at this state of the abstract one, comes to its end -/
def inB (w0 : AW) (nc ns : Nat) (w : AW) : Prop := (cN w0 ≤ cN w ∧ cN w ≤ cN w0 + nc) ∧ sN w0 ≤ sN w ∧ sN w ≤ sN w0 + ns
def Rch (l : Launch) (E : AX) (h k : Nat) (w0 : AW) (nc ns : Nat) (Φ : Option AV → AW → Prop) (t : AS) : Prop :=
  okW t.2.2.2 → okL t.2.1 → okS t.2.2.1 → inB w0 nc ns t.2.2.2 → ∀ (p : Program) (e : Env) (R : Room) (s : State) (m : MethodId) (args : Array Value) (below : List Frame) (meth : Method) (c : Code) (Q : State → Prop) (D : va_G) (cs : ClassId × ClassId × ClassId) (base : Nat) (sp : Nat → Value), Cx l E h k w0 nc ns Φ p e R s m args below meth c Q D cs base sp →
  ∀ (H : Heap) (locs : List Loc) (ls : Array Slot), hW D cs base sp t.2.2.2 H → va_S (fun q => base ≤ q) s.heap H locs → hasL base sp ls (mxl k) t.2.1 → W p l e R s m args below meth c H locs (cN t.2.2.2 - cN w0) (sN t.2.2.2 - sN w0) Q (F0 m t.1 ls (t.2.2.1.map (tr base sp)))
section RS
variable {l : Launch} {E : AX} {h k : Nat} {w0 : AW} {nc ns : Nat} {Φ : Option AV → AW → Prop} {pc pc' : Nat} {lv lv' : List (Option AV)} {st st' : List AV} {w w' : AW}
/-- a step that leaves locals and world -/
theorem rch_step (ok' : okW w → okL lv → okS st → okS st')
    (step : ∀ (p : Program) (e : Env) (R : Room) (s : State) (m : MethodId) (args : Array Value) (below : List Frame) (meth : Method) (c : Code) (Q : State → Prop) (D : va_G) (cs : ClassId × ClassId × ClassId) (base : Nat) (sp : Nat → Value), Cx l E h k w0 nc ns Φ p e R s m args below meth c Q D cs base sp → okW w → okL lv → okS st →
      ∀ (H : Heap) (locs : List Loc) (ls : Array Slot) (cells slots : Nat), cells ≤ nc → slots ≤ ns → hW D cs base sp w H → va_S (fun q => base ≤ q) s.heap H locs → hasL base sp ls (mxl k) lv → W p l e R s m args below meth c H locs cells slots Q (F0 m pc' ls (st'.map (tr base sp))) → W p l e R s m args below meth c H locs cells slots Q (F0 m pc ls (st.map (tr base sp))))
    (kk : Rch l E h k w0 nc ns Φ (pc', lv, st', w)) : Rch l E h k w0 nc ns Φ (pc, lv, st, w) := by
  intro hw hl hs hB p e R s m args below meth c Q D cs base sp C H locs ls hH hS hL
  exact step p e R s m args below meth c Q D cs base sp C hw hl hs H locs ls _ _ (by have := hB.1; simp only at *; omega) (by have := hB.2; simp only at *; omega) hH hS hL (kk hw hl (ok' hw hl hs) hB p e R s m args below meth c Q D cs base sp C H locs ls hH hS hL)
end RS
end
section
-- CLASSES: names, fields, words
theorem cls_at : ∀ ci, ci < 13 → classes[ci]? = some (rn_ ci, clT.getD ci TX0, (fTL.getD ci []).length)
  | 0, _ => rfl
  | 1, _ => rfl
  | 2, _ => rfl
  | 3, _ => rfl
  | 4, _ => rfl
  | 5, _ => rfl
  | 6, _ => rfl
  | 7, _ => rfl
  | 8, _ => rfl
  | 9, _ => rfl
  | 10, _ => rfl
  | 11, _ => rfl
  | 12, _ => rfl
  | n + 13, h => absurd h (by omega)
def tyT : List (Nat → FieldType) := [tyX0, tyX1, tyX2, tyX3, tyX4, tyX5, tyX6, tyX7, tyX8, tyX9, tyX10, tyX11, tyX12]
def tyf (ci j : Nat) : FieldType := (tyT.getD ci tyX0) j
theorem ty_ok : ∀ ci, ci < 13 → ∀ j, j < (fTL.getD ci []).length → parseFieldDescriptor ((clT.getD ci TX0) j).2.2.1 = some (tyf ci j)
  | 0, _ => tyX0_ok
  | 1, _ => tyX1_ok
  | 2, _ => tyX2_ok
  | 3, _ => tyX3_ok
  | 4, _ => tyX4_ok
  | 5, _ => tyX5_ok
  | 6, _ => tyX6_ok
  | 7, _ => tyX7_ok
  | 8, _ => tyX8_ok
  | 9, _ => tyX9_ok
  | 10, _ => tyX10_ok
  | 11, _ => tyX11_ok
  | 12, _ => tyX12_ok
  | n + 13, h => absurd h (by omega)
theorem nm_ok : ∀ ci, ci < 13 → ∀ a, a < (fTL.getD ci []).length → ∀ b, b < (fTL.getD ci []).length → a ≠ b → ((clT.getD ci TX0) a).2.1 ≠ ((clT.getD ci TX0) b).2.1
  | 0, _ => nmX0
  | 1, _ => nmX1
  | 2, _ => nmX2
  | 3, _ => nmX3
  | 4, _ => nmX4
  | 5, _ => nmX5
  | 6, _ => nmX6
  | 7, _ => nmX7
  | 8, _ => nmX8
  | 9, _ => nmX9
  | 10, _ => nmX10
  | 11, _ => nmX11
  | 12, _ => nmX12
  | n + 13, h => absurd h (by omega)
theorem lay_0 : subl (u_ws RX0 TX0 8) lw_tbl = true := by decide +kernel
theorem lay_1 : subl (u_ws RX1 TX1 6) lw_tbl = true := by decide +kernel
theorem lay_2 : subl (u_ws RX2 TX2 2) lw_tbl = true := by decide +kernel
theorem lay_3 : subl (u_ws RX3 TX3 15) lw_tbl = true := by decide +kernel
theorem lay_4 : subl (u_ws RX4 TX4 4) lw_tbl = true := by decide +kernel
theorem lay_5 : subl (u_ws RX5 TX5 6) lw_tbl = true := by decide +kernel
theorem lay_6 : subl (u_ws RX6 TX6 7) lw_tbl = true := by decide +kernel
theorem lay_7 : subl (u_ws RX7 TX7 7) lw_tbl = true := by decide +kernel
theorem lay_8 : subl (u_ws RX8 TX8 8) lw_tbl = true := by decide +kernel
theorem lay_9 : subl (u_ws RX9 TX9 2) lw_tbl = true := by decide +kernel
theorem lay_10 : subl (u_ws RX10 TX10 4) lw_tbl = true := by decide +kernel
theorem lay_11 : subl (u_ws RX11 TX11 18) lw_tbl = true := by decide +kernel
theorem lay_12 : subl (u_ws RX12 TX12 83) lw_tbl = true := by decide +kernel
theorem lay_good {C : String} {T : u_T} {N : Nat} {c : Jvm.Cond} (h : c ∈ u_ws C T N) : goodWord c = true := by
  obtain ⟨k, -, rfl⟩ := List.mem_map.mp h
  unfold u_lay
  split <;> rfl
theorem lay_in : ∀ ci, ci < 13 → ∀ c ∈ u_ws (rn_ ci) (clT.getD ci TX0) (fTL.getD ci []).length, c ∈ tb
  | 0, _ => fun c hc => tb_in (subl_mem _ _ lay_0 c hc) (lay_good hc)
  | 1, _ => fun c hc => tb_in (subl_mem _ _ lay_1 c hc) (lay_good hc)
  | 2, _ => fun c hc => tb_in (subl_mem _ _ lay_2 c hc) (lay_good hc)
  | 3, _ => fun c hc => tb_in (subl_mem _ _ lay_3 c hc) (lay_good hc)
  | 4, _ => fun c hc => tb_in (subl_mem _ _ lay_4 c hc) (lay_good hc)
  | 5, _ => fun c hc => tb_in (subl_mem _ _ lay_5 c hc) (lay_good hc)
  | 6, _ => fun c hc => tb_in (subl_mem _ _ lay_6 c hc) (lay_good hc)
  | 7, _ => fun c hc => tb_in (subl_mem _ _ lay_7 c hc) (lay_good hc)
  | 8, _ => fun c hc => tb_in (subl_mem _ _ lay_8 c hc) (lay_good hc)
  | 9, _ => fun c hc => tb_in (subl_mem _ _ lay_9 c hc) (lay_good hc)
  | 10, _ => fun c hc => tb_in (subl_mem _ _ lay_10 c hc) (lay_good hc)
  | 11, _ => fun c hc => tb_in (subl_mem _ _ lay_11 c hc) (lay_good hc)
  | 12, _ => fun c hc => tb_in (subl_mem _ _ lay_12 c hc) (lay_good hc)
  | n + 13, h => absurd h (by omega)
theorem ins_in : ∀ ci, ci < 13 → Jvm.Cond.instantiable (rn_ ci) (fTL.getD ci []).length ∈ tb ∧ Jvm.Cond.initialized (rn_ ci) ∈ tb
  | 0, _ => ⟨tb_in (List.mem_of_getElem? (i := 87) (by decide +kernel)) rfl, tb_in (List.mem_of_getElem? (i := 60) (by decide +kernel)) rfl⟩
  | 1, _ => ⟨tb_in (List.mem_of_getElem? (i := 245) (by decide +kernel)) rfl, tb_in (List.mem_of_getElem? (i := 66) (by decide +kernel)) rfl⟩
  | 2, _ => ⟨tb_in (List.mem_of_getElem? (i := 230) (by decide +kernel)) rfl, tb_in (List.mem_of_getElem? (i := 65) (by decide +kernel)) rfl⟩
  | 3, _ => ⟨tb_in (List.mem_of_getElem? (i := 314) (by decide +kernel)) rfl, tb_in (List.mem_of_getElem? (i := 69) (by decide +kernel)) rfl⟩
  | 4, _ => ⟨tb_in (List.mem_of_getElem? (i := 136) (by decide +kernel)) rfl, tb_in (List.mem_of_getElem? (i := 62) (by decide +kernel)) rfl⟩
  | 5, _ => ⟨tb_in (List.mem_of_getElem? (i := 281) (by decide +kernel)) rfl, tb_in (List.mem_of_getElem? (i := 68) (by decide +kernel)) rfl⟩
  | 6, _ => ⟨tb_in (List.mem_of_getElem? (i := 198) (by decide +kernel)) rfl, tb_in (List.mem_of_getElem? (i := 64) (by decide +kernel)) rfl⟩
  | 7, _ => ⟨tb_in (List.mem_of_getElem? (i := 162) (by decide +kernel)) rfl, tb_in (List.mem_of_getElem? (i := 63) (by decide +kernel)) rfl⟩
  | 8, _ => ⟨tb_in (List.mem_of_getElem? (i := 370) (by decide +kernel)) rfl, tb_in (List.mem_of_getElem? (i := 70) (by decide +kernel)) rfl⟩
  | 9, _ => ⟨tb_in (List.mem_of_getElem? (i := 121) (by decide +kernel)) rfl, tb_in (List.mem_of_getElem? (i := 61) (by decide +kernel)) rfl⟩
  | 10, _ => ⟨tb_in (List.mem_of_getElem? (i := 404) (by decide +kernel)) rfl, tb_in (List.mem_of_getElem? (i := 71) (by decide +kernel)) rfl⟩
  | 11, _ => ⟨tb_in (List.mem_of_getElem? (i := 79) (by decide +kernel)) rfl, tb_in (List.mem_of_getElem? (i := 59) (by decide +kernel)) rfl⟩
  | 12, _ => ⟨tb_in (List.mem_of_getElem? (i := 923) (by decide +kernel)) rfl, tb_in (List.mem_of_getElem? (i := 72) (by decide +kernel)) rfl⟩
  | n + 13, h => absurd h (by omega)
theorem arr_int : Jvm.Cond.arrayClass .int ∈ tb := tb_in (List.mem_of_getElem? (i := 119) (by decide +kernel)) rfl
theorem arr_boolean : Jvm.Cond.arrayClass .boolean ∈ tb := tb_in (List.mem_of_getElem? (i := 160) (by decide +kernel)) rfl
theorem arr_long : Jvm.Cond.arrayClass .long ∈ tb := tb_in (List.mem_of_getElem? (i := 368) (by decide +kernel)) rfl
set_option maxRecDepth 100000 in
theorem obj_code : Jvm.Cond.code Lib.objectInit ⟨#[0xb1]⟩ 1 none ∈ tb := tb_in (List.mem_of_getElem? (i := 85) rfl) rfl
theorem obj_inst : Jvm.Cond.instanceMethod Lib.objectInit ∈ tb := tb_in (List.mem_of_getElem? (i := 84) (by decide +kernel)) rfl
set_option maxRecDepth 100000 in
theorem mx_code : Jvm.Cond.code Lib.Math.max.name Lib.Math.max.code 2 (some .int) ∈ tb := tb_in (List.mem_of_getElem? (i := 252) rfl) rfl
theorem mx_stat : Jvm.Cond.static Lib.Math.max.name ∈ tb := tb_in (List.mem_of_getElem? (i := 251) (by decide +kernel)) rfl
set_option maxRecDepth 100000 in
theorem mxl__code : Jvm.Cond.code Lib.MathLoose.max_long.x Lib.MathLoose.max_long.code 4 (some .long) ∈ tb := tb_in (List.mem_of_getElem? (i := 792) rfl) rfl
theorem mxl__stat : Jvm.Cond.static Lib.MathLoose.max_long.x ∈ tb := tb_in (List.mem_of_getElem? (i := 791) (by decide +kernel)) rfl
theorem math_init : Jvm.Cond.initialized "java/lang/Math" ∈ tb := tb_in (List.mem_of_getElem? (i := 67) (by decide +kernel)) rfl
def fck (ci j : Nat) : Bool := match fT ci j, tyf ci j with
  | 0, .int => true
  | 1, .boolean => true
  | 2, .long => true
  | 3, .object _ => true
  | 3, .array _ => true
  | _, _ => false
theorem fck_all : (List.range 13).all (fun ci => (List.range (fTL.getD ci []).length).all (fck ci)) = true := by decide +kernel
theorem fck_ok {ci j : Nat} (h : ci < 13) (hj : j < (fTL.getD ci []).length) : fck ci j = true :=
  List.all_eq_true.mp (List.all_eq_true.mp fck_all ci (List.mem_range.mpr h)) j (List.mem_range.mpr hj)
theorem fls_all : fls.all (fun q => decide (q.2.2.1 < 13) && decide (q.2.2.2 < (fTL.getD q.2.2.1 []).length)) = true := by decide +kernel
theorem fls_rg {q : Nat × Nat × Nat × Nat} (h : q ∈ fls) : q.2.2.1 < 13 ∧ q.2.2.2 < (fTL.getD q.2.2.1 []).length := by
  have := List.all_eq_true.mp fls_all q h
  simpa using this
theorem cks_all : cks.all (fun q => decide (q.2.2 < 13)) = true := by decide +kernel
theorem srs_all : srs.all (fun q => decide (q.1 = 2) && decide (q.2.1 = (strN.getD q.2.2 (0, "")).1)) = true := by decide +kernel
theorem srs_at {o i b : Nat} (h : (o, i, b) ∈ srs) : rn_ o = RX2 ∧ i = (strN.getD b (0, "")).1 := by
  have := List.all_eq_true.mp srs_all _ h
  simp only [Bool.and_eq_true, decide_eq_true_eq] at this
  exact ⟨by rw [this.1]; rfl, this.2⟩
theorem lInt_at {lv : List (Option AV)} {i : Nat} {x : Int} (h : lInt lv i = some x) : lv[i]? = some (some (vI x)) := by
  unfold lInt at h
  split at h
  · next e => cases h; exact e
  · cases h
theorem lLng_at {lv : List (Option AV)} {i : Nat} {x : Int} (h : lLng lv i = some x) : lv[i]? = some (some (vL x)) := by
  unfold lLng at h
  split at h
  · next e => cases h; exact e
  · cases h
theorem lRef_at {lv : List (Option AV)} {i : Nat} {x : Nat} (h : lRef lv i = some x) : lv[i]? = some (some (vR x)) ∧ x < 5000 := by
  unfold lRef at h
  split at h
  · next e =>
    split at h
    · next h5 => cases h; exact ⟨e, h5⟩
    · cases h
  · cases h
theorem by8 {n : Int} (h1 : -128 ≤ n) (h2 : n ≤ 127) : (Int8.ofInt n).toInt32 = Int32.ofInt n := Int32.toInt_inj.mp (by rw [Int8.toInt_toInt32, Int8.toInt_ofInt_of_le (by omega) (by omega), t32 ⟨by omega, by omega⟩])
theorem by16 {n : Int} (h1 : -32768 ≤ n) (h2 : n ≤ 32767) : (Int16.ofInt n).toInt32 = Int32.ofInt n := Int32.toInt_inj.mp (by rw [Int16.toInt_toInt32, Int16.toInt_ofInt_of_le (by omega) (by omega), t32 ⟨by omega, by omega⟩])
theorem map_set {f g : Nat → Value} {n b : Nat} {v : Value} (hb : g b = v) (h : ∀ j, j ≠ b → g j = f j) : (List.range n).map g = ((List.range n).map f).set b v := by
  apply List.ext_getElem?
  intro i
  rw [List.getElem?_set]
  by_cases hi : i < n
  · by_cases hib : b = i
    · subst hib; simp [hi, hb]
    · simp [hi, hib, h i (Ne.symm hib)]
  · have h1 : n ≤ i := by omega
    by_cases hib : b = i
    · subst hib; simp [h1, hi]
    · simp [h1, hib]
theorem clt_all : (List.range 13).all (fun ci => (List.range (fTL.getD ci []).length).all (fun j => decide ((clt ci j).1 = rn_ ci))) = true := by decide +kernel
theorem clt_own (ci : Nat) (h : ci < 13) (j : Nat) (hj : j < (fTL.getD ci []).length) : (clt ci j).1 = rn_ ci :=
  of_decide_eq_true (List.all_eq_true.mp (List.all_eq_true.mp clt_all ci (List.mem_range.mpr h)) j (List.mem_range.mpr hj))
theorem strB_all : strB.all (fun l => decide (l.length < 100) && l.all (fun x => decide (0 ≤ x ∧ x < 128))) = true := by decide +kernel
theorem strB_ok (r i : Nat) : i32 ((strB.getD r []).getD i 0) := by
  have h1 : ∀ l ∈ strB, l.length < 100 ∧ ∀ x ∈ l, 0 ≤ x ∧ x < 128 := by
    intro l hl
    have := List.all_eq_true.mp strB_all l hl
    simp only [Bool.and_eq_true, decide_eq_true_eq, List.all_eq_true] at this
    exact this
  by_cases hr : r < strB.length
  · have e : strB.getD r [] = strB[r] := by simp [List.getD, hr]
    rw [e]
    by_cases hi : i < strB[r].length
    · have e2 : strB[r].getD i 0 = strB[r][i] := by simp [List.getD, hi]
      rw [e2]
      have := (h1 _ (List.getElem_mem hr)).2 _ (List.getElem_mem hi)
      exact ⟨by omega, by omega⟩
    · have e2 : strB[r].getD i 0 = 0 := by simp [List.getD, List.getElem?_eq_none (Nat.le_of_not_lt hi)]
      rw [e2]; exact i32_0
  · have e : strB.getD r [] = [] := by simp [List.getD, List.getElem?_eq_none (Nat.le_of_not_lt hr)]
    rw [e]; exact i32_0
theorem strB_i32 (r : Nat) : i32 ((strB.getD r []).length : Int) := by
  by_cases hr : r < strB.length
  · have e : strB.getD r [] = strB[r] := by simp [List.getD, hr]
    rw [e]
    have := List.all_eq_true.mp strB_all _ (List.getElem_mem hr)
    simp only [Bool.and_eq_true, decide_eq_true_eq] at this
    have h2 := this.1
    exact ⟨by omega, by omega⟩
  · have e : strB.getD r [] = [] := by simp [List.getD, List.getElem?_eq_none (Nat.le_of_not_lt hr)]
    rw [e]; exact i32_0
theorem strB_len (r : Nat) : (strB.map List.length).getD r 0 = (strB.getD r []).length := by
  simp only [List.getD, List.getElem?_map]
  cases strB[r]? <;> rfl
theorem strB_at (r i : Nat) : Value.int (((strB.map (List.map Int32.ofInt)).getD r []).getD i 0) = .int (Int32.ofInt ((strB.getD r []).getD i 0)) := by
  simp only [List.getD, List.getElem?_map]
  cases strB[r]? with
  | none => rfl
  | some l =>
    simp only [Option.map_some, Option.getD_some, List.getElem?_map]
    cases l[i]? <;> rfl
theorem mls_all : mls.all (fun q => decide (q.2.2 < 175)) = true := by decide +kernel
theorem mls_no (k i a : Nat) (h : 175 ≤ a) : (own k, i, a) ∉ mls := fun hm => by
  have := of_decide_eq_true (List.all_eq_true.mp mls_all _ hm)
  simp only at this
  omega
theorem nsl_no (k i a : Nat) (h : 175 ≤ a) : (own k, i, a) ∉ nsl := fun hm => by
  simp only [nsl, List.mem_singleton, Prod.mk.injEq] at hm
  omega
theorem iMax_ok {x y : Int} (hx : i32 x) (hy : i32 y) : i32 (iMax x y) := by unfold iMax; split <;> assumption
theorem lMax_ok {x y : Int} (hx : i64 x) (hy : i64 y) : i64 (lMax x y) := by unfold lMax; split <;> assumption
end
section
-- HEAP: the instructions that read and write cells
section AP
variable {p : Program} {l : Launch} {e : Env} {R : Room} {s : State} {m : MethodId} {args : Array Value} {below : List Frame} {meth : Method} {c : Code} {H : Heap} {locs : List Loc} {cells slots : Nat} {Q : State → Prop}
variable {cc : ByteArray} {pc : Nat} {ls : Array Slot} {rest : List Value} {D : va_G} {A : Nat → Prop} {a : Nat} {tys : List (ClassId × FieldType)} {H0 : Heap}
theorem ap_put (hexec : p.tables.exec = Jvm.exec) (hb : c.code = cc) {own C : String} {T : u_T} {N ci index : Nat} {Ts : List Jvm.Cond} (hts : ∀ w ∈ Ts, w.before args s = true) (hin : ∀ w ∈ u_ws C T N, w ∈ Ts) (ty0 : Nat → FieldType) (hty : ∀ k, k < N → parseFieldDescriptor (T k).2.2.1 = some (ty0 k)) (hnm : ∀ a, a < N → ∀ b, b < N → a ≠ b → (T a).2.1 ≠ (T b).2.1) (hown : s.vm.findClass own = some m.cls) (hK : va_K D classes tys s) {fs : List Value} (hat : va_at D classes (a, .inr (ci, fs)) H) (hc : classes[ci]? = some (C, T, N)) (k : Nat) (hk : k < N) (hlink : (Jvm.Cond.fieldLink own index (T k).1 (T k).2.1 (T k).2.2.1).before args s = true) (hfin : (T k).2.2.2 = false ∨ (meth.name = "<init>" ∧ (T k).1 = own)) {v : Value} (hn : narrow (ty0 k) v = v) (hfit : fits (ty0 k) v = true) (hl : k < fs.length)
    (hdg : decode cc pc = .ok (.putfield index, 3)) (kk : ∀ (H1 : Heap) (i : Nat), va_at D classes (a, .inr (ci, fs.set k v)) H1 → H1.size = H.size → (∀ q : Nat, q ≠ a → H1[q]? = H[q]?) → W p l e R s m args below meth c H1 (locs ++ [⟨a, i⟩]) cells slots Q (F0 m (pc + 3) ls rest)) : W p l e R s m args below meth c H locs cells slots Q (F0 m pc ls (v :: .ref a :: rest)) := by
  have hap := va_apart (own := own) hts hin ty0 hty hnm hK hc
  obtain ⟨r, h1, cell, q1, q2, q3, q4⟩ := hat
  have hr : r = (C, T, N) := Option.some.inj (h1.symm.trans hc)
  subst hr
  obtain ⟨hS, hfc, kC, hkC, hkind⟩ := hK.1 ci _ hc
  obtain ⟨cf, kf, fi, f, hi, hsl⟩ := hS k hk
  have hst := (u_facts hfc hkC (u_lays hts hin hk) hi).1
  have fin : ∀ H' : Heap, H'[a]? = some (cell.setSlot f.slot v) → va_at D classes (a, .inr (ci, fs.set k v)) H' := by
    intro H' e1
    rw [hsl] at e1
    exact ⟨_, hc, t_OB.to (V := updV (vp_V fs) k v) ⟨_, e1, q2, q3, t_set q4 hap hk v⟩ (fun j _ => vp_updV_set hl v j)⟩
  have hlay := hts _ (hin _ (u_in_lay hk))
  unfold u_lay at hlay
  cases hf : (T k).2.2.2 with
  | false =>
    rw [if_neg (by rw [hf]; decide)] at hlay
    have h6 := u_store hfc hkC hkind hlay hi (hty k hk) hn hfit
    exact W.putK hexec hb (f := f) ⟨hown, hlink, ⟨_, _, _, hi⟩, hst⟩ (by rw [q2]; exact h6) q1 q3 (by rw [hsl]; exact k2_hasslot (q4 k hk)) rfl rfl hdg fun H' e1 e2 e3 => kk H' _ (fin H' e1) e2 e3
  | true =>
    rw [if_pos hf] at hlay
    obtain ⟨hin2, hdecl⟩ := hfin.resolve_left (by rw [hf]; decide)
    have hcf : m.cls = cf := by
      obtain ⟨_, _, c', _, _, _, -, -, hf', -, -, -, hown2, -⟩ := Cond.laysFinal_spec hlay
      have e1 : c' = cf := by have := hi.symm.trans hf'; simp at this; exact this.1.symm
      rw [hdecl] at hown2
      rw [← e1]; exact Option.some.inj (hown.symm.trans hown2)
    have h6 := u_fits hfc hkC hkind (Or.inr hlay) hi (hty k hk) hn hfit
    exact W.putFinK hexec hb hown hlink hi hst hcf hin2 (by rw [q2]; exact h6) q1 q3 (by rw [hsl]; exact k2_hasslot (q4 k hk)) rfl rfl hdg fun H' e1 e2 e3 => kk H' _ (fin H' e1) e2 e3
end AP
section SH
variable {l : Launch} {E : AX} {h k : Nat} {w0 : AW} {nc ns : Nat} {Φ : Option AV → AW → Prop} {pc pc' : Nat} {lv lv' : List (Option AV)} {st st' : List AV} {w w' : AW} {q0 len i a0 b0 : Nat} {x0 : Int} {ps : List Prop} {t' : AS}
theorem ok_i {x : Int} (h : i32 x) : okv (vI x) := h
theorem tr_fGv {base : Nat} {sp : Nat → Value} (w : AW) (r a b : Nat) : tr base sp (fGv w r a b) = fv base sp w r a b := by
  unfold fGv fv
  generalize fT a b = t
  rcases t with _ | _ | _ | t <;> rfl
theorem ok_fGv (hw : okW w) (r a b : Nat) : okv (fGv w r a b) := by
  unfold fGv
  split
  · exact hw.1 r b
  · exact hw.1 r b
  · exact hw.2 r b
  · trivial
theorem rv_lt {base : Nat} {sp : Nat → Value} {r : Nat} (h : r < 1000) : rv base sp r = .ref (base + r) := by unfold rv; rw [if_pos h]
theorem lay_lt {D : va_G} {cs : ClassId × ClassId × ClassId} {base : Nat} {sp : Nat → Value} {H : Heap} (hH : hW D cs base sp w H) {r : Nat} {q : Nat × Nat × Nat} (h : w.1[r]? = some q) : r < 1000 := Nat.lt_of_lt_of_le (List.getElem?_eq_some_iff.mp h).1 hH.2.1
theorem so_getfield (hen : en (cod k) pc = some (q0, .getfield i, len, x0, a0, b0)) (hl3 : len = 3) (hx : ex E (q0, .getfield i, len, x0, a0, b0) pc lv st w = some (ps, t')) (hp : all_ ps) (kk : Rch l E h k w0 nc ns Φ t') : Rch l E h k w0 nc ns Φ (pc, lv, st, w) := by
  have hd := okD hen
  have hok := okK k _ (en_mem hen).1
  subst hl3
  unfold okE at hok
  rw [Bool.and_eq_true] at hok
  have hok := hok.2
  simp only [ex] at hx
  obtain ⟨st2, hg, he⟩ := Option.map_eq_some_iff.mp hx
  cases he
  unfold fGet at hg
  split at hg
  · next r st1 =>
    split at hg
    · next ha =>
      split at hg
      · next hr =>
        cases hg
        simp only [ha, if_true] at hok
        have hlk := sfl_ok _ (of_decide_eq_true hok)
        refine rch_step (fun _ _ hs => okS.c (by split <;> first | trivial | exact i32_0) hs.t) (fun p e R s m args below meth c Q D cs base sp C hw hl hs H locs ls cells slots hc1 hc2 hH hS hL K => ?_) kk
        obtain ⟨-, -, -, -, -, ⟨⟨adK, adV, h1, h2, h3⟩, -⟩, -⟩ := id C
        have e1 : rv base sp r = .ref (adK (r - 2000)) := by
          unfold rv
          rw [if_neg (by omega), ← (h1 (r - 2000) (by omega)).1]
          exact congrArg sp (by omega)
        show W p l e R s m args below meth c H locs cells slots Q (F0 m pc ls (rv base sp r :: st1.map (tr base sp)))
        rw [e1]
        by_cases hb0 : b0 = 0
        · subst hb0
          refine vk_getf C.1.1 C.1.2.1 (h2.1 (r - 2000) (by omega)).2.2.1 hS C.1.2.2.2.1 (C.1.2.2.2.2 _ hlk) (fun _ h9 => h9) hd ?_
          have e2 : rv base sp (r + 1000) = .ref (adV (r - 2000)) := by
            unfold rv
            rw [if_neg (by omega), ← (h1 (r - 2000) (by omega)).2]
            exact congrArg sp (by omega)
          rw [← e2]; exact K
        · have e3 : fS (own k, i, b0) = .fieldLink (rn_ (own k)) i "java/lang/String" "coder" "B" := by simp [fS, hb0]
          rw [e3] at hlk
          refine vk_getf C.1.1 C.1.2.1 (h2.1 (r - 2000) (by omega)).2.1 hS C.1.2.2.2.1 (C.1.2.2.2.2 _ hlk) (fun _ h9 => h9) hd ?_
          rw [if_neg hb0] at K
          exact K
      · cases hg
    · next ha =>
      split at hg
      · next ci n hk2 =>
        split at hg
        · next hc =>
          obtain ⟨hc, hbn⟩ := hc
          subst hc
          cases hg
          simp only [ha, if_false] at hok
          have hm := of_decide_eq_true hok
          have hlk := fls_ok _ hm
          obtain ⟨h13, hbN⟩ := fls_rg hm
          refine rch_step (fun hw _ hs => okS.c (ok_fGv hw r ci b0) hs.t) (fun p e R s m args below meth c Q D cs base sp C hw hl hs H locs ls cells slots hc1 hc2 hH hS hL K => ?_) kk
          have e1 : rv base sp r = .ref (base + r) := rv_lt (lay_lt hH hk2)
          show W p l e R s m args below meth c H locs cells slots Q (F0 m pc ls (rv base sp r :: st1.map (tr base sp)))
          rw [e1]
          refine va_get (D := D) (cl := classes) (ws := wsO base sp cs w) (C := rn_ ci) (T := clT.getD ci TX0) (N := (fTL.getD ci []).length) (ref := ((clT.getD ci TX0) b0).1) (v := fv base sp w r ci b0) C.1.1 C.1.2.1 C.1.2.2.2.2 (lay_in ci h13) C.1.2.2.2.1 C.2.2.2.1 hH.2.2 r (wsO_at hk2) (cls_at ci h13) b0 hbN (C.1.2.2.2.2 _ hlk) (fun _ h9 => h9) ?_ hd ?_
          · simp [hbn]
          · rw [← tr_fGv]; exact K
        · cases hg
      · cases hg
  · cases hg
theorem so_getstatic (hen : en (cod k) pc = some (q0, .getstatic i, len, x0, a0, b0)) (hl3 : len = 3) (hx : ex E (q0, .getstatic i, len, x0, a0, b0) pc lv st w = some (ps, t')) (hp : all_ ps) (kk : Rch l E h k w0 nc ns Φ t') : Rch l E h k w0 nc ns Φ (pc, lv, st, w) := by
  have hd := okD hen
  have hok := okK k _ (en_mem hen).1
  subst hl3
  unfold okE at hok
  rw [Bool.and_eq_true] at hok
  have hlk := gsl_ok _ (of_decide_eq_true hok.2)
  simp only [ex] at hx
  split at hx
  · next ha =>
    cases hx
    subst ha
    exact rch_step (fun _ _ hs => okS.c (ok_i ⟨by decide, by decide⟩) hs) (fun p e R s m args below meth c Q D cs base sp C hw hl hs H locs ls cells slots hc1 hc2 hH hS hL K => va_gets C.1.1 C.1.2.1 C.2.2.2.2.2.1.2.1 hS C.1.2.2.2.1 (C.1.2.2.2.2 _ hlk) (fun _ h9 => h9) hd K) kk
  · split at hx
    · next ha =>
      cases hx
      subst ha
      refine rch_step (fun _ _ hs => okS.c (v := vR 5000) trivial hs) (fun p e R s m args below meth c Q D cs base sp C hw hl hs H locs ls cells slots hc1 hc2 hH hS hL K => va_gets C.1.1 C.1.2.1 C.2.2.2.2.2.1.2.2.1 hS C.1.2.2.2.1 (C.1.2.2.2.2 _ hlk) (fun _ h9 => h9) hd ?_) kk
      exact K
    · cases hx
theorem uI_ob {base : Nat} {sp : Nat → Value} {cs : ClassId × ClassId × ClassId} {r ci n b : Nat} {x : Int} (hf : fT ci b = 0 ∨ fT ci b = 1) : ct base sp cs (uI w r b x) r (0, ci, n) = .inr (ci, ((List.range n).map (fv base sp w r ci)).set b (.int (Int32.ofInt x))) := by
  show Sum.inr (ci, (List.range n).map (fv base sp (uI w r b x) r ci)) = _
  rw [map_set (f := fv base sp w r ci) (b := b) (v := .int (Int32.ofInt x))]
  · unfold fv
    rcases hf with hf | hf <;> simp [hf, wI_uI]
  · intro j hj
    unfold fv
    simp only [wI_uI, if_neg hj]
    rfl
theorem uL_ob {base : Nat} {sp : Nat → Value} {cs : ClassId × ClassId × ClassId} {r ci n b : Nat} {x : Int} (hf : fT ci b = 2) : ct base sp cs (uL w r b x) r (0, ci, n) = .inr (ci, ((List.range n).map (fv base sp w r ci)).set b (.long (Int64.ofInt x))) := by
  show Sum.inr (ci, (List.range n).map (fv base sp (uL w r b x) r ci)) = _
  rw [map_set (f := fv base sp w r ci) (b := b) (v := .long (Int64.ofInt x))]
  · unfold fv
    simp [hf, wL_uL]
  · intro j hj
    unfold fv
    simp only [wL_uL, if_neg hj]
    rfl
theorem uR_ob {base : Nat} {sp : Nat → Value} {cs : ClassId × ClassId × ClassId} {r ci n b : Nat} {x : Option Nat} (hf : fT ci b = 3) : ct base sp cs (uR w r b x) r (0, ci, n) = .inr (ci, ((List.range n).map (fv base sp w r ci)).set b (tr base sp (vO x))) := by
  show Sum.inr (ci, (List.range n).map (fv base sp (uR w r b x) r ci)) = _
  rw [map_set (f := fv base sp w r ci) (b := b) (v := tr base sp (vO x))]
  · unfold fv
    simp [hf, wR_uR]
  · intro j hj
    unfold fv
    simp only [wR_uR, if_neg hj]
    rfl
theorem nar_int (x : Int32) : narrow .int (.int x) = .int x ∧ fits .int (.int x) = true := ⟨rfl, rfl⟩
theorem nar_bool {x : Int} (h : x = 0 ∨ x = 1) : narrow .boolean (.int (Int32.ofInt x)) = .int (Int32.ofInt x) ∧ fits .boolean (.int (Int32.ofInt x)) = true := by
  rcases h with rfl | rfl <;> exact ⟨by decide, by decide⟩
theorem nar_long (x : Int64) : narrow .long (.long x) = .long x ∧ fits .long (.long x) = true := ⟨rfl, rfl⟩
theorem nar_ref {ty : FieldType} (hty : (∃ C, ty = .object C) ∨ ∃ t, ty = .array t) {v : Value} (hv : v = .null ∨ ∃ a, v = .ref a) : narrow ty v = v ∧ fits ty v = true := by
  rcases hty with ⟨C, rfl⟩ | ⟨t, rfl⟩ <;> rcases hv with rfl | ⟨a, rfl⟩ <;> exact ⟨rfl, rfl⟩
theorem so_putfield (hen : en (cod k) pc = some (q0, .putfield i, len, x0, a0, b0)) (hl3 : len = 3) (hx : ex E (q0, .putfield i, len, x0, a0, b0) pc lv st w = some (ps, t')) (hp : all_ ps) (kk : Rch l E h k w0 nc ns Φ t') : Rch l E h k w0 nc ns Φ (pc, lv, st, w) := by
  have hd := okD hen
  have hok := okK k _ (en_mem hen).1
  subst hl3
  unfold okE at hok
  rw [Bool.and_eq_true] at hok
  have hok := hok.2
  simp only [Bool.and_eq_true] at hok
  have hm := of_decide_eq_true hok.1
  have hlk := fls_ok _ hm
  obtain ⟨h13, hbN⟩ := fls_rg hm
  have hfin := hok.2
  simp only [ex] at hx
  obtain ⟨⟨ps2, st2, w2⟩, hg, he⟩ := Option.map_eq_some_iff.mp hx
  cases he
  unfold fPut at hg
  split at hg
  · next v r st1 =>
    split at hg
    · next ci n hk2 =>
      split at hg
      · next hc =>
        obtain ⟨hc, hbn⟩ := hc
        subst hc
        have hfck := fck_ok h13 hbN
        have key : ∀ (w1 : AW), w1.1 = w.1 → (∀ j, j ≠ r → ∀ (base : Nat) (sp : Nat → Value) (cs : ClassId × ClassId × ClassId) q', ct base sp cs w1 j q' = ct base sp cs w j q') → (∀ (base : Nat) (sp : Nat → Value) (cs : ClassId × ClassId × ClassId), ct base sp cs w1 r (0, ci, n) = .inr (ci, ((List.range n).map (fv base sp w r ci)).set b0 (tr base sp v))) → (∀ (base : Nat) (sp : Nat → Value), okSp sp → narrow (tyf ci b0) (tr base sp v) = tr base sp v ∧ fits (tyf ci b0) (tr base sp v) = true) → (okW w → okv v → okW w1) → Rch l E h k w0 nc ns Φ (pc + 3, lv, st1, w1) → Rch l E h k w0 nc ns Φ (pc, lv, v :: vR r :: st1, w) := by
          intro w1 e1 e2 e3 e4 e5 kk hw hl hs hB p e R s m args below meth c Q D cs base sp C H locs ls hH hS hL
          have e6 : rv base sp r = .ref (base + r) := rv_lt (lay_lt hH hk2)
          show W p l e R s m args below meth c H locs _ _ Q (F0 m pc ls (tr base sp v :: rv base sp r :: st1.map (tr base sp)))
          rw [e6]
          have hat := hH.2.2 r _ (wsO_at hk2)
          have hB2 : inB w0 nc ns w1 := by unfold inB cN sN at hB ⊢; rw [e1]; exact hB
          have hcn : cN w1 = cN w := by unfold cN; rw [e1]
          have hsn : sN w1 = sN w := by unfold sN; rw [e1]
          refine ap_put (C := rn_ ci) (T := clT.getD ci TX0) (N := (fTL.getD ci []).length) (ci := ci) C.1.1 C.1.2.1 C.1.2.2.2.2 (lay_in ci h13) (tyf ci) (ty_ok ci h13) (nm_ok ci h13) C.1.2.2.2.1 C.2.2.2.1 hat (cls_at ci h13) b0 hbN (C.1.2.2.2.2 _ hlk) ?_ (e4 base sp C.2.2.2.2.1).1 (e4 base sp C.2.2.2.2.1).2 (by simpa using hbn) hd (fun H1 i1 g1 g2 g3 => ?_)
          · show (clt ci b0).2.2.2 = false ∨ _
            cases hf : (clt ci b0).2.2.2 with
            | false => exact Or.inl rfl
            | true =>
              rw [hf] at hfin
              simp only [Bool.not_true, Bool.false_or, Bool.and_eq_true, beq_iff_eq] at hfin
              refine Or.inr ⟨C.2.1 hfin.1, ?_⟩
              rw [hfin.2]
              exact clt_own ci h13 b0 hbN
          · have hH1 : hW D cs base sp w1 H1 := hH.upd hk2 e1 (fun j hj q' => e2 j hj base sp cs q') g2 g3 (by rw [e3]; exact g1)
            have := kk (e5 hw hs.h) hl hs.t.t hB2 p e R s m args below meth c Q D cs base sp C H1 _ ls hH1 (hS.put (k := i1) g2 g3 (Nat.le_add_right base r)) hL
            simp only [hcn, hsn] at this
            exact this
        unfold fck at hfck
        split at hg
        · next x hf =>
          cases hg
          rw [hf] at hfck
          refine key (uI w r b0 x) rfl (fun j hj _ _ _ q' => ct_uI hj q') (fun _ _ _ => uI_ob (Or.inl hf)) (fun base sp _ => ?_) (fun hw hv => okW_uI hw hv) kk
          split at hfck <;> first | (cases hfck; done) | (next e9 => rw [e9]; exact nar_int _) | skip
          all_goals (simp_all <;> done)
        · next x hf =>
          cases hg
          rw [hf] at hfck
          refine key (uI w r b0 x) rfl (fun j hj _ _ _ q' => ct_uI hj q') (fun _ _ _ => uI_ob (Or.inr hf)) (fun base sp _ => ?_) (fun hw hv => okW_uI hw hv) kk
          split at hfck <;> first | (cases hfck; done) | (next e9 => rw [e9]; exact nar_bool hp) | skip
          all_goals (simp_all <;> done)
        · next x hf =>
          cases hg
          rw [hf] at hfck
          refine key (uL w r b0 x) rfl (fun j hj _ _ _ q' => ct_uL hj q') (fun _ _ _ => uL_ob hf) (fun base sp _ => ?_) (fun hw hv => okW_uL hw hv) kk
          split at hfck <;> first | (cases hfck; done) | (next e9 => rw [e9]; exact nar_long _) | skip
          all_goals (simp_all <;> done)
        · next x hf =>
          cases hg
          rw [hf] at hfck
          refine key (uR w r b0 x) rfl (fun j hj _ _ _ q' => ct_uR hj q') (fun _ _ _ => uR_ob hf) (fun base sp hsp => ?_) (fun hw hv => okW_uR hw) kk
          have hv : tr base sp (vO x) = .null ∨ ∃ a, tr base sp (vO x) = .ref a := tr_null hsp x
          split at hfck <;> first | (cases hfck; done) | (next e9 => rw [e9]; exact nar_ref (Or.inl ⟨_, rfl⟩) hv) | (next e9 => rw [e9]; exact nar_ref (Or.inr ⟨_, rfl⟩) hv) | skip
          all_goals (simp_all <;> done)
        · cases hg
      · cases hg
    · cases hg
  · cases hg
theorem so_iaload (hen : en (cod k) pc = some (q0, .iaload, len, x0, a0, b0)) (hl3 : len = 1) (hx : ex E (q0, .iaload, len, x0, a0, b0) pc lv st w = some (ps, t')) (hp : all_ ps) (kk : Rch l E h k w0 nc ns Φ t') : Rch l E h k w0 nc ns Φ (pc, lv, st, w) := by
  have hd := okD hen
  subst hl3
  simp only [ex] at hx
  obtain ⟨⟨ps2, st2⟩, hg, he⟩ := Option.map_eq_some_iff.mp hx
  cases he
  unfold aGet at hg
  split at hg
  · next i r st1 =>
    split at hg
    · next ty n hk2 =>
      split at hg
      · next ht =>
        subst ht
        cases hg
        have hp : 0 ≤ i ∧ i < (n : Int) := hp
        refine rch_step (fun hw _ hs => okS.c (show okv (vI (wI w r i.toNat)) from hw.1 r _) hs.t.t) (fun p e R s m args below meth c Q D cs base sp C hw hl hs H locs ls cells slots hc1 hc2 hH hS hL K => ?_) kk
        have e1 : rv base sp r = .ref (base + r) := rv_lt (lay_lt hH hk2)
        have hi : i32 i := hs.h
        show W p l e R s m args below meth c H locs cells slots Q (F0 m pc ls (.int (Int32.ofInt i) :: rv base sp r :: st1.map (tr base sp)))
        rw [e1]
        refine va_iald (D := D) (cl := classes) (ws := wsO base sp cs w) C.1.1 C.1.2.1 C.2.2.2.1 hH.2.2 r 0 (wsO_at hk2) rfl (in32 hi hp) hd ?_
        rw [c32 hi]
        exact K
      · cases hg
    · cases hg
    · next hk2 =>
      split at hg
      · next hr =>
        cases hg
        have hp : 0 ≤ i ∧ i < (E.1 : Int) := hp
        refine rch_step (fun hw _ hs => okS.c (show okv (vI (E.2 i.toNat).toInt) from i32_of _) hs.t.t) (fun p e R s m args below meth c Q D cs base sp C hw hl hs H locs ls cells slots hc1 hc2 hH hS hL K => ?_) kk
        obtain ⟨b, g1, g2, g3, g4⟩ := C.2.2.2.2.2.1.2.2.2.2
        have hi : i32 i := hs.h
        have e1 : rv base sp r = .ref b := by unfold rv; rw [hr.1]; exact g1
        show W p l e R s m args below meth c H locs cells slots Q (F0 m pc ls (.int (Int32.ofInt i) :: rv base sp r :: st1.map (tr base sp)))
        rw [e1]
        refine va_sld C.1.1 C.1.2.1 g2 g3 g4 hS (in32 hi hp) hd ?_
        rw [c32 hi]
        have e2 : tr base sp (vI (E.2 i.toNat).toInt) = .int (E.2 i.toNat) := by show Value.int (Int32.ofInt _) = _; rw [Int32.ofInt_toInt]
        rw [← e2]
        exact K
      · next hr =>
        rw [if_neg (by simp)] at hg
        cases hg
  · cases hg
theorem so_baload (hen : en (cod k) pc = some (q0, .baload, len, x0, a0, b0)) (hl3 : len = 1) (hx : ex E (q0, .baload, len, x0, a0, b0) pc lv st w = some (ps, t')) (hp : all_ ps) (kk : Rch l E h k w0 nc ns Φ t') : Rch l E h k w0 nc ns Φ (pc, lv, st, w) := by
  have hd := okD hen
  subst hl3
  simp only [ex] at hx
  obtain ⟨⟨ps2, st2⟩, hg, he⟩ := Option.map_eq_some_iff.mp hx
  cases he
  unfold aGet at hg
  split at hg
  · next i r st1 =>
    split at hg
    · next ty n hk2 =>
      split at hg
      · next ht =>
        subst ht
        cases hg
        have hp : 0 ≤ i ∧ i < (n : Int) := hp
        refine rch_step (fun hw _ hs => okS.c (show okv (vI (wI w r i.toNat)) from hw.1 r _) hs.t.t) (fun p e R s m args below meth c Q D cs base sp C hw hl hs H locs ls cells slots hc1 hc2 hH hS hL K => ?_) kk
        have e1 : rv base sp r = .ref (base + r) := rv_lt (lay_lt hH hk2)
        have hi : i32 i := hs.h
        show W p l e R s m args below meth c H locs cells slots Q (F0 m pc ls (.int (Int32.ofInt i) :: rv base sp r :: st1.map (tr base sp)))
        rw [e1]
        refine va_zald (D := D) (cl := classes) (ws := wsO base sp cs w) C.1.1 C.1.2.1 C.2.2.2.1 hH.2.2 r 1 (wsO_at hk2) rfl (in32 hi hp) hd ?_
        rw [c32 hi]
        exact K
      · cases hg
    · cases hg
    · next hk2 =>
      rw [if_neg (by simp)] at hg
      split at hg
      · next hr =>
        cases hg
        have hp : 0 ≤ i ∧ i < ((strB.getD (r - 3000) []).length : Int) := hp
        refine rch_step (fun hw _ hs => okS.c (show okv (vI ((strB.getD (r - 3000) []).getD i.toNat 0)) from strB_ok _ _) hs.t.t) (fun p e R s m args below meth c Q D cs base sp C hw hl hs H locs ls cells slots hc1 hc2 hH hS hL K => ?_) kk
        obtain ⟨-, -, -, -, -, ⟨⟨adK, adV, h1, h2, h3⟩, -⟩, -⟩ := id C
        have hi : i32 i := hs.h
        have e1 : rv base sp r = .ref (adV (r - 3000)) := by
          unfold rv
          rw [if_neg (by omega), ← (h1 (r - 3000) (by omega)).2]
          exact congrArg sp (by omega)
        show W p l e R s m args below meth c H locs cells slots Q (F0 m pc ls (.int (Int32.ofInt i) :: rv base sp r :: st1.map (tr base sp)))
        rw [e1]
        refine va_tb C.1.1 C.1.2.1 (h2.1 (r - 3000) (by omega)).2.2.2 hS (in32 hi (by rw [strB_len]; exact hp)) rfl hd ?_
        rw [c32 hi, strB_at]
        exact K
      · cases hg
  · cases hg
theorem so_laload (hen : en (cod k) pc = some (q0, .laload, len, x0, a0, b0)) (hl3 : len = 1) (hx : ex E (q0, .laload, len, x0, a0, b0) pc lv st w = some (ps, t')) (hp : all_ ps) (kk : Rch l E h k w0 nc ns Φ t') : Rch l E h k w0 nc ns Φ (pc, lv, st, w) := by
  have hd := okD hen
  subst hl3
  simp only [ex] at hx
  obtain ⟨⟨ps2, st2⟩, hg, he⟩ := Option.map_eq_some_iff.mp hx
  cases he
  unfold aGet at hg
  split at hg
  · next i r st1 =>
    split at hg
    · next ty n hk2 =>
      split at hg
      · next ht =>
        subst ht
        cases hg
        have hp : 0 ≤ i ∧ i < (n : Int) := hp
        refine rch_step (fun hw _ hs => okS.c (show okv (vL (wL w r i.toNat)) from hw.2 r _) hs.t.t) (fun p e R s m args below meth c Q D cs base sp C hw hl hs H locs ls cells slots hc1 hc2 hH hS hL K => ?_) kk
        have e1 : rv base sp r = .ref (base + r) := rv_lt (lay_lt hH hk2)
        have hi : i32 i := hs.h
        show W p l e R s m args below meth c H locs cells slots Q (F0 m pc ls (.int (Int32.ofInt i) :: rv base sp r :: st1.map (tr base sp)))
        rw [e1]
        refine va_lald (D := D) (cl := classes) (ws := wsO base sp cs w) C.1.1 C.1.2.1 C.2.2.2.1 hH.2.2 r 2 (wsO_at hk2) rfl (in32 hi hp) hd ?_
        rw [c32 hi]
        exact K
      · cases hg
    · cases hg
    · next hk2 =>
      rw [if_neg (by simp), if_neg (by simp)] at hg
      cases hg
  · cases hg
theorem so_iastore (hen : en (cod k) pc = some (q0, .iastore, len, x0, a0, b0)) (hl3 : len = 1) (hx : ex E (q0, .iastore, len, x0, a0, b0) pc lv st w = some (ps, t')) (hp : all_ ps) (kk : Rch l E h k w0 nc ns Φ t') : Rch l E h k w0 nc ns Φ (pc, lv, st, w) := by
  have hd := okD hen
  subst hl3
  simp only [ex] at hx
  obtain ⟨⟨ps2, st2, w2⟩, hg, he⟩ := Option.map_eq_some_iff.mp hx
  cases he
  unfold aPut at hg
  split at hg
  · next v i r st1 =>
    split at hg
    · next ty n hk2 =>
      split at hg
      · next ht =>
        subst ht
        split at hg
        all_goals first | (cases hg; done) | skip
        all_goals (rename_i x h9 <;> first | (cases h9; done) | skip)
        cases hg
        have hp1 : 0 ≤ i ∧ i < (n : Int) := hp
        intro hw hl hs hB p e R s m args below meth c Q D cs base sp C H locs ls hH hS hL
        have e1 : rv base sp r = .ref (base + r) := rv_lt (lay_lt hH hk2)
        have hi : i32 i := hs.t.h
        show W p l e R s m args below meth c H locs _ _ Q (F0 m pc ls (.int (Int32.ofInt x) :: .int (Int32.ofInt i) :: rv base sp r :: st2.map (tr base sp)))
        rw [e1]
        have hat := hH.2.2 r _ (wsO_at hk2)
        refine W.iast C.1.1 C.1.2.1 hat ((C.2.2.2.1.2 0 _ rfl).1 n _) (fun q => by cases q) (by show ¬ (_ ∨ (arrV _ _ _).slots.size ≤ _); rw [arrV_size]; exact in32 hi hp1) rfl rfl hd fun H1 g1 g2 g3 => ?_
        have hH1 : hW D cs base sp (uI w r i.toNat x) H1 := hH.upd hk2 rfl (fun j hj q' => ct_uI hj q') g2 g3 (by
          show H1[base + r]? = some (vp_cell cs.1 (n, .inl (fun j => Int32.ofInt (wI (uI w r i.toNat x) r j))))
          rw [g1]
          show some ((vp_cell cs.1 (n, .inl (fun j => Int32.ofInt (wI w r j)))).setSlot _ _) = _
          rw [vp_cell_i, vp_cell_i, arrV_store, c32 hi]
          congr 2
          funext j
          simp only [updV, wI_uI]
          split <;> rfl)
        exact kk (okW_uI hw hs.h) hl hs.t.t.t hB p e R s m args below meth c Q D cs base sp C H1 _ ls hH1 (hS.put g2 g3 (Nat.le_add_right base r)) hL
      · cases hg
    · cases hg
  · cases hg
theorem so_bastore (hen : en (cod k) pc = some (q0, .bastore, len, x0, a0, b0)) (hl3 : len = 1) (hx : ex E (q0, .bastore, len, x0, a0, b0) pc lv st w = some (ps, t')) (hp : all_ ps) (kk : Rch l E h k w0 nc ns Φ t') : Rch l E h k w0 nc ns Φ (pc, lv, st, w) := by
  have hd := okD hen
  subst hl3
  simp only [ex] at hx
  obtain ⟨⟨ps2, st2, w2⟩, hg, he⟩ := Option.map_eq_some_iff.mp hx
  cases he
  unfold aPut at hg
  split at hg
  · next v i r st1 =>
    split at hg
    · next ty n hk2 =>
      split at hg
      · next ht =>
        subst ht
        split at hg
        all_goals first | (cases hg; done) | skip
        all_goals (rename_i x h9 <;> first | (cases h9; done) | skip)
        cases hg
        have hp1 : 0 ≤ i ∧ i < (n : Int) := hp.1
        intro hw hl hs hB p e R s m args below meth c Q D cs base sp C H locs ls hH hS hL
        have e1 : rv base sp r = .ref (base + r) := rv_lt (lay_lt hH hk2)
        have hi : i32 i := hs.t.h
        show W p l e R s m args below meth c H locs _ _ Q (F0 m pc ls (.int (Int32.ofInt x) :: .int (Int32.ofInt i) :: rv base sp r :: st2.map (tr base sp)))
        rw [e1]
        have hat := hH.2.2 r _ (wsO_at hk2)
        refine W.zast C.1.1 C.1.2.1 hat ((C.2.2.2.1.2 1 _ rfl).1 n _) (fun q => by cases q) (by show ¬ (_ ∨ (arrV _ _ _).slots.size ≤ _); rw [arrV_size]; exact in32 hi hp1) rfl rfl hd fun H1 g1 g2 g3 => ?_
        have hH1 : hW D cs base sp (uI w r i.toNat x) H1 := hH.upd hk2 rfl (fun j hj q' => ct_uI hj q') g2 g3 (by
          show H1[base + r]? = some (vp_cell cs.2.1 (n, .inl (fun j => Int32.ofInt (wI (uI w r i.toNat x) r j))))
          rw [g1]
          show some ((vp_cell cs.2.1 (n, .inl (fun j => Int32.ofInt (wI w r j)))).setSlot _ _) = _
          rw [vp_cell_i, vp_cell_i, arrV_store, c32 hi, (nar_bool hp.2).1]
          congr 2
          funext j
          simp only [updV, wI_uI]
          split <;> rfl)
        exact kk (okW_uI hw hs.h) hl hs.t.t.t hB p e R s m args below meth c Q D cs base sp C H1 _ ls hH1 (hS.put g2 g3 (Nat.le_add_right base r)) hL
      · cases hg
    · cases hg
  · cases hg
theorem so_lastore (hen : en (cod k) pc = some (q0, .lastore, len, x0, a0, b0)) (hl3 : len = 1) (hx : ex E (q0, .lastore, len, x0, a0, b0) pc lv st w = some (ps, t')) (hp : all_ ps) (kk : Rch l E h k w0 nc ns Φ t') : Rch l E h k w0 nc ns Φ (pc, lv, st, w) := by
  have hd := okD hen
  subst hl3
  simp only [ex] at hx
  obtain ⟨⟨ps2, st2, w2⟩, hg, he⟩ := Option.map_eq_some_iff.mp hx
  cases he
  unfold aPut at hg
  split at hg
  · next v i r st1 =>
    split at hg
    · next ty n hk2 =>
      split at hg
      · next ht =>
        subst ht
        split at hg
        all_goals first | (cases hg; done) | skip
        all_goals (rename_i x h9 <;> first | (cases h9; done) | skip)
        cases hg
        have hp1 : 0 ≤ i ∧ i < (n : Int) := hp
        intro hw hl hs hB p e R s m args below meth c Q D cs base sp C H locs ls hH hS hL
        have e1 : rv base sp r = .ref (base + r) := rv_lt (lay_lt hH hk2)
        have hi : i32 i := hs.t.h
        show W p l e R s m args below meth c H locs _ _ Q (F0 m pc ls (.long (Int64.ofInt x) :: .int (Int32.ofInt i) :: rv base sp r :: st2.map (tr base sp)))
        rw [e1]
        have hat := hH.2.2 r _ (wsO_at hk2)
        refine W.last C.1.1 C.1.2.1 hat ((C.2.2.2.1.2 2 _ rfl).1 n _) (fun q => by cases q) (by show ¬ (_ ∨ (arrV _ _ _).slots.size ≤ _); rw [arrV_size]; exact in32 hi hp1) rfl rfl hd fun H1 g1 g2 g3 => ?_
        have hH1 : hW D cs base sp (uL w r i.toNat x) H1 := hH.upd hk2 rfl (fun j hj q' => ct_uL hj q') g2 g3 (by
          show H1[base + r]? = some (vp_cell cs.2.2 (n, .inr (.inl (fun j => Int64.ofInt (wL (uL w r i.toNat x) r j)))))
          rw [g1]
          show some ((vp_cell cs.2.2 (n, .inr (.inl (fun j => Int64.ofInt (wL w r j))))).setSlot _ _) = _
          rw [vp_cell_l, vp_cell_l, arrV_store, c32 hi]
          congr 2
          funext j
          simp only [updV, wL_uL]
          split <;> rfl)
        exact kk (okW_uL hw hs.h) hl hs.t.t.t hB p e R s m args below meth c Q D cs base sp C H1 _ ls hH1 (hS.put g2 g3 (Nat.le_add_right base r)) hL
      · cases hg
    · cases hg
  · cases hg
theorem so_alen (hen : en (cod k) pc = some (q0, .arraylength, len, x0, a0, b0)) (hl3 : len = 1) (hx : ex E (q0, .arraylength, len, x0, a0, b0) pc lv st w = some (ps, t')) (hp : all_ ps) (kk : Rch l E h k w0 nc ns Φ t') : Rch l E h k w0 nc ns Φ (pc, lv, st, w) := by
  have hd := okD hen
  subst hl3
  simp only [ex] at hx
  obtain ⟨⟨ps2, st2⟩, hg, he⟩ := Option.map_eq_some_iff.mp hx
  cases he
  unfold aLen at hg
  split at hg
  · next r st1 =>
    split at hg
    · next ty n hk2 =>
      split at hg
      · next hn =>
        cases hg
        refine rch_step (fun hw _ hs => okS.c (ok_i ⟨by omega, by omega⟩) hs.t) (fun p e R s m args below meth c Q D cs base sp C hw hl hs H locs ls cells slots hc1 hc2 hH hS hL K => ?_) kk
        have e1 : rv base sp r = .ref (base + r) := rv_lt (lay_lt hH hk2)
        show W p l e R s m args below meth c H locs cells slots Q (F0 m pc ls (rv base sp r :: st1.map (tr base sp)))
        rw [e1]
        have e2 : Int32.ofNat n = Int32.ofInt (n : Int) := Int32.ofInt_eq_ofNat.symm
        have hw9 := wsO_at (base := base) (sp := sp) (cs := cs) hk2
        match ty, hw9 with
        | 0, hw9 => exact va_alen (D := D) (cl := classes) C.1.1 C.1.2.1 C.2.2.2.1 hH.2.2 r 0 hw9 rfl e2 hd K
        | 1, hw9 => exact va_alen (D := D) (cl := classes) C.1.1 C.1.2.1 C.2.2.2.1 hH.2.2 r 1 hw9 rfl e2 hd K
        | _ + 2, hw9 => exact va_alen (D := D) (cl := classes) C.1.1 C.1.2.1 C.2.2.2.1 hH.2.2 r 2 hw9 rfl e2 hd K
      · cases hg
    · cases hg
    · next hk2 =>
      split at hg
      · next hr =>
        · cases hg
          have hE : E.1 < 100000 := hp
          refine rch_step (fun hw _ hs => okS.c (ok_i ⟨by omega, by omega⟩) hs.t) (fun p e R s m args below meth c Q D cs base sp C hw hl hs H locs ls cells slots hc1 hc2 hH hS hL K => ?_) kk
          obtain ⟨b, g1, g2, g3, g4⟩ := C.2.2.2.2.2.1.2.2.2.2
          have e1 : rv base sp r = .ref b := by unfold rv; rw [hr]; exact g1
          show W p l e R s m args below meth c H locs cells slots Q (F0 m pc ls (rv base sp r :: st1.map (tr base sp)))
          rw [e1]
          refine va_slen C.1.1 C.1.2.1 g2 g3 g4 hS hd ?_
          rw [show Int32.ofNat E.1 = Int32.ofInt (E.1 : Int) from Int32.ofInt_eq_ofNat.symm]
          exact K
      · split at hg
        · next hr =>
          cases hg
          refine rch_step (fun hw _ hs => okS.c (ok_i (strB_i32 _)) hs.t) (fun p e R s m args below meth c Q D cs base sp C hw hl hs H locs ls cells slots hc1 hc2 hH hS hL K => ?_) kk
          obtain ⟨-, -, -, -, -, ⟨⟨adK, adV, h1, h2, h3⟩, -⟩, -⟩ := id C
          have e1 : rv base sp r = .ref (adV (r - 3000)) := by
            unfold rv
            rw [if_neg (by omega), ← (h1 (r - 3000) (by omega)).2]
            exact congrArg sp (by omega)
          show W p l e R s m args below meth c H locs cells slots Q (F0 m pc ls (rv base sp r :: st1.map (tr base sp)))
          rw [e1]
          refine va_tlen C.1.1 C.1.2.1 (h2.1 (r - 3000) (by omega)).2.2.2 hS (v := Int32.ofInt ((strB.getD (r - 3000) []).length : Int)) (by rw [strB_len]; exact Int32.ofInt_eq_ofNat.symm) hd K
        · cases hg
  · cases hg
theorem so_special (hen : en (cod k) pc = some (q0, .invokespecial i, len, x0, a0, b0)) (hl3 : len = 3) (hx : ex E (q0, .invokespecial i, len, x0, a0, b0) pc lv st w = some (ps, t')) (hp : all_ ps) (kk : Rch l E h k w0 nc ns Φ t') (hh : 1 ≤ h := by omega) : Rch l E h k w0 nc ns Φ (pc, lv, st, w) := by
  have hd := okD hen
  have hok := okK k _ (en_mem hen).1
  subst hl3
  unfold okE at hok
  rw [Bool.and_eq_true] at hok
  have hok := of_decide_eq_true hok.2
  simp only [ex] at hx
  split at hx
  · next ha =>
    subst ha
    have hsp : (own k, i, 990) ∈ spl := by
      rcases hok with hok | hok | hok
      · simp at hok
      · exact absurd hok (mls_no k i 990 (by omega))
      · exact hok
    have hlk := spl_ok _ hsp
    split at hx
    · next r st1 =>
      split at hx
      · next hc =>
        cases hx
        refine rch_step (fun _ _ hs => hs.t) (fun p e R s m args below meth c Q D cs base sp C hw hl hs H locs ls cells slots hc1 hc2 hH hS hL K => ?_) kk
        obtain ⟨a, ha⟩ := rv_ref (base := base) C.2.2.2.2.1 hc.1
        show W p l e R s m args below meth c H locs cells slots Q (F0 m pc ls (rv base sp r :: st1.map (tr base sp)))
        rw [ha]
        have hF := C.2.2.1.1
        have hLo := C.2.2.1.2.1
        have h8 := hc.2
        exact W.objInit C.1.1 C.1.2.1 C.1.2.2.2.1 (C.1.2.2.2.2 _ hlk) (C.1.2.2.2.2 _ obj_inst) (C.1.2.2.2.2 _ obj_code) rfl (by rw [C.1.2.2.1]; exact hL.1) rfl hd (by omega) (by show 2 * 0 + _ + 12 ≤ _; rw [trS_cat C.2.2.2.2.1]; omega) K
      · cases hx
    · cases hx
  · cases hx
theorem so_static (hen : en (cod k) pc = some (q0, .invokestatic i, len, x0, a0, b0)) (hl3 : len = 3) (hx : ex E (q0, .invokestatic i, len, x0, a0, b0) pc lv st w = some (ps, t')) (hp : all_ ps) (kk : Rch l E h k w0 nc ns Φ t') (hh : 1 ≤ h := by omega) : Rch l E h k w0 nc ns Φ (pc, lv, st, w) := by
  have hd := okD hen
  have hok := okK k _ (en_mem hen).1
  subst hl3
  unfold okE at hok
  rw [Bool.and_eq_true] at hok
  have hok := of_decide_eq_true hok.2
  have hsp : (a0 = 991 ∨ a0 = 992) → (own k, i, a0) ∈ spl := by
    intro ha
    rcases hok with hok | hok | hok | hok
    · have hok : a0 = 999 := hok
      omega
    · exact absurd hok (mls_no k i a0 (by omega))
    · exact hok
    · exact absurd hok (nsl_no k i a0 (by omega))
  simp only [ex] at hx
  split at hx
  · next ha =>
    subst ha
    have hlk := spl_ok _ (hsp (Or.inl rfl))
    split at hx
    · next y x st1 =>
      split at hx
      · next hc =>
        cases hx
        refine rch_step (fun _ _ hs => okS.c (show okv (vI (iMax x y)) from iMax_ok hs.t.h hs.h) hs.t.t) (fun p e R s m args below meth c Q D cs base sp C hw hl hs H locs ls cells slots hc1 hc2 hH hS hL K => ?_) kk
        have hF := C.2.2.1
        refine va_mmax C.1.1 C.1.2.1 (by rw [C.1.2.2.1]; exact hL.1.symm) C.1.2.2.2.1 (C.1.2.2.2.2 _ hlk) (C.1.2.2.2.2 _ mx_stat) (C.1.2.2.2.2 _ math_init) (C.1.2.2.2.2 _ mx_code) (by omega) (by rw [trS_cat C.2.2.2.2.1]; omega) (by omega) (by omega) hd ?_
        rw [iMax_t (show i32 x from hs.t.h) (show i32 y from hs.h)]
        exact K
      · cases hx
    · cases hx
  · split at hx
    · next ha =>
      subst ha
      have hlk := spl_ok _ (hsp (Or.inr rfl))
      split at hx
      · next y x st1 =>
        split at hx
        · next hc =>
          cases hx
          refine rch_step (fun _ _ hs => okS.c (show okv (vL (lMax x y)) from lMax_ok hs.t.h hs.h) hs.t.t) (fun p e R s m args below meth c Q D cs base sp C hw hl hs H locs ls cells slots hc1 hc2 hH hS hL K => ?_) kk
          have hF := C.2.2.1
          refine va_mmax_long C.1.1 C.1.2.1 (by rw [C.1.2.2.1]; exact hL.1.symm) C.1.2.2.2.1 (C.1.2.2.2.2 _ hlk) (C.1.2.2.2.2 _ mxl__stat) (C.1.2.2.2.2 _ math_init) (C.1.2.2.2.2 _ mxl__code) (by omega) (by rw [trS_cat C.2.2.2.2.1]; omega) (by omega) (by omega) hd ?_
          rw [lMax_t (show i64 x from hs.t.h) (show i64 y from hs.h)]
          exact K
        · cases hx
      · cases hx
    · cases hx
end SH
end
section
section SO
variable {l : Launch} {E : AX} {h k : Nat} {w0 : AW} {nc ns : Nat} {Φ : Option AV → AW → Prop} {pc pc' : Nat} {lv lv' : List (Option AV)} {st st' : List AV} {w w' : AW}
theorem rch_ex {q : AE} {ps : List Prop} {t' : AS} (hh : 1 ≤ h) (hen : en (cod k) pc = some q) (hlen : q.2.2.1 = il q.2.1) (hx : ex E q pc lv st w = some (ps, t')) (hp : all_ ps) (kk : Rch l E h k w0 nc ns Φ t') : Rch l E h k w0 nc ns Φ (pc, lv, st, w) := by
  have hd := okD hen
  have hok := okK k q (en_mem hen).1
  obtain ⟨q0, ins, len, x0, a0, b0⟩ := q
  dsimp only at hlen hd
  subst hlen
  unfold okE at hok
  rw [Bool.and_eq_true] at hok
  have hok := hok.2
  cases ins with
  | iconst n =>
    simp only [ex] at hx
    split at hx
    · next hr =>
      cases hx
      simp only [rg, Bool.and_eq_true, decide_eq_true_eq] at hr
      exact rch_step (fun _ _ hs => okS.c (show okv (vI n) from (⟨by omega, by omega⟩ : i32 n)) hs) (fun p e R s m args below meth c Q D cs base sp C hw hl hs H locs ls cells slots hc1 hc2 hH hS hL K => lv_iconst C.1.1 C.1.2.1 hd rfl K) kk
    · cases hx
  | bipush n =>
    simp only [ex] at hx
    split at hx
    · next hr =>
      cases hx
      simp only [rg, Bool.and_eq_true, decide_eq_true_eq] at hr
      exact rch_step (fun _ _ hs => okS.c (show okv (vI n) from (⟨by omega, by omega⟩ : i32 n)) hs) (fun p e R s m args below meth c Q D cs base sp C hw hl hs H locs ls cells slots hc1 hc2 hH hS hL K => lv_bipush C.1.1 C.1.2.1 hd (by8 hr.1 hr.2) K) kk
    · cases hx
  | sipush n =>
    simp only [ex] at hx
    split at hx
    · next hr =>
      cases hx
      simp only [rg, Bool.and_eq_true, decide_eq_true_eq] at hr
      exact rch_step (fun _ _ hs => okS.c (show okv (vI n) from (⟨by omega, by omega⟩ : i32 n)) hs) (fun p e R s m args below meth c Q D cs base sp C hw hl hs H locs ls cells slots hc1 hc2 hH hS hL K => lv_sipush C.1.1 C.1.2.1 hd (by16 hr.1 hr.2) K) kk
    · cases hx
  | lconst n =>
    simp only [ex] at hx
    cases hx
    exact rch_step (fun _ _ hs => okS.c (show okv (vL ((n : Nat) : Int)) from (⟨by omega, by omega⟩ : i64 ((n : Nat) : Int))) hs) (fun p e R s m args below meth c Q D cs base sp C hw hl hs H locs ls cells slots hc1 hc2 hH hS hL K => lv_lconst C.1.1 C.1.2.1 hd (Int64.ofInt_eq_ofNat.symm) K) kk
  | ldc i =>
    simp only [ex] at hx
    split at hx
    · next ha =>
      split at hx
      · next hr =>
        cases hx
        simp only [rg, Bool.and_eq_true, decide_eq_true_eq] at hr
        simp only [ha, if_true] at hok
        have hc := cis_ok _ (of_decide_eq_true hok)
        exact rch_step (fun _ _ hs => okS.c (show okv (vI x0) from hr) hs) (fun p e R s m args below meth c Q D cs base sp C hw hl hs H locs ls cells slots hc1 hc2 hH hS hL K => lv_ldc C.1.1 C.1.2.1 C.1.2.2.2.1 (C.1.2.2.2.2 _ hc) hd K) kk
      · cases hx
    · next ha =>
      split at hx
      · next hr =>
        cases hx
        simp only [ha, if_false] at hok
        have hc := of_decide_eq_true hok
        refine rch_step (fun _ _ hs => okS.c (v := vR (2000 + b0)) trivial hs) (fun p e R s m args below meth c Q D cs base sp C hw hl hs H locs ls cells slots hc1 hc2 hH hS hL K => ?_) kk
        obtain ⟨-, -, -, -, -, ⟨⟨adK, adV, h1, h2, h3⟩, -⟩, -⟩ := id C
        obtain ⟨ho, hi⟩ := srs_at hc
        have e2 : tr base sp (vR (2000 + b0)) = .ref (adK b0) := by
          show rv base sp (2000 + b0) = _
          unfold rv
          rw [if_neg (by omega)]; exact (h1 b0 hr).1
        refine va_ldcS C.1.1 C.1.2.1 (q := adK b0) (own := RX2) (index := i) (tx := (strN.getD b0 (0, "")).2) (by have := C.1.2.2.2.1; rw [ho] at this; exact this) (by rw [hi]; exact h3 b0 hr) hd ?_
        rw [← e2]; exact K
      · cases hx
  | ldc_w i =>
    simp only [ex] at hx
    split at hx
    · next hr =>
      cases hx
      simp only [rg, Bool.and_eq_true, decide_eq_true_eq] at hr
      have hc := cis_ok _ (of_decide_eq_true hok).2
      exact rch_step (fun _ _ hs => okS.c (show okv (vI x0) from hr) hs) (fun p e R s m args below meth c Q D cs base sp C hw hl hs H locs ls cells slots hc1 hc2 hH hS hL K => lv_ldcw C.1.1 C.1.2.1 C.1.2.2.2.1 (C.1.2.2.2.2 _ hc) hd K) kk
    · cases hx
  | ldc2_w i =>
    simp only [ex] at hx
    split at hx
    · next hr =>
      cases hx
      simp only [rg, Bool.and_eq_true, decide_eq_true_eq] at hr
      have hc := cll_ok _ (of_decide_eq_true hok)
      exact rch_step (fun _ _ hs => okS.c (show okv (vL x0) from hr) hs) (fun p e R s m args below meth c Q D cs base sp C hw hl hs H locs ls cells slots hc1 hc2 hH hS hL K => lv_ldc2 C.1.1 C.1.2.1 C.1.2.2.2.1 (C.1.2.2.2.2 _ hc) hd K) kk
    · cases hx
  | iload i =>
    simp only [ex] at hx
    obtain ⟨v, hv, he⟩ := Option.map_eq_some_iff.mp hx
    cases he
    have hv := lInt_at hv
    exact rch_step (fun _ hl hs => okS.c (hl.at hv) hs) (fun p e R s m args below meth c Q D cs base sp C hw hl hs H locs ls cells slots hc1 hc2 hH hS hL K => lv_iload C.1.1 C.1.2.1 hd (hL.2.2.2 _ _ hv) K) kk
  | iload_n i =>
    simp only [ex] at hx
    obtain ⟨v, hv, he⟩ := Option.map_eq_some_iff.mp hx
    cases he
    have hv := lInt_at hv
    exact rch_step (fun _ hl hs => okS.c (hl.at hv) hs) (fun p e R s m args below meth c Q D cs base sp C hw hl hs H locs ls cells slots hc1 hc2 hH hS hL K => lv_iload_n C.1.1 C.1.2.1 hd rfl (hL.2.2.2 _ _ hv) K) kk
  | lload i =>
    simp only [ex] at hx
    obtain ⟨v, hv, he⟩ := Option.map_eq_some_iff.mp hx
    cases he
    have hv := lLng_at hv
    exact rch_step (fun _ hl hs => okS.c (hl.at hv) hs) (fun p e R s m args below meth c Q D cs base sp C hw hl hs H locs ls cells slots hc1 hc2 hH hS hL K => lv_lload C.1.1 C.1.2.1 hd (hL.2.2.2 _ _ hv) K) kk
  | lload_n i =>
    simp only [ex] at hx
    obtain ⟨v, hv, he⟩ := Option.map_eq_some_iff.mp hx
    cases he
    have hv := lLng_at hv
    exact rch_step (fun _ hl hs => okS.c (hl.at hv) hs) (fun p e R s m args below meth c Q D cs base sp C hw hl hs H locs ls cells slots hc1 hc2 hH hS hL K => lv_lload_n C.1.1 C.1.2.1 hd rfl (hL.2.2.2 _ _ hv) K) kk
  | aload i =>
    simp only [ex] at hx
    obtain ⟨v, hv, he⟩ := Option.map_eq_some_iff.mp hx
    cases he
    obtain ⟨hv, h5⟩ := lRef_at hv
    refine rch_step (fun _ hl hs => okS.c (v := vR v) trivial hs) (fun p e R s m args below meth c Q D cs base sp C hw hl hs H locs ls cells slots hc1 hc2 hH hS hL K => ?_) kk
    obtain ⟨a, ha⟩ := rv_ref (base := base) C.2.2.2.2.1 h5
    have hz := hL.2.2.2 _ _ hv
    rw [show tr base sp (vR v) = .ref a from ha] at hz
    refine lv_aload C.1.1 C.1.2.1 hd hz ?_
    rw [← ha]; exact K
  | aload_n i =>
    simp only [ex] at hx
    obtain ⟨v, hv, he⟩ := Option.map_eq_some_iff.mp hx
    cases he
    obtain ⟨hv, h5⟩ := lRef_at hv
    refine rch_step (fun _ hl hs => okS.c (v := vR v) trivial hs) (fun p e R s m args below meth c Q D cs base sp C hw hl hs H locs ls cells slots hc1 hc2 hH hS hL K => ?_) kk
    obtain ⟨a, ha⟩ := rv_ref (base := base) C.2.2.2.2.1 h5
    have hz := hL.2.2.2 _ _ hv
    rw [show tr base sp (vR v) = .ref a from ha] at hz
    refine lv_aload_n C.1.1 C.1.2.1 hd rfl hz ?_
    rw [← ha]; exact K
  | istore i =>
    simp only [ex] at hx
    split at hx
    · next v st1 =>
      split at hx
      · next hnl =>
        cases hx
        intro hw hl hs hB p e R s m args below meth c Q D cs base sp C H locs ls hH hS hL
        rw [hL.2.2.1] at hnl
        exact lv_istore C.1.1 C.1.2.1 hd hL.has hnl rfl (fun ls2 h2 => kk hw (okL_s1 hl _ (show okv _ from hs.h)) hs.t hB p e R s m args below meth c Q D cs base sp C H locs ls2 hH hS (hasL_s1 C.2.2.2.2.1 hL.2.2.1 h2))
      · cases hx
    · cases hx
  | istore_n i =>
    simp only [ex] at hx
    split at hx
    · next v st1 =>
      split at hx
      · next hnl =>
        cases hx
        intro hw hl hs hB p e R s m args below meth c Q D cs base sp C H locs ls hH hS hL
        rw [hL.2.2.1] at hnl
        exact lv_istore_n C.1.1 C.1.2.1 hd rfl hL.has hnl rfl (fun ls2 h2 => kk hw (okL_s1 hl _ (show okv _ from hs.h)) hs.t hB p e R s m args below meth c Q D cs base sp C H locs ls2 hH hS (hasL_s1 C.2.2.2.2.1 hL.2.2.1 h2))
      · cases hx
    · cases hx
  | lstore i =>
    simp only [ex] at hx
    split at hx
    · next v st1 =>
      split at hx
      · next hnl =>
        cases hx
        intro hw hl hs hB p e R s m args below meth c Q D cs base sp C H locs ls hH hS hL
        rw [hL.2.2.1] at hnl
        exact lv_lstore C.1.1 C.1.2.1 hd hL.has hnl rfl (fun ls2 h2 => kk hw (okL_s2 hl _ (show okv _ from hs.h)) hs.t hB p e R s m args below meth c Q D cs base sp C H locs ls2 hH hS (hasL_s2 C.2.2.2.2.1 hL.2.2.1 h2))
      · cases hx
    · cases hx
  | lstore_n i =>
    simp only [ex] at hx
    split at hx
    · next v st1 =>
      split at hx
      · next hnl =>
        cases hx
        intro hw hl hs hB p e R s m args below meth c Q D cs base sp C H locs ls hH hS hL
        rw [hL.2.2.1] at hnl
        exact lv_lstore_n C.1.1 C.1.2.1 hd rfl hL.has hnl rfl (fun ls2 h2 => kk hw (okL_s2 hl _ (show okv _ from hs.h)) hs.t hB p e R s m args below meth c Q D cs base sp C H locs ls2 hH hS (hasL_s2 C.2.2.2.2.1 hL.2.2.1 h2))
      · cases hx
    · cases hx
  | astore i =>
    simp only [ex] at hx
    split at hx
    · next v st1 =>
      split at hx
      · next h5 =>
        cases hx
        intro hw hl hs hB p e R s m args below meth c Q D cs base sp C H locs ls hH hS hL
        have hnl := h5.2
        rw [hL.2.2.1] at hnl
        obtain ⟨a, ha⟩ := rv_ref (base := base) C.2.2.2.2.1 h5.1
        show W p l e R s m args below meth c H locs _ _ Q (F0 m pc ls (rv base sp v :: st1.map (tr base sp)))
        rw [ha]
        exact lv_astore C.1.1 C.1.2.1 hd hL.has hnl rfl (fun ls2 h2 => kk hw (okL_s1 hl _ trivial) hs.t hB p e R s m args below meth c Q D cs base sp C H locs ls2 hH hS (hasL_s1 C.2.2.2.2.1 hL.2.2.1 (by rw [show tr base sp (vR v) = .ref a from ha]; exact h2)))
      · cases hx
    · cases hx
  | astore_n i =>
    simp only [ex] at hx
    split at hx
    · next v st1 =>
      split at hx
      · next h5 =>
        cases hx
        intro hw hl hs hB p e R s m args below meth c Q D cs base sp C H locs ls hH hS hL
        have hnl := h5.2
        rw [hL.2.2.1] at hnl
        obtain ⟨a, ha⟩ := rv_ref (base := base) C.2.2.2.2.1 h5.1
        show W p l e R s m args below meth c H locs _ _ Q (F0 m pc ls (rv base sp v :: st1.map (tr base sp)))
        rw [ha]
        exact lv_astore_n C.1.1 C.1.2.1 hd rfl hL.has hnl rfl (fun ls2 h2 => kk hw (okL_s1 hl _ trivial) hs.t hB p e R s m args below meth c Q D cs base sp C H locs ls2 hH hS (hasL_s1 C.2.2.2.2.1 hL.2.2.1 (by rw [show tr base sp (vR v) = .ref a from ha]; exact h2)))
      · cases hx
    · cases hx
  | iinc i n =>
    simp only [ex] at hx
    obtain ⟨v, hv, he⟩ := Option.map_eq_some_iff.mp hx
    cases he
    have hv := lInt_at hv
    intro hw hl hs hB p e R s m args below meth c Q D cs base sp C H locs ls hH hS hL
    have hnl : (i : Nat) < mxl k := by rw [← hL.2.2.1]; exact (List.getElem?_eq_some_iff.mp hv).1
    obtain ⟨kk0, hkk0⟩ := List.getElem?_of_mem (mem_tlv (base := base) (sp := sp) hv)
    exact lv_iinc (v := Int32.ofInt (v + n)) C.1.1 C.1.2.1 hd hL.has hkk0 (by rw [Int32.ofInt_add]) hnl rfl (fun ls2 h2 => kk hw (okL_s1 hl _ (show okv (vI (v + n)) from hp)) hs hB p e R s m args below meth c Q D cs base sp C H locs ls2 hH hS (hasL_s1 C.2.2.2.2.1 hL.2.2.1 h2))
  | iadd =>
    simp only [ex] at hx
    split at hx
    · next y x st1 =>
      split at hx
      · cases hx
        exact rch_step (fun _ _ hs => okS.c (show okv (vI (x + y)) from hp) hs.t.t) (fun p e R s m args below meth c Q D cs base sp C hw hl hs H locs ls cells slots hc1 hc2 hH hS hL K => lv_iadd C.1.1 C.1.2.1 hd (by rw [← Int32.ofInt_add]; exact K)) kk
      · cases hx
        exact rch_step (fun _ _ hs => okS.c (show okv (vI (w32 (x + y))) from i32_w _) hs.t.t) (fun p e R s m args below meth c Q D cs base sp C hw hl hs H locs ls cells slots hc1 hc2 hH hS hL K => lv_iadd C.1.1 C.1.2.1 hd (by rw [← Int32.ofInt_add, ← w32_of]; exact K)) kk
    · cases hx
  | isub =>
    simp only [ex] at hx
    split at hx
    · next y x st1 =>
      split at hx
      · cases hx
        exact rch_step (fun _ _ hs => okS.c (show okv (vI (x - y)) from hp) hs.t.t) (fun p e R s m args below meth c Q D cs base sp C hw hl hs H locs ls cells slots hc1 hc2 hH hS hL K => lv_isub C.1.1 C.1.2.1 hd (by rw [← Int32.ofInt_sub]; exact K)) kk
      · cases hx
        exact rch_step (fun _ _ hs => okS.c (show okv (vI (w32 (x - y))) from i32_w _) hs.t.t) (fun p e R s m args below meth c Q D cs base sp C hw hl hs H locs ls cells slots hc1 hc2 hH hS hL K => lv_isub C.1.1 C.1.2.1 hd (by rw [← Int32.ofInt_sub, ← w32_of]; exact K)) kk
    · cases hx
  | imul =>
    simp only [ex] at hx
    split at hx
    · next y x st1 =>
      split at hx
      · cases hx
        exact rch_step (fun _ _ hs => okS.c (show okv (vI (x * y)) from hp) hs.t.t) (fun p e R s m args below meth c Q D cs base sp C hw hl hs H locs ls cells slots hc1 hc2 hH hS hL K => lv_imul C.1.1 C.1.2.1 hd (by rw [← Int32.ofInt_mul]; exact K)) kk
      · cases hx
        exact rch_step (fun _ _ hs => okS.c (show okv (vI (w32 (x * y))) from i32_w _) hs.t.t) (fun p e R s m args below meth c Q D cs base sp C hw hl hs H locs ls cells slots hc1 hc2 hH hS hL K => lv_imul C.1.1 C.1.2.1 hd (by rw [← Int32.ofInt_mul, ← w32_of]; exact K)) kk
    · cases hx
  | ineg =>
    simp only [ex] at hx
    split at hx
    · next x st1 =>
      cases hx
      exact rch_step (fun _ _ hs => okS.c (show okv (vI (-x)) from hp) hs.t) (fun p e R s m args below meth c Q D cs base sp C hw hl hs H locs ls cells slots hc1 hc2 hH hS hL K => lv_ineg C.1.1 C.1.2.1 hd (by rw [← Int32.ofInt_neg]; exact K)) kk
    · cases hx
  | iand =>
    simp only [ex] at hx
    split at hx
    · next y x st1 =>
      cases hx
      exact rch_step (fun _ _ hs => okS.c (show okv (vI (bAnd x y)) from i32_of _) hs.t.t) (fun p e R s m args below meth c Q D cs base sp C hw hl hs H locs ls cells slots hc1 hc2 hH hS hL K => lv_iand C.1.1 C.1.2.1 hd (by have e9 : Int32.ofInt (bAnd x y) = Int32.ofInt x &&& Int32.ofInt y := Int32.ofInt_toInt _; rw [← e9]; exact K)) kk
    · cases hx
  | ior =>
    simp only [ex] at hx
    split at hx
    · next y x st1 =>
      cases hx
      exact rch_step (fun _ _ hs => okS.c (show okv (vI (bOr x y)) from i32_of _) hs.t.t) (fun p e R s m args below meth c Q D cs base sp C hw hl hs H locs ls cells slots hc1 hc2 hH hS hL K => lv_ior C.1.1 C.1.2.1 hd (by have e9 : Int32.ofInt (bOr x y) = Int32.ofInt x ||| Int32.ofInt y := Int32.ofInt_toInt _; rw [← e9]; exact K)) kk
    · cases hx
  | ixor =>
    simp only [ex] at hx
    split at hx
    · next y x st1 =>
      cases hx
      exact rch_step (fun _ _ hs => okS.c (show okv (vI (bXor x y)) from i32_of _) hs.t.t) (fun p e R s m args below meth c Q D cs base sp C hw hl hs H locs ls cells slots hc1 hc2 hH hS hL K => lv_ixor C.1.1 C.1.2.1 hd (by have e9 : Int32.ofInt (bXor x y) = Int32.ofInt x ^^^ Int32.ofInt y := Int32.ofInt_toInt _; rw [← e9]; exact K)) kk
    · cases hx
  | ishl =>
    simp only [ex] at hx
    split at hx
    · next y x st1 =>
      cases hx
      exact rch_step (fun _ _ hs => okS.c (show okv (vI (bShl x y)) from i32_of _) hs.t.t) (fun p e R s m args below meth c Q D cs base sp C hw hl hs H locs ls cells slots hc1 hc2 hH hS hL K => lv_ishl C.1.1 C.1.2.1 hd (by have e9 : Int32.ofInt (bShl x y) = Int32.ofInt x <<< (Int32.ofInt y &&& 31) := Int32.ofInt_toInt _; rw [← e9]; exact K)) kk
    · cases hx
  | ishr =>
    simp only [ex] at hx
    split at hx
    · next y x st1 =>
      cases hx
      exact rch_step (fun _ _ hs => okS.c (show okv (vI (bShr x y)) from i32_of _) hs.t.t) (fun p e R s m args below meth c Q D cs base sp C hw hl hs H locs ls cells slots hc1 hc2 hH hS hL K => lv_ishr C.1.1 C.1.2.1 hd (by have e9 : Int32.ofInt (bShr x y) = Int32.ofInt x >>> (Int32.ofInt y &&& 31) := Int32.ofInt_toInt _; rw [← e9]; exact K)) kk
    · cases hx
  | iushr =>
    simp only [ex] at hx
    split at hx
    · next y x st1 =>
      cases hx
      exact rch_step (fun _ _ hs => okS.c (show okv (vI (bUshr x y)) from i32_of _) hs.t.t) (fun p e R s m args below meth c Q D cs base sp C hw hl hs H locs ls cells slots hc1 hc2 hH hS hL K => lv_iushr (v := Int32.ofInt (bUshr x y)) C.1.1 C.1.2.1 hd (Int32.ofInt_toInt _).symm K) kk
    · cases hx
  | ladd =>
    simp only [ex] at hx
    split at hx
    · next y x st1 =>
      cases hx
      exact rch_step (fun _ _ hs => okS.c (show okv (vL (x + y)) from hp) hs.t.t) (fun p e R s m args below meth c Q D cs base sp C hw hl hs H locs ls cells slots hc1 hc2 hH hS hL K => lv_ladd C.1.1 C.1.2.1 hd (by rw [← Int64.ofInt_add]; exact K)) kk
    · cases hx
  | lsub =>
    simp only [ex] at hx
    split at hx
    · next y x st1 =>
      cases hx
      exact rch_step (fun _ _ hs => okS.c (show okv (vL (x - y)) from hp) hs.t.t) (fun p e R s m args below meth c Q D cs base sp C hw hl hs H locs ls cells slots hc1 hc2 hH hS hL K => lv_lsub C.1.1 C.1.2.1 hd (by rw [← Int64.ofInt_sub]; exact K)) kk
    · cases hx
  | lmul =>
    simp only [ex] at hx
    split at hx
    · next y x st1 =>
      cases hx
      exact rch_step (fun _ _ hs => okS.c (show okv (vL (x * y)) from hp) hs.t.t) (fun p e R s m args below meth c Q D cs base sp C hw hl hs H locs ls cells slots hc1 hc2 hH hS hL K => lv_lmul C.1.1 C.1.2.1 hd (by rw [← Int64.ofInt_mul]; exact K)) kk
    · cases hx
  | land =>
    simp only [ex] at hx
    split at hx
    · next y x st1 =>
      cases hx
      exact rch_step (fun _ _ hs => okS.c (show okv (vL (lAnd x y)) from i64_of _) hs.t.t) (fun p e R s m args below meth c Q D cs base sp C hw hl hs H locs ls cells slots hc1 hc2 hH hS hL K => lv_land C.1.1 C.1.2.1 hd (by have e9 : Int64.ofInt (lAnd x y) = Int64.ofInt x &&& Int64.ofInt y := Int64.ofInt_toInt _; rw [← e9]; exact K)) kk
    · cases hx
  | lor =>
    simp only [ex] at hx
    split at hx
    · next y x st1 =>
      cases hx
      exact rch_step (fun _ _ hs => okS.c (show okv (vL (lOr x y)) from i64_of _) hs.t.t) (fun p e R s m args below meth c Q D cs base sp C hw hl hs H locs ls cells slots hc1 hc2 hH hS hL K => lv_lor C.1.1 C.1.2.1 hd (by have e9 : Int64.ofInt (lOr x y) = Int64.ofInt x ||| Int64.ofInt y := Int64.ofInt_toInt _; rw [← e9]; exact K)) kk
    · cases hx
  | lxor =>
    simp only [ex] at hx
    split at hx
    · next y x st1 =>
      cases hx
      exact rch_step (fun _ _ hs => okS.c (show okv (vL (lXor x y)) from i64_of _) hs.t.t) (fun p e R s m args below meth c Q D cs base sp C hw hl hs H locs ls cells slots hc1 hc2 hH hS hL K => lv_lxor C.1.1 C.1.2.1 hd (by have e9 : Int64.ofInt (lXor x y) = Int64.ofInt x ^^^ Int64.ofInt y := Int64.ofInt_toInt _; rw [← e9]; exact K)) kk
    · cases hx
  | lshl =>
    simp only [ex] at hx
    split at hx
    · next y x st1 =>
      cases hx
      exact rch_step (fun _ _ hs => okS.c (show okv (vL (lShl x y)) from i64_of _) hs.t.t) (fun p e R s m args below meth c Q D cs base sp C hw hl hs H locs ls cells slots hc1 hc2 hH hS hL K => lv_lshl (v := Int64.ofInt (lShl x y)) C.1.1 C.1.2.1 hd (Int64.ofInt_toInt _).symm K) kk
    · cases hx
  | lshr =>
    simp only [ex] at hx
    split at hx
    · next y x st1 =>
      cases hx
      exact rch_step (fun _ _ hs => okS.c (show okv (vL (lShr x y)) from i64_of _) hs.t.t) (fun p e R s m args below meth c Q D cs base sp C hw hl hs H locs ls cells slots hc1 hc2 hH hS hL K => lv_lshr (v := Int64.ofInt (lShr x y)) C.1.1 C.1.2.1 hd (Int64.ofInt_toInt _).symm K) kk
    · cases hx
  | lushr =>
    simp only [ex] at hx
    split at hx
    · next y x st1 =>
      cases hx
      exact rch_step (fun _ _ hs => okS.c (show okv (vL (lUshr x y)) from i64_of _) hs.t.t) (fun p e R s m args below meth c Q D cs base sp C hw hl hs H locs ls cells slots hc1 hc2 hH hS hL K => lv_lushr (v := Int64.ofInt (lUshr x y)) C.1.1 C.1.2.1 hd (Int64.ofInt_toInt _).symm K) kk
    · cases hx
  | lcmp =>
    simp only [ex] at hx
    split at hx
    · next y x st1 =>
      cases hx
      exact rch_step (fun _ _ hs => okS.c (show okv (vI (lCmp x y)) from lCmp_i x y) hs.t.t) (fun p e R s m args below meth c Q D cs base sp C hw hl hs H locs ls cells slots hc1 hc2 hH hS hL K => W.lcmp C.1.1 C.1.2.1 hd (by rw [lcm_t (show i64 x from hs.t.h) (show i64 y from hs.h)]; exact K)) kk
    · cases hx
  | i2l =>
    simp only [ex] at hx
    split at hx
    · next x st1 =>
      cases hx
      exact rch_step (fun _ _ hs => okS.c (show okv (vL x) from i64_i hs.h) hs.t) (fun p e R s m args below meth c Q D cs base sp C hw hl hs H locs ls cells slots hc1 hc2 hH hS hL K => lv_i2l C.1.1 C.1.2.1 hd (i2l_t (show i32 x from hs.h)) K) kk
    · cases hx
  | l2i =>
    simp only [ex] at hx
    split at hx
    · next x st1 =>
      cases hx
      exact rch_step (fun _ _ hs => okS.c (show okv (vI (w32 x)) from i32_w x) hs.t) (fun p e R s m args below meth c Q D cs base sp C hw hl hs H locs ls cells slots hc1 hc2 hH hS hL K => lv_l2i (v := Int32.ofInt (w32 x)) C.1.1 C.1.2.1 hd (by rw [w32_of, Int64.toInt32_ofInt]) K) kk
    · cases hx
  | i2c =>
    simp only [ex] at hx
    split at hx
    · next x st1 =>
      cases hx
      exact rch_step (fun _ _ hs => okS.c (show okv (vI (c16 x)) from i32_of _) hs.t) (fun p e R s m args below meth c Q D cs base sp C hw hl hs H locs ls cells slots hc1 hc2 hH hS hL K => lv_i2c (v := Int32.ofInt (c16 x)) C.1.1 C.1.2.1 hd (Int32.ofInt_toInt _).symm K) kk
    · cases hx
  | dup =>
    simp only [ex] at hx
    split at hx
    · next v st1 =>
      split at hx
      · next hc =>
        cases hx
        exact rch_step (fun _ _ hs => okS.c hs.h hs) (fun p e R s m args below meth c Q D cs base sp C hw hl hs H locs ls cells slots hc1 hc2 hH hS hL K => lv_dup C.1.1 C.1.2.1 hd (by rw [tr_cat C.2.2.2.2.1]; exact hc) K) kk
      · cases hx
    · cases hx
  | dup2 =>
    simp only [ex] at hx
    split at hx
    · next v u st1 =>
      split at hx
      · next hc =>
        cases hx
        exact rch_step (fun _ _ hs => okS.c hs.h (okS.c hs.t.h hs)) (fun p e R s m args below meth c Q D cs base sp C hw hl hs H locs ls cells slots hc1 hc2 hH hS hL K => lv_dup2_11 C.1.1 C.1.2.1 hd (by rw [tr_cat C.2.2.2.2.1]; exact hc.1) (by rw [tr_cat C.2.2.2.2.1]; exact hc.2) K) kk
      · cases hx
    · cases hx
  | pop =>
    simp only [ex] at hx
    split at hx
    · next v st1 =>
      split at hx
      · next hc =>
        cases hx
        exact rch_step (fun _ _ hs => hs.t) (fun p e R s m args below meth c Q D cs base sp C hw hl hs H locs ls cells slots hc1 hc2 hH hS hL K => lv_pop C.1.1 C.1.2.1 hd (by rw [tr_cat C.2.2.2.2.1]; exact hc) K) kk
      · cases hx
    · cases hx
  | goto off =>
    simp only [ex] at hx
    split at hx
    · next hg =>
      cases hx
      exact rch_step (fun _ _ hs => hs) (fun p e R s m args below meth c Q D cs base sp C hw hl hs H locs ls cells slots hc1 hc2 hH hS hL K => lv_goto C.1.1 C.1.2.1 hd (by unfold tgt; omega) K) kk
    · cases hx
  | getfield i =>
    exact so_getfield hen rfl hx hp kk
  | getstatic i =>
    exact so_getstatic hen rfl hx hp kk
  | putfield i =>
    exact so_putfield hen rfl hx hp kk
  | iaload =>
    exact so_iaload hen rfl hx hp kk
  | baload =>
    exact so_baload hen rfl hx hp kk
  | laload =>
    exact so_laload hen rfl hx hp kk
  | iastore =>
    exact so_iastore hen rfl hx hp kk
  | bastore =>
    exact so_bastore hen rfl hx hp kk
  | lastore =>
    exact so_lastore hen rfl hx hp kk
  | arraylength =>
    exact so_alen hen rfl hx hp kk
  | invokespecial i =>
    exact so_special hen rfl hx hp kk hh
  | invokestatic i =>
    exact so_static hen rfl hx hp kk hh
  | _ => simp only [ex] at hx; cases hx
end SO
end
section
-- RULES: runs, branches, calls, ends, new cells
/-- a method's contract: from this world and these arguments it comes back with Φ -/
def Con (l : Launch) (E : AX) (h k : Nat) (args : List AV) (w : AW) (nc ns : Nat) (Φ : Option AV → AW → Prop) : Prop := okW w → okS args → ∀ (D : va_G) (cs : ClassId × ClassId × ClassId) (base : Nat) (sp : Nat → Value), okSp sp →
  Met l (ynm k) (Jvm.Cond.code (ynm k) (byt k) (mxl k) (rty k) :: tb) { frames := h, cells := nc, slots := ns, locals := 64 * h } (va_Pc (args.map (tr base sp)) (fun U => hW D cs base sp w U.heap ∧ va_K D classes (tysO cs) U ∧ Sx E base sp U U.heap ∧ base ≤ U.heap.size))
    (fun _ st o t => (∃ (rt : Option AV) (wf : AW), Φ rt wf ∧ cN wf = cN w + nc ∧ sN wf = sN w + ns ∧ okW wf ∧ (∀ v ∈ rt, okv v) ∧ o = .returned (rt.map (tr base sp)) ∧ hW D cs base sp wf t.heap) ∧ va_F (fun q => base ≤ q) st t) nc ns (fun q => base ≤ q)
theorem all_app : ∀ (ps qs : List Prop), all_ (ps ++ qs) → all_ ps ∧ all_ qs
  | [], qs, h => ⟨trivial, h⟩
  | [p], [], h => ⟨h, trivial⟩
  | [p], q :: qs, h => ⟨h.1, h.2⟩
  | p :: p2 :: ps, qs, h => ⟨⟨h.1, (all_app (p2 :: ps) qs h.2).1⟩, (all_app (p2 :: ps) qs h.2).2⟩
/-- what a method's row says -/
theorem mwK {k : Nat} (h : k < 174) : Jvm.Cond.initialized (ynm k).cls ∈ tb ∧ (if knd k = 0 then Jvm.Cond.static (ynm k) else Jvm.Cond.instanceMethod (ynm k)) ∈ tb ∧ (knd k = 1 → Jvm.Cond.selects (ynm k).cls (ynm k) (ynm k) ∈ tb) ∧ ((ynm k).cls ≠ "java/lang/invoke/MethodHandle" ∧ (ynm k).cls ≠ "java/lang/invoke/VarHandle" ∧ (parseMethodDescriptor (ynm k).desc).map (fun d => d.parameters.length) = some (nar k)) ∧ plainName (ynm k).cls = true ∧ rn_ (own k) = (ynm k).cls ∧ (knd k = 2 → (ynm k).name = "<init>") ∧ mxl k + 19 ≤ 64 := by
  have h1 := mw k h
  unfold mwB at h1
  simp only [Bool.and_eq_true, decide_eq_true_eq, Bool.or_eq_true, bne_iff_ne, ne_eq] at h1
  obtain ⟨⟨⟨⟨⟨⟨⟨g1, g2⟩, g3⟩, g4⟩, g5⟩, g6⟩, g7⟩, g8⟩ := h1
  refine ⟨tb_in (List.mem_of_getElem? g1) rfl, tb_in (List.mem_of_getElem? g2) (by split <;> rfl), fun hk => tb_in (List.mem_of_getElem? (g3.resolve_left (fun q => q hk))) rfl, g4, g5, g6, fun hk => g7.resolve_left (fun q => q hk), g8⟩
section RU
variable {l : Launch} {E : AX} {h k : Nat} {w0 : AW} {nc ns : Nat} {Φ : Option AV → AW → Prop} {pc : Nat} {lv : List (Option AV)} {st : List AV} {w : AW} {cs : List AE}
theorem rch_run (hk : cod k = cs) (hh : 1 ≤ h) : ∀ (n : Nat) {t t' : AS} {ps : List Prop}, rn E cs n t = some (ps, t') → all_ ps → Rch l E h k w0 nc ns Φ t' → Rch l E h k w0 nc ns Φ t
  | 0, t, t', ps, hr, hp, kk => by
    unfold rn at hr
    cases hr
    exact kk
  | n + 1, t, t', ps, hr, hp, kk => by
    unfold rn at hr
    split at hr
    · cases hr
    · next ps1 t1 hn =>
      split at hr
      · cases hr
      · next qs t2 hr2 =>
        cases hr
        obtain ⟨hp1, hp2⟩ := all_app _ _ hp
        have k1 := rch_run hk hh n hr2 hp2 kk
        unfold nx at hn
        split at hn
        · cases hn
        · next e hen =>
          split at hn
          · next hl =>
            obtain ⟨pc, lv, st, w⟩ := t
            exact rch_ex hh (by rw [hk]; exact hen) (Nat.eq_of_beq_eq_true hl) hn hp1 k1
          · cases hn
theorem rch_br {t t1 t2 : AS} {cd : Prop} (hk : cod k = cs) (hb : bc cs t = some (cd, t1, t2)) (h1 : cd → Rch l E h k w0 nc ns Φ t1) (h2 : ¬ cd → Rch l E h k w0 nc ns Φ t2) : Rch l E h k w0 nc ns Φ t := by
  unfold bc at hb
  split at hb
  · cases hb
  · next e hen =>
    split at hb
    · next hl =>
      have hl := Nat.eq_of_beq_eq_true hl
      obtain ⟨pc, lv, st, w⟩ := t
      dsimp only at hen hb
      have hd := okD (k := k) (by rw [hk]; exact hen)
      obtain ⟨q0, ins, len, x0, a0, b0⟩ := e
      dsimp only at hl hd
      subst hl
      unfold bcE at hb
      dsimp only at hb
      split at hb
      · next c off x st1 =>
        split at hb
        · next ho =>
          cases hb
          intro hw hl hs hB p e R s m args below meth c2 Q D cs2 base sp C H locs ls hH hS hL
          have hx : i32 x := hs.h
          have ht : (pc : Int) + off = (tgt pc off : Int) := by unfold tgt; omega
          have k1 := fun z => h1 z hw hl hs.t hB p e R s m args below meth c2 Q D cs2 base sp C H locs ls hH hS hL
          have k2 := fun z => h2 z hw hl hs.t hB p e R s m args below meth c2 Q D cs2 base sp C H locs ls hH hS hL
          cases c
          · exact lv_if_eq C.1.1 C.1.2.1 hd ht (fun z => k1 ((eq32 hx i32_0).mp z)) (fun z => k2 (fun z2 => z ((eq32 hx i32_0).mpr z2)))
          · exact lv_if_ne C.1.1 C.1.2.1 hd ht (fun z => k1 (fun z2 => z ((eq32 hx i32_0).mpr z2))) (fun z => k2 (fun z2 => z2 ((eq32 hx i32_0).mp z)))
          · exact lv_if_lt C.1.1 C.1.2.1 hd ht (fun z => k1 ((lt32 hx i32_0).mp z)) (fun z => k2 (fun z2 => z ((lt32 hx i32_0).mpr z2)))
          · exact lv_if_ge C.1.1 C.1.2.1 hd ht (fun z => k1 ((le32 i32_0 hx).mp z)) (fun z => k2 (fun z2 => z ((le32 i32_0 hx).mpr z2)))
          · exact lv_if_gt C.1.1 C.1.2.1 hd ht (fun z => k1 ((lt32 i32_0 hx).mp z)) (fun z => k2 (fun z2 => z ((lt32 i32_0 hx).mpr z2)))
          · exact lv_if_le C.1.1 C.1.2.1 hd ht (fun z => k1 ((le32 hx i32_0).mp z)) (fun z => k2 (fun z2 => z ((le32 hx i32_0).mpr z2)))
        · cases hb
      · next c off y x st1 =>
        split at hb
        · next ho =>
          cases hb
          intro hw hl hs hB p e R s m args below meth c2 Q D cs2 base sp C H locs ls hH hS hL
          have hx : i32 x := hs.t.h
          have hy : i32 y := hs.h
          have ht : (pc : Int) + off = (tgt pc off : Int) := by unfold tgt; omega
          have k1 := fun z => h1 z hw hl hs.t.t hB p e R s m args below meth c2 Q D cs2 base sp C H locs ls hH hS hL
          have k2 := fun z => h2 z hw hl hs.t.t hB p e R s m args below meth c2 Q D cs2 base sp C H locs ls hH hS hL
          cases c
          · exact lv_icmp_eq C.1.1 C.1.2.1 hd ht (fun z => k1 ((eq32 hx hy).mp z)) (fun z => k2 (fun z2 => z ((eq32 hx hy).mpr z2)))
          · exact lv_icmp_ne C.1.1 C.1.2.1 hd ht (fun z => k1 (fun z2 => z ((eq32 hx hy).mpr z2))) (fun z => k2 (fun z2 => z2 ((eq32 hx hy).mp z)))
          · exact lv_icmp_lt C.1.1 C.1.2.1 hd ht (fun z => k1 ((lt32 hx hy).mp z)) (fun z => k2 (fun z2 => z ((lt32 hx hy).mpr z2)))
          · exact lv_icmp_ge C.1.1 C.1.2.1 hd ht (fun z => k1 ((le32 hy hx).mp z)) (fun z => k2 (fun z2 => z ((le32 hy hx).mpr z2)))
          · exact lv_icmp_gt C.1.1 C.1.2.1 hd ht (fun z => k1 ((lt32 hy hx).mp z)) (fun z => k2 (fun z2 => z ((lt32 hy hx).mpr z2)))
          · exact lv_icmp_le C.1.1 C.1.2.1 hd ht (fun z => k1 ((le32 hx hy).mp z)) (fun z => k2 (fun z2 => z ((le32 hx hy).mpr z2)))
        · cases hb
      · cases hb
    · cases hb
/-- the end of a method -/
def rtE (e : AE) (st : List AV) : Option (Option AV) := match e.2.1, st with
  | .return_, [] => some none
  | .ireturn, [Sum.inl x] => some (some (vI x))
  | .lreturn, [Sum.inr (Sum.inl x)] => some (some (vL x))
  | _, _ => none
def rt_ (cs : List AE) (t : AS) : Option (Option AV) := match en cs t.1 with
  | none => none
  | some e => if Nat.beq e.2.2.1 1 = true then rtE e t.2.2.1 else none
theorem rch_ret {t : AS} {rt : Option AV} (hk : cod k = cs) (hr : rt_ cs t = some rt) (hT : retT (rty k) rt) (hc : cN t.2.2.2 = cN w0 + nc ∧ sN t.2.2.2 = sN w0 + ns) (hΦ : Φ rt t.2.2.2) : Rch l E h k w0 nc ns Φ t := by
  unfold rt_ at hr
  split at hr
  · cases hr
  · next e hen =>
    split at hr
    · next hl =>
      have hl := Nat.eq_of_beq_eq_true hl
      obtain ⟨pc, lv, st, w⟩ := t
      dsimp only at hen hr hc hΦ
      have hd := okD (k := k) (by rw [hk]; exact hen)
      obtain ⟨q0, ins, len, x0, a0, b0⟩ := e
      dsimp only at hl hd
      subst hl
      intro hw hl hs hB p e R s m args below meth c Q D cs2 base sp C H locs ls hH hS hL
      have hE := C.2.2.2.2.2.2.2 H locs ls pc ins rt w hΦ hc.1 hc.2 hw
      dsimp only at hH hw hs ⊢
      rw [show cN w - cN w0 = nc by rw [hc.1]; omega, show sN w - sN w0 = ns by rw [hc.2]; omega]
      unfold rtE at hr
      dsimp only at hr
      split at hr
      · cases hr
        exact hE (fun v hv => by cases hv) hH hS hd rfl hT
      · cases hr
        exact hE (fun v hv => by cases hv; exact hs.h) hH hS hd rfl hT
      · cases hr
        exact hE (fun v hv => by cases hv; exact hs.h) hH hS hd rfl hT
      · cases hr
    · cases hr
end RU
end
section
theorem spl_all : spl.all (fun q => decide (174 ≤ q.2.2)) = true := by decide +kernel
theorem spl_no (k i a : Nat) (h : a < 174) : (own k, i, a) ∉ spl := fun hm => by
  have := of_decide_eq_true (List.all_eq_true.mp spl_all _ hm)
  simp only at this
  omega
theorem nsl_at {o i a : Nat} (h : (o, i, a) ∈ nsl) : rn_ o = RX5 ∧ i = 63 ∧ a = 91 := by
  simp only [nsl, List.mem_singleton, Prod.mk.injEq] at h
  exact ⟨by rw [h.1]; rfl, h.2.1, h.2.2⟩
theorem rty_all : (List.range 174).all (fun k => knd k != 2 || decide (rty k = none)) = true := by decide +kernel
theorem rty_init (k : Nat) (h : k < 174) (h2 : knd k = 2) : rty k = none := by
  have := List.all_eq_true.mp rty_all k (List.mem_range.mpr h)
  simp only [Bool.or_eq_true, bne_iff_ne, ne_eq, decide_eq_true_eq] at this
  exact this.resolve_left (fun q => q h2)
end
section
-- CALLS
section AC
variable {p : Program} {l : Launch} {e : Env} {R : Room} {s : State} {m : MethodId} {args : Array Value} {below : List Frame} {meth : Method} {c : Code} {H : Heap} {locs : List Loc} {cells slots mc ms : Nat} {Q : State → Prop} {g : JFrame} {rest : List Value} {Qa : State → Outcome → State → Prop} {free : Addr → Prop}
theorem ap_call (hr : va_Run p l e R s m args below meth c H locs cells slots mc ms g rest Qa free)
    (kk : ∀ (v : Option Value) (st0 t : State) (H1 : Heap) (L : List Loc), st0.heap = H → t.heap = H1 → Qa st0 (.returned v) t → (∀ q ∈ L, free q.base) → W p l e R s m args below meth c H1 (locs ++ L) (cells + mc) (slots + ms) Q { g with pc := g.pc + 3, stack := v.toList ++ rest }) : W p l e R s m args below meth c H locs cells slots Q g := by
  intro T hT X
  obtain ⟨v, st₀, t, T', L, h0, X', hL, e1, e2, hq, st⟩ := hr T hT X
  obtain ⟨t2, a1, b1⟩ := kk v st₀ t T'.heap L h0 e1.symm hq hL T' rfl X'
  exact ⟨t2, st t2 a1, b1⟩
end AC
/-- a receiver is of the class -/
def rcv (w : AW) (r o : Nat) : Bool := match w.1[r]? with
  | some q => Nat.beq q.1 0 && Nat.beq q.2.1 o && Nat.blt q.2.1 13
  | none => Nat.ble 2000 r && Nat.blt r 2010 && Nat.beq o 15
/-- a call: the callee, its arguments, the state behind it but for the answer -/
def clE (e : AE) (pc : Nat) (lv : List (Option AV)) (st : List AV) (w : AW) : Option (Nat × List AV × AS) :=
  if e.2.2.2.2.1 < 174 then
  match e.2.1 with
  | .invokestatic _ => if Nat.beq (knd e.2.2.2.2.1) 0 = true ∧ Nat.beq (st.take (nar e.2.2.2.2.1)).length (nar e.2.2.2.2.1) = true ∧ catS (st.drop (nar e.2.2.2.2.1)) ≤ 8 then some (e.2.2.2.2.1, (st.take (nar e.2.2.2.2.1)).reverse, (pc + 3, lv, st.drop (nar e.2.2.2.2.1), w)) else none
  | .invokespecial _ => if Nat.beq (knd e.2.2.2.2.1) 2 = true ∧ Nat.beq (st.take (nar e.2.2.2.2.1)).length (nar e.2.2.2.2.1) = true then (match st.drop (nar e.2.2.2.2.1) with
    | Sum.inr (Sum.inr (some r)) :: rest => if r < 5000 ∧ catS rest ≤ 8 then some (e.2.2.2.2.1, vR r :: (st.take (nar e.2.2.2.2.1)).reverse, (pc + 3, lv, rest, w)) else none
    | _ => none) else none
  | .invokevirtual _ => if Nat.beq (knd e.2.2.2.2.1) 1 = true ∧ Nat.beq (st.take (nar e.2.2.2.2.1)).length (nar e.2.2.2.2.1) = true then (match st.drop (nar e.2.2.2.2.1) with
    | Sum.inr (Sum.inr (some r)) :: rest => if catS rest ≤ 8 ∧ rcv w r (own e.2.2.2.2.1) = true then some (e.2.2.2.2.1, vR r :: (st.take (nar e.2.2.2.2.1)).reverse, (pc + 3, lv, rest, w)) else none
    | _ => none) else none
  | _ => none
  else none
def cl (cs : List AE) (t : AS) : Option (Nat × List AV × AS) := match en cs t.1 with
  | none => none
  | some e => if Nat.beq e.2.2.1 3 = true then clE e t.1 t.2.1 t.2.2.1 t.2.2.2 else none
section RC
variable {l : Launch} {E : AX} {h k : Nat} {w0 : AW} {nc ns : Nat} {Φ : Option AV → AW → Prop} {cs : List AE} {h' k' nc' ns' : Nat} {Φ' : Option AV → AW → Prop}
theorem pc_blind {D : va_G} {cs : ClassId × ClassId × ClassId} {base : Nat} {sp : Nat → Value} {w : AW} {av : List Value} : FrameBlind (va_Pc av (fun U => hW D cs base sp w U.heap ∧ va_K D classes (tysO cs) U ∧ Sx E base sp U U.heap ∧ base ≤ U.heap.size)) :=
  fun a U g mk q => ⟨q.1, q.2.1, va_K.moved (u := U) (U := U.calling g mk a) (Vm.Alike.refl U.vm) q.2.2.1, Sx.same (s := U) (U := U.calling g mk a) rfl q.2.2.2.1, q.2.2.2.2⟩
/-- behind a call, whichever it is -/
theorem rch_back {p : Program} {e : Env} {R : Room} {s : State} {m : MethodId} {args : Array Value} {below : List Frame} {meth : Method} {c : Code} {Q : State → Prop} {D : va_G} {cs2 : ClassId × ClassId × ClassId} {base : Nat} {sp : Nat → Value} {H : Heap} {locs : List Loc} {ls : Array Slot} {pc : Nat} {lv : List (Option AV)} {st rest : List AV} {w : AW} {av : List Value}
    (C : Cx l E h k w0 nc ns Φ p e R s m args below meth c Q D cs2 base sp) (hl : okL lv) (hs : okS rest) (hB : inB w0 nc ns w) (hS : va_S (fun q => base ≤ q) s.heap H locs) (hL : hasL base sp ls (mxl k) lv) (hb : cN w + nc' ≤ cN w0 + nc ∧ sN w + ns' ≤ sN w0 + ns)
    (kk : ∀ rt w', Φ' rt w' → cN w' = cN w + nc' → sN w' = sN w + ns' → Rch l E h k w0 nc ns Φ (pc + 3, lv, rt.toList ++ rest, w'))
    (hr : va_Run p l e R s m args below meth c H locs (cN w - cN w0) (sN w - sN w0) nc' ns' (F0 m pc ls (st.map (tr base sp))) (rest.map (tr base sp)) ((fun _ st o t => (∃ (rt : Option AV) (wf : AW), Φ' rt wf ∧ cN wf = cN w + nc' ∧ sN wf = sN w + ns' ∧ okW wf ∧ (∀ v ∈ rt, okv v) ∧ o = .returned (rt.map (tr base sp)) ∧ hW D cs2 base sp wf t.heap) ∧ va_F (fun q => base ≤ q) st t : Array Value → State → Outcome → State → Prop) av.toArray) (fun q => base ≤ q)) :
    W p l e R s m args below meth c H locs (cN w - cN w0) (sN w - sN w0) Q (F0 m pc ls (st.map (tr base sp))) := by
  refine ap_call hr (fun v st0 t H1 L g0 g1 g2 g3 => ?_)
  obtain ⟨⟨rt, wf, e1, e2, e3, e4, e5, e6, e7⟩, hF⟩ := g2
  have hv : v = rt.map (tr base sp) := by injection e6
  subst hv
  have hB2 : inB w0 nc ns wf := by
    unfold inB at hB ⊢
    rw [e2, e3]
    omega
  have hS2 : va_S (fun q => base ≤ q) s.heap H1 (locs ++ L) := by
    unfold va_F at hF
    rw [g0, g1] at hF
    refine ⟨Nat.le_trans hS.1 hF.1, fun q h1 h2 => (hF.2 q (Nat.lt_of_lt_of_le h1 hS.1) h2).trans (hS.2.1 q h1 h2), fun q hq => ?_⟩
    rcases List.mem_append.mp hq with h | h
    · exact hS.2.2 q h
    · exact g3 q h
  have hs2 : okS (rt.toList ++ rest) := fun v hv => by
    rcases List.mem_append.mp hv with h | h
    · exact e5 v (Option.mem_toList.mp h)
    · exact hs v h
  have hK := kk rt wf e1 e2 e3 e4 hl hs2 hB2 p e R s m args below meth c Q D cs2 base sp C H1 (locs ++ L) ls (by rw [← g1]; exact e7) hS2 hL
  have hcn : cN w - cN w0 + nc' = cN wf - cN w0 := by unfold inB at hB; omega
  have hsn : sN w - sN w0 + ns' = sN wf - sN w0 := by unfold inB at hB; omega
  rw [hcn, hsn]
  have e8 : (Option.map (tr base sp) rt).toList ++ rest.map (tr base sp) = (rt.toList ++ rest).map (tr base sp) := by cases rt <;> simp
  show W p l e R s m args below meth c H1 (locs ++ L) _ _ Q (F0 m (pc + 3) ls ((Option.map (tr base sp) rt).toList ++ rest.map (tr base sp)))
  rw [e8]
  exact hK
theorem rch_call {t t1 : AS} {as : List AV} (hk : cod k = cs) (hc : cl cs t = some (k', as, t1)) (hcon : Con l E h' k' as t.2.2.2 nc' ns' Φ') (hh : h' + 1 ≤ h) (hb : cN t.2.2.2 + nc' ≤ cN w0 + nc ∧ sN t.2.2.2 + ns' ≤ sN w0 + ns)
    (kk : ∀ rt w', Φ' rt w' → cN w' = cN t.2.2.2 + nc' → sN w' = sN t.2.2.2 + ns' → Rch l E h k w0 nc ns Φ (t1.1, t1.2.1, rt.toList ++ t1.2.2.1, w')) : Rch l E h k w0 nc ns Φ t := by
  unfold cl at hc
  split at hc
  · cases hc
  · next e hen =>
    split at hc
    · next hl3 =>
      have hl3 := Nat.eq_of_beq_eq_true hl3
      obtain ⟨pc, lv, st, w⟩ := t
      dsimp only at hen hc hcon hb kk
      have hen : en (cod k) pc = some e := by rw [hk]; exact hen
      have hd := okD hen
      have hok := okK k e (en_mem hen).1
      obtain ⟨q0, ins, len, x0, a0, b0⟩ := e
      dsimp only at hl3 hd
      subst hl3
      unfold okE at hok
      rw [Bool.and_eq_true] at hok
      have hok := hok.2
      unfold clE at hc
      dsimp only at hc
      split at hc
      · next h174 =>
        have hmw := mwK h174
        have hcw := cwK a0 h174
        split at hc
        · -- static
          next i =>
          split at hc
          · next hcc =>
            obtain ⟨g1, g2, g3⟩ := hcc
            cases hc
            have g1 := Nat.eq_of_beq_eq_true g1
            have g2 := Nat.eq_of_beq_eq_true g2
            intro hw hl hs hB p e R s m args below meth c Q D cs2 base sp C H locs ls hH hS hL
            have hsr : okS (st.take (nar k')).reverse := fun v hv => hs v (List.mem_of_mem_take (List.mem_reverse.mp hv))
            have hsd : okS (st.drop (nar k')) := fun v hv => hs v (List.mem_of_mem_drop hv)
            have hM := hcon hw hsr D cs2 base sp C.2.2.2.2.1
            have hstk : (F0 m pc ls (st.map (tr base sp))).stack = ((st.take (nar k')).reverse.map (tr base sp)).reverse ++ (st.drop (nar k')).map (tr base sp) := by
              show st.map (tr base sp) = _
              rw [List.map_reverse, List.reverse_reverse, ← List.map_append, List.take_append_drop]
            have hF := C.2.2.1
            have hpre : PreS s H (va_Pc ((st.take (nar k')).reverse.map (tr base sp)) (fun U => hW D cs2 base sp w U.heap ∧ va_K D classes (tysO cs2) U ∧ Sx E base sp U U.heap ∧ base ≤ U.heap.size)) ((st.take (nar k')).reverse.map (tr base sp)) :=
              ⟨pc_blind, fun U hU hWm => ⟨rfl, by rw [hU]; exact hH, va_K.moved hWm.alike C.2.2.2.1, by rw [hU]; exact Sx.go C.2.2.2.2.2.1 hWm hS, by rw [hU]; exact Nat.le_trans C.2.2.2.2.2.2.1 hS.1⟩⟩
            have hlenA : ((st.take (nar k')).reverse.map (tr base sp)).length = nar k' := by rw [List.length_map, List.length_reverse]; exact g2
            have hstat : Jvm.Cond.static (ynm k') ∈ tb := by have := hmw.2.1; rw [if_pos g1] at this; exact this
            have hcells : cN w - cN w0 + nc' ≤ R.cells ∧ sN w - sN w0 + ns' ≤ R.slots := by
              unfold inB at hB
              dsimp only at hB
              omega
            rcases of_decide_eq_true hok with hok | hok | hok | hok
            · have hok : k' = 999 := hok
              omega
            · have hlk := mls_ok _ hok
              refine rch_back C hl hsd hB hS hL hb kk (av := (st.take (nar k')).reverse.map (tr base sp)) ?_
              exact va_runS ⟨C.1.1, C.1.2.1, C.1.2.2.1, C.1.2.2.2.1, C.1.2.2.2.2⟩ hM (va_cwS (nar k') C.1.2.2.2.2 (tb_GI (fun c hc => by
                simp only [va_wsS, List.mem_append, List.mem_cons, List.not_mem_nil, or_false] at hc
                rcases hc with (rfl | rfl | rfl) | rfl | hc
                · exact hlk
                · exact hstat
                · exact hmw.1
                · exact hcw
                · exact hc)) rfl rfl rfl hmw.2.2.2.1 ⟨by show h' + 1 ≤ R.frames; omega, by show 8 + (mxl k' + 11) + 64 * h' ≤ R.locals; have := hmw.2.2.2.2.2.2.2; omega⟩) hpre rfl hlenA hL.1 hstk (by show 2 * 0 + _ ≤ 8; rw [trS_cat C.2.2.2.2.1]; omega) hd hcells
            · exact absurd hok (spl_no k _ k' h174)
            · refine rch_back C hl hsd hB hS hL hb kk (av := (st.take (nar k')).reverse.map (tr base sp)) ?_
              have h91 : rn_ (own k) = RX5 ∧ _ = 63 ∧ k' = 91 := nsl_at hok
              exact va_runSN ⟨C.1.1, C.1.2.1, C.1.2.2.1, C.1.2.2.2.1, C.1.2.2.2.2⟩ hM ⟨va_cnB (host := RX11) (nar k') C.1.2.2.2.2 (tb_GI (fun c hc => by
                rcases List.mem_cons.mp hc with rfl | hc
                · exact hcw
                · exact hc)) rfl rfl rfl (by have := C.2.2.2.2.2.1.2.2.2.1; rw [h91.1, h91.2.1, h91.2.2]; exact this) (C.1.2.2.2.2 _ hmw.1) hmw.2.2.2.1 ⟨by show h' + 1 ≤ R.frames; omega, by show 8 + (mxl k' + 11) + 64 * h' ≤ R.locals; have := hmw.2.2.2.2.2.2.2; omega⟩, C.1.2.2.2.2 _ hstat, trivial⟩ hpre rfl hlenA hL.1 hstk (by show 2 * 0 + _ ≤ 8; rw [trS_cat C.2.2.2.2.1]; omega) hd hcells
          · cases hc
        · -- special
          next i =>
          split at hc
          · next hcc =>
            obtain ⟨g1, g2⟩ := hcc
            have g1 := Nat.eq_of_beq_eq_true g1
            have g2 := Nat.eq_of_beq_eq_true g2
            split at hc
            · next r rest hdr =>
              split at hc
              · next g3 =>
                cases hc
                intro hw hl hs hB p e R s m args below meth c Q D cs2 base sp C H locs ls hH hS hL
                have hsr : okS (vR r :: (st.take (nar k')).reverse) := okS.c (v := vR r) trivial (fun v hv => hs v (List.mem_of_mem_take (List.mem_reverse.mp hv)))
                have hsd : okS rest := fun v hv => hs v (List.mem_of_mem_drop (by rw [hdr]; exact List.mem_cons_of_mem _ hv))
                have hM := hcon hw hsr D cs2 base sp C.2.2.2.2.1
                obtain ⟨b, hb9⟩ := rv_ref (base := base) C.2.2.2.2.1 g3.1
                have hstk : (F0 m pc ls (st.map (tr base sp))).stack = ((st.take (nar k')).reverse.map (tr base sp)).reverse ++ .ref b :: rest.map (tr base sp) := by
                  show st.map (tr base sp) = _
                  rw [← hb9, List.map_reverse, List.reverse_reverse]
                  have e9 : st = st.take (nar k') ++ vR r :: rest := by rw [← hdr, List.take_append_drop]
                  exact (congrArg (List.map (tr base sp)) e9).trans (by rw [List.map_append, List.map_cons]; rfl)
                have hF := C.2.2.1
                have hM2 : (vR r :: (st.take (nar k')).reverse).map (tr base sp) = .ref b :: (st.take (nar k')).reverse.map (tr base sp) := by
                  rw [List.map_cons]; exact congrArg (· :: _) hb9
                rw [hM2] at hM
                have hpre : PreS s H (va_Pc (.ref b :: (st.take (nar k')).reverse.map (tr base sp)) (fun U => hW D cs2 base sp w U.heap ∧ va_K D classes (tysO cs2) U ∧ Sx E base sp U U.heap ∧ base ≤ U.heap.size)) (.ref b :: (st.take (nar k')).reverse.map (tr base sp)) :=
                  ⟨pc_blind, fun U hU hWm => ⟨rfl, by rw [hU]; exact hH, va_K.moved hWm.alike C.2.2.2.1, by rw [hU]; exact Sx.go C.2.2.2.2.2.1 hWm hS, by rw [hU]; exact Nat.le_trans C.2.2.2.2.2.2.1 hS.1⟩⟩
                have hlenA : ((st.take (nar k')).reverse.map (tr base sp)).length = nar k' := by rw [List.length_map, List.length_reverse]; exact g2
                have hinst : Jvm.Cond.instanceMethod (ynm k') ∈ tb := by have := hmw.2.1; rw [if_neg (by omega)] at this; exact this
                have hcells : cN w - cN w0 + nc' ≤ R.cells ∧ sN w - sN w0 + ns' ≤ R.slots := by
                  unfold inB at hB
                  dsimp only at hB
                  omega
                rcases of_decide_eq_true hok with hok | hok | hok
                · have hok : k' = 999 := hok
                  omega
                · have hlk := mls_ok _ hok
                  have hrt := rty_init k' h174 g1
                  rw [hrt] at hM hcw
                  refine rch_back C hl hsd hB hS hL hb kk (av := .ref b :: (st.take (nar k')).reverse.map (tr base sp)) ?_
                  exact va_runI ⟨C.1.1, C.1.2.1, C.1.2.2.1, C.1.2.2.2.1, C.1.2.2.2.2⟩ hM (cwI (nar k') C.1.2.2.2.2 (tb_GI (fun c hc => by
                    rcases List.mem_cons.mp hc with rfl | hc
                    · exact hcw
                    · exact hc)) rfl rfl rfl (C.1.2.2.2.2 _ hmw.1) (C.1.2.2.2.2 _ hlk) (C.1.2.2.2.2 _ hinst) (hmw.2.2.2.2.2.2.1 g1) hmw.2.2.2.1 ⟨by show h' + 1 ≤ R.frames; omega, by show 8 + (mxl k' + 11) + 64 * h' ≤ R.locals; have := hmw.2.2.2.2.2.2.2; omega⟩) hpre rfl hlenA hL.1 hstk (by show 2 * 0 + _ ≤ 8; rw [trS_cat C.2.2.2.2.1]; omega) hd hcells
                · exact absurd hok (spl_no k _ k' h174)
              · cases hc
            · cases hc
          · cases hc
        · -- virtual
          next i =>
          split at hc
          · next hcc =>
            obtain ⟨g1, g2⟩ := hcc
            have g1 := Nat.eq_of_beq_eq_true g1
            have g2 := Nat.eq_of_beq_eq_true g2
            split at hc
            · next r rest hdr =>
              split at hc
              · next g3 =>
                cases hc
                intro hw hl hs hB p e R s m args below meth c Q D cs2 base sp C H locs ls hH hS hL
                have hsr : okS (vR r :: (st.take (nar k')).reverse) := okS.c (v := vR r) trivial (fun v hv => hs v (List.mem_of_mem_take (List.mem_reverse.mp hv)))
                have hsd : okS rest := fun v hv => hs v (List.mem_of_mem_drop (by rw [hdr]; exact List.mem_cons_of_mem _ hv))
                have hM := hcon hw hsr D cs2 base sp C.2.2.2.2.1
                have hrecv : ∃ b, rv base sp r = .ref b ∧ ∃ cell : Cell, H[b]? = some cell ∧ cell.vm.isStatics = false ∧ s.vm.findClass (ynm k').cls = some cell.cls := by
                  have g4 := g3.2
                  unfold rcv at g4
                  split at g4
                  · next q hq =>
                    obtain ⟨q1, q2, q3⟩ := q
                    simp only [Bool.and_eq_true] at g4
                    have z1 := Nat.eq_of_beq_eq_true g4.1.1
                    have z2 := Nat.eq_of_beq_eq_true g4.1.2
                    subst z1
                    subst z2
                    have z3 : own k' < 13 := Nat.lt_of_succ_le (Nat.le_of_ble_eq_true g4.2)
                    have := va_recv (q := (rn_ (own k'), clT.getD (own k') TX0, (fTL.getD (own k') []).length)) C.2.2.2.1 hH.2.2 (cls_at (own k') z3) (wsO_at hq)
                    rw [hmw.2.2.2.2.2.1] at this
                    exact ⟨base + r, rv_lt (lay_lt hH hq), this⟩
                  · simp only [Bool.and_eq_true] at g4
                    have z1 : 2000 ≤ r := Nat.le_of_ble_eq_true g4.1.1
                    have z2 : r < 2010 := Nat.lt_of_succ_le (Nat.le_of_ble_eq_true g4.1.2)
                    have z3 := Nat.eq_of_beq_eq_true g4.2
                    obtain ⟨-, -, -, -, -, ⟨⟨adK, adV, h1, h2, h3⟩, -⟩, -⟩ := id C
                    have e1 : rv base sp r = .ref (adK (r - 2000)) := by
                      unfold rv
                      rw [if_neg (by omega), ← (h1 (r - 2000) (by omega)).1]
                      exact congrArg sp (by omega)
                    have := vk_recv h2 (show r - 2000 < 10 by omega) hS
                    refine ⟨adK (r - 2000), e1, ?_⟩
                    rw [← hmw.2.2.2.2.2.1, z3]
                    exact this
                obtain ⟨b, hb9, hrecv⟩ := hrecv
                have hstk : (F0 m pc ls (st.map (tr base sp))).stack = ((st.take (nar k')).reverse.map (tr base sp)).reverse ++ .ref b :: rest.map (tr base sp) := by
                  show st.map (tr base sp) = _
                  rw [← hb9, List.map_reverse, List.reverse_reverse]
                  have e9 : st = st.take (nar k') ++ vR r :: rest := by rw [← hdr, List.take_append_drop]
                  exact (congrArg (List.map (tr base sp)) e9).trans (by rw [List.map_append, List.map_cons]; rfl)
                have hF := C.2.2.1
                have hM2 : (vR r :: (st.take (nar k')).reverse).map (tr base sp) = .ref b :: (st.take (nar k')).reverse.map (tr base sp) := by
                  rw [List.map_cons]; exact congrArg (· :: _) hb9
                rw [hM2] at hM
                have hpre : PreV s H (ynm k').cls b (va_Pc (.ref b :: (st.take (nar k')).reverse.map (tr base sp)) (fun U => hW D cs2 base sp w U.heap ∧ va_K D classes (tysO cs2) U ∧ Sx E base sp U U.heap ∧ base ≤ U.heap.size)) ((st.take (nar k')).reverse.map (tr base sp)) :=
                  ⟨pc_blind, hrecv, fun U hU hWm => ⟨rfl, by rw [hU]; exact hH, va_K.moved hWm.alike C.2.2.2.1, by rw [hU]; exact Sx.go C.2.2.2.2.2.1 hWm hS, by rw [hU]; exact Nat.le_trans C.2.2.2.2.2.2.1 hS.1⟩⟩
                have hlenA : ((st.take (nar k')).reverse.map (tr base sp)).length = nar k' := by rw [List.length_map, List.length_reverse]; exact g2
                have hinst : Jvm.Cond.instanceMethod (ynm k') ∈ tb := by have := hmw.2.1; rw [if_neg (by omega)] at this; exact this
                have hcells : cN w - cN w0 + nc' ≤ R.cells ∧ sN w - sN w0 + ns' ≤ R.slots := by
                  unfold inB at hB
                  dsimp only at hB
                  omega
                have hlk := mls_ok _ (of_decide_eq_true hok)
                refine rch_back C hl hsd hB hS hL hb kk (av := .ref b :: (st.take (nar k')).reverse.map (tr base sp)) ?_
                exact va_runV ⟨C.1.1, C.1.2.1, C.1.2.2.1, C.1.2.2.2.1, C.1.2.2.2.2⟩ hM (cwV (nar k') C.1.2.2.2.2 (tb_GI (fun c hc => by
                  simp only [wsV, List.mem_append, List.mem_cons, List.not_mem_nil, or_false] at hc
                  rcases hc with (rfl | rfl | rfl | rfl) | rfl | hc
                  · exact hlk
                  · exact hinst
                  · exact hmw.2.2.1 g1
                  · exact hmw.1
                  · exact hcw
                  · exact hc)) rfl rfl rfl ⟨rfl, hmw.2.2.2.1⟩ ⟨by show h' + 1 ≤ R.frames; omega, by show 8 + (mxl k' + 11) + 64 * h' ≤ R.locals; have := hmw.2.2.2.2.2.2.2; omega⟩) hpre rfl hlenA hL.1 hstk (by show 2 * 0 + _ ≤ 8; rw [trS_cat C.2.2.2.2.1]; omega) hd hcells
              · cases hc
            · cases hc
          · cases hc
        · cases hc
      · cases hc
    · cases hc
end RC
end
section
theorem nar_char {x : Int} (h : 0 ≤ x ∧ x ≤ 65535) : narrow .char (.int (Int32.ofInt x)) = .int (Int32.ofInt x) := by
  have e : Int32.ofInt x = nI x.toNat := by
    unfold nI
    rw [← Int32.ofInt_eq_ofNat]
    congr 1
    omega
  rw [e]
  exact (pk_charN (by omega)).1
theorem nar_byte {x : Int} (h : -128 ≤ x ∧ x ≤ 127) : narrow .byte (.int (Int32.ofInt x)) = .int (Int32.ofInt x) := by
  have e : (Int8.ofInt x).toInt32 = Int32.ofInt x := by8 h.1 h.2
  rw [← e]
  show Value.int ((Int8.ofInt x).toInt32.toInt8.toInt32) = _
  rw [Int8.toInt8_toInt32]
end
section
-- A METHOD'S WHOLE BODY, NEW CELLS, SWITCHES
section RE
variable {l : Launch} {E : AX} {h k : Nat} {w0 : AW} {nc ns : Nat} {Φ : Option AV → AW → Prop} {cs : List AE} {w : AW} {args : List AV}
theorem okL_en (hs : okS args) (n : Nat) : okL (enL args n) := by
  intro v hv
  unfold enL at hv
  rcases List.mem_append.mp hv with h | h
  · obtain ⟨u, hu, h⟩ := List.mem_flatMap.mp h
    split at h
    · simp at h; subst h; exact hs _ hu
    · simp at h; subst h; exact hs _ hu
  · have := (List.mem_replicate.mp h).2
    cases this
theorem con_intro (hk : k < 174) (hlen : (enA args).length ≤ mxl k) (kk : Rch l E h k w nc ns Φ (0, enL args (mxl k), [], w)) : Con l E h k args w nc ns Φ := by
  intro hw hs D cs base sp hsp
  have hmw := mwK hk
  refine Met.ofW (cc := byt k) (maxL := mxl k) (ret := rty k) hmw.2.2.2.2.1 rfl ?_
  intro p e s m av below meth c s₁ B hml hv
  obtain ⟨rfl, hH, hK, hX, hbs⟩ := hv
  have hts := atoms_spec (ws := Jvm.Cond.code (ynm k) (byt k) (mxl k) (rty k) :: tb) B.pre
  have hown : s.vm.findClass (ynm k).cls = some m.cls := findClass_of_methodNamed B.named
  have hlocks := B.notSynchronized
  have hr := B.returns
  rw [lg_entry_eq]
  have hl := hasL_entry (base := base) hsp args hlen
  generalize (lg_sl (args.map (tr base sp)) ++ List.replicate (mxl k - (lg_sl (args.map (tr base sp))).length) Slot.unset).toArray = ls at hl ⊢
  have C : Cx l E h k w nc ns Φ p e { frames := h, cells := nc, slots := ns, locals := 64 * h } s m (args.map (tr base sp)).toArray below meth c (MQ below (fun _ st o t => (∃ (rt : Option AV) (wf : AW), Φ rt wf ∧ cN wf = cN w + nc ∧ sN wf = sN w + ns ∧ okW wf ∧ (∀ v ∈ rt, okv v) ∧ o = .returned (rt.map (tr base sp)) ∧ hW D cs base sp wf t.heap) ∧ va_F (fun q => base ≤ q) st t) (args.map (tr base sp)).toArray s nc ns (fun q => base ≤ q)) D cs base sp := by
    refine ⟨⟨B.exec, B.bytes, hml, by rw [hmw.2.2.2.2.2.1]; exact hown, fun c hc => hts c (List.mem_cons_of_mem _ hc)⟩, fun h2 => (name_of_methodNamed B.named B.method).1.trans (hmw.2.2.2.2.2.2.1 h2), ⟨Nat.le_refl _, Nat.le_refl _, Nat.le_refl _, Nat.le_refl _⟩, hK, hsp, hX, hbs, ?_⟩
    intro H locs ls2 pc ins rt wf hΦ hcn hsn hw2 hrt hH2 hS2 hd hri hrT
    have hq : ∀ t : State, t.heap = H → s.WarmedH t.vm → (fun (_ : Array Value) (st : State) (o : Outcome) (t : State) => (∃ (rt : Option AV) (wf : AW), Φ rt wf ∧ cN wf = cN w + nc ∧ sN wf = sN w + ns ∧ okW wf ∧ (∀ v ∈ rt, okv v) ∧ o = .returned (rt.map (tr base sp)) ∧ hW D cs base sp wf t.heap) ∧ va_F (fun q => base ≤ q) st t) (args.map (tr base sp)).toArray s (.returned (rt.map (tr base sp))) t := fun t ht _ => ⟨⟨rt, wf, hΦ, hcn, hsn, hw2, hrt, rfl, by rw [ht]; exact hH2⟩, hS2.F ht⟩
    unfold retI at hri
    split at hri
    · generalize rty k = ty at hr hrT
      unfold retT at hrT
      split at hrT <;> first | (cases hrT; done) | skip
      · exact W.vret B.exec B.bytes hr hq hS2.2.2 hd hlocks
      all_goals (rename_i h9; first | (cases h9; done) | exact hrT.elim)
    · next x =>
      have hx : i32 x := hrt _ rfl
      have key : ∀ ty : FieldType, rty k = some ty → narrow ty (.int (Int32.ofInt x)) = .int (Int32.ofInt x) → W p l e { frames := h, cells := nc, slots := ns, locals := 64 * h } s m (args.map (tr base sp)).toArray below meth c H locs nc ns (MQ below (fun _ st o t => (∃ (rt : Option AV) (wf : AW), Φ rt wf ∧ cN wf = cN w + nc ∧ sN wf = sN w + ns ∧ okW wf ∧ (∀ v ∈ rt, okv v) ∧ o = .returned (rt.map (tr base sp)) ∧ hW D cs base sp wf t.heap) ∧ va_F (fun q => base ≤ q) st t) (args.map (tr base sp)).toArray s nc ns (fun q => base ≤ q)) (F0 m pc ls2 [.int (Int32.ofInt x)]) := fun ty h1 h2 => W.zret B.exec B.bytes (hr.trans h1) h2 hq hS2.2.2 hd hlocks
      cases hty : rty k with
      | none => rw [hty] at hrT; exact hrT.elim
      | some ty =>
        rw [hty] at hrT
        cases ty with
        | int => exact key _ hty rfl
        | boolean => exact key _ hty (nar_bool hrT).1
        | char => exact key _ hty (nar_char hrT)
        | byte => exact key _ hty (nar_byte hrT)
        | _ => exact hrT.elim
    · next x =>
      cases hty : rty k with
      | none => rw [hty] at hrT; exact hrT.elim
      | some ty =>
        rw [hty] at hrT
        cases ty with
        | long => exact W.lret B.exec B.bytes (hr.trans hty) hq hS2.2.2 hd hlocks
        | _ => exact hrT.elim
    · cases hri
  have := kk hw (okL_en hs _) (fun v hv => absurd hv List.not_mem_nil) ⟨⟨Nat.le_refl _, Nat.le_add_right _ _⟩, Nat.le_refl _, Nat.le_add_right _ _⟩ p e _ s m _ below meth c _ D cs base sp C s.heap [] ls hH va_S.rf hl
  simp only [Nat.sub_self] at this
  exact this
end RE
end
section
-- NEW CELLS, SWITCHES
def tyN (t : ArrayType) : Nat := match t with
  | .int => 0
  | .boolean => 1
  | .long => 2
  | _ => 9
def nwE (e : AE) (pc : Nat) (lv : List (Option AV)) (st : List AV) (w : AW) : Option AS := match e.2.1 with
  | .new _ => if e.2.2.2.2.1 < 13 ∧ e.2.2.1 = 3 then some (pc + 3, lv, vR w.1.length :: st, uN w (0, e.2.2.2.2.1, (fTL.getD e.2.2.2.2.1 []).length)) else none
  | .newarray t => match st with
    | Sum.inl n :: st => if tyN t < 3 ∧ 0 ≤ n ∧ n ≤ 100000 ∧ e.2.2.1 = 2 then some (pc + 2, lv, vR w.1.length :: st, uN w (1, tyN t, n.toNat)) else none
    | _ => none
  | _ => none
def nw (cs : List AE) (t : AS) : Option AS := match en cs t.1 with
  | none => none
  | some e => nwE e t.1 t.2.1 t.2.2.1 t.2.2.2
theorem vpV_map {g : Nat → Value} {n j : Nat} (h : j < n) : vp_V ((List.range n).map g) j = g j := by simp [vp_V, h]
theorem cN_uN (w : AW) (q : Nat × Nat × Nat) : cN (uN w q) = cN w + 1 := by simp [cN, uN]
theorem sN_uN (w : AW) (q : Nat × Nat × Nat) : sN (uN w q) = sN w + q.2.2 := by simp [sN, uN]
theorem ct_uN {base : Nat} {sp : Nat → Value} {cs : ClassId × ClassId × ClassId} {w : AW} {q : Nat × Nat × Nat} {k : Nat} (h : k ≠ w.1.length) (q' : Nat × Nat × Nat) : ct base sp cs (uN w q) k q' = ct base sp cs w k q' :=
  ct_congr (w := w) (w' := uN w q) (fun _ => by simp [wI, uN, h]) (fun _ => by simp [wL, uN, h]) (fun _ => by simp [wR, uN, h]) q'
theorem hW_uN {D : va_G} {cs : ClassId × ClassId × ClassId} {base : Nat} {sp : Nat → Value} {w : AW} {H H1 : Heap} (hH : hW D cs base sp w H) {q : Nat × Nat × Nat} (hlen : w.1.length < 1000) (z : H1.size = H.size + 1) (o1 : ∀ a : Nat, a < H.size → H1[a]? = H[a]?) (hat : va_at D classes (base + w.1.length, ct base sp cs (uN w q) w.1.length q) H1) : hW D cs base sp (uN w q) H1 := by
  refine ⟨by rw [z, hH.1]; show _ = base + (w.1 ++ [q]).length; rw [List.length_append, List.length_singleton]; omega, by show (w.1 ++ [q]).length ≤ 1000; rw [List.length_append, List.length_singleton]; omega, ?_⟩
  intro k p hp
  obtain ⟨q', hq', rfl⟩ := wsO_of hp
  have hq' : (w.1 ++ [q])[k]? = some q' := hq'
  by_cases hk : k < w.1.length
  · rw [List.getElem?_append_left hk] at hq'
    rw [ct_uN (by omega)]
    have h3 := hH.2.2 k _ (wsO_at hq')
    exact h3.kept (o1 _ h3.lt)
  · rw [List.getElem?_append_right (by omega)] at hq'
    have hk2 : k - w.1.length = 0 := by
      have := (List.getElem?_eq_some_iff.mp hq').1
      simp at this
      omega
    rw [hk2] at hq'
    have hk3 : k = w.1.length := by omega
    cases hq'
    rw [hk3]
    exact hat
section RN
variable {l : Launch} {E : AX} {h k : Nat} {w0 : AW} {nc ns : Nat} {Φ : Option AV → AW → Prop} {cs : List AE}
theorem rch_new {t t' : AS} (hk : cod k = cs) (hn : nw cs t = some t') (hb : cN t'.2.2.2 ≤ cN w0 + nc ∧ sN t'.2.2.2 ≤ sN w0 + ns) (hlen : t.2.2.2.1.length < 1000) (kk : Rch l E h k w0 nc ns Φ t') : Rch l E h k w0 nc ns Φ t := by
  unfold nw at hn
  split at hn
  · cases hn
  · next e hen =>
    obtain ⟨pc, lv, st, w⟩ := t
    dsimp only at hen hn hlen
    have hen : en (cod k) pc = some e := by rw [hk]; exact hen
    have hd := okD hen
    have hok := okK k e (en_mem hen).1
    obtain ⟨q0, ins, len, x0, a0, b0⟩ := e
    dsimp only at hd
    unfold okE at hok
    rw [Bool.and_eq_true] at hok
    have hok := hok.2
    unfold nwE at hn
    cases ins with
    | new i =>
      dsimp only at hn
      split at hn
      · next hc =>
        obtain ⟨h13, h3⟩ := hc
        subst h3
        cases hn
        rw [cN_uN, sN_uN] at hb
        have hm : (own k, i, a0) ∈ cks := by
          rcases of_decide_eq_true hok with h9 | h9
          · have h9 : 99 ≤ a0 := h9
            omega
          · exact h9
        have hlk := cks_ok _ hm
        obtain ⟨hins, hini⟩ := ins_in a0 h13
        intro hw hl hs hB p e R s m args below meth c Q D cs2 base sp C H locs ls hH hS hL
        have hF := C.2.2.1
        have hKn := C.2.2.2.1.1 a0 _ (cls_at a0 h13)
        unfold inB at hB
        dsimp only at hB
        refine W.newcK C.1.1 C.1.2.1 C.1.2.2.2.1 (C.1.2.2.2.2 _ hlk) (C.1.2.2.2.2 _ hins) (C.1.2.2.2.2 _ hini) rfl hd (show cN w - cN w0 + 1 ≤ R.cells by omega) (show sN w - sN w0 + (fTL.getD a0 []).length ≤ R.slots by dsimp only at hb; omega) hKn.2.1 rfl fun H1 kC hkC e1 z1 o1 => ?_
        have hsz : H.size = base + w.1.length := hH.1
        have hH1 : hW D cs2 base sp (uN w (0, a0, (fTL.getD a0 []).length)) H1 := by
          refine hW_uN hH hlen z1 o1 ?_
          refine ⟨_, cls_at a0 h13, ?_⟩
          rw [hsz] at e1
          refine (u_born (tyf a0) C.1.2.2.2.2 (lay_in a0 h13) hKn hkC e1 (ty_ok a0 h13)).to (fun j hj => ?_)
          have hj : j < (fTL.getD a0 []).length := hj
          have hf := fck_ok h13 hj
          show defaultValue (tyf a0 j) = vp_V ((List.range (fTL.getD a0 []).length).map (fv base sp (uN w (0, a0, (fTL.getD a0 []).length)) w.1.length a0)) j
          rw [vpV_map hj]
          have eI : wI (uN w (0, a0, (fTL.getD a0 []).length)) w.1.length j = 0 := by simp [wI, uN]
          have eL : wL (uN w (0, a0, (fTL.getD a0 []).length)) w.1.length j = 0 := by simp [wL, uN]
          have eR : wR (uN w (0, a0, (fTL.getD a0 []).length)) w.1.length j = none := by simp [wR, uN]
          unfold fv
          rw [eI, eL, eR]
          unfold fck at hf
          split at hf
          · next h1 h2 => rw [h1, h2]; rfl
          · next h1 h2 => rw [h1, h2]; rfl
          · next h1 h2 => rw [h1, h2]; rfl
          · next h1 h2 => rw [h1, h2]; rfl
          · next h1 h2 => rw [h1, h2]; rfl
          · cases hf
        have hK := kk (okW_uN hw) hl (okS.c (v := vR w.1.length) trivial hs) (by unfold inB; dsimp only; rw [cN_uN, sN_uN]; dsimp only at hb ⊢; omega) p e R s m args below meth c Q D cs2 base sp C H1 locs ls hH1 ⟨Nat.le_trans hS.1 (by omega), fun q h1 h2 => (o1 q (Nat.lt_of_lt_of_le h1 hS.1)).trans (hS.2.1 q h1 h2), hS.2.2⟩ hL
        dsimp only at hK
        rw [cN_uN, sN_uN] at hK
        dsimp only at hK
        rw [show cN w + 1 - cN w0 = cN w - cN w0 + 1 by omega, show sN w + (fTL.getD a0 []).length - sN w0 = sN w - sN w0 + (fTL.getD a0 []).length by omega] at hK
        have e5 : (.ref H.size : Value) :: st.map (tr base sp) = (vR w.1.length :: st).map (tr base sp) := by
          rw [List.map_cons, hsz]
          exact congrArg (· :: _) (rv_lt (by omega)).symm
        show W p l e R s m args below meth c H1 locs _ _ Q (F0 m (pc + 3) ls (.ref H.size :: st.map (tr base sp)))
        rw [e5]
        exact hK
      · cases hn
    | newarray ty =>
      dsimp only at hn
      split at hn
      · next n st1 =>
        split at hn
        · next hc =>
          obtain ⟨hty, hn0, hn1, h2⟩ := hc
          subst h2
          cases hn
          rw [cN_uN, sN_uN] at hb
          dsimp only at hb
          intro hw hl hs hB p e R s m args below meth c Q D cs2 base sp C H locs ls hH hS hL
          have hF := C.2.2.1
          unfold inB at hB
          dsimp only at hB
          have hi : i32 n := hs.h
          have hsz : H.size = base + w.1.length := hH.1
          have hneg : ¬ Int32.ofInt n < 0 := fun z => by
            have := (lt32 hi i32_0).mp z
            omega
          have key : ∀ (hcomp : n.toNat * componentBytes (newarray.typeOf ty) ≤ 536870912) (harr : Jvm.Cond.arrayClass (newarray.typeOf ty) ∈ tb) (hat : ∀ (cA : ClassId) (H1 : Heap), s.vm.findClass ("[" ++ (newarray.typeOf ty).toString) = some cA → H1[base + w.1.length]? = some (arrV cA n.toNat (fun _ => defaultValue (newarray.typeOf ty))) → va_at D classes (base + w.1.length, ct base sp cs2 (uN w (1, tyN ty, n.toNat)) w.1.length (1, tyN ty, n.toNat)) H1), W p l e R s m args below meth c H locs (cN w - cN w0) (sN w - sN w0) Q (F0 m pc ls (.int (Int32.ofInt n) :: st1.map (tr base sp))) := by
            intro hcomp harr hat
            refine va_newaK C.1.1 C.1.2.1 (C.1.2.2.2.2 _ harr) rfl hd rfl hneg (c32 hi) hcomp (show cN w - cN w0 + 1 ≤ R.cells by omega) (show sN w - sN w0 + n.toNat ≤ R.slots by omega) rfl fun H1 cA e1 z1 o1 hAr hNm => ?_
            rw [hsz] at e1
            have hH1 := hW_uN hH hlen z1 o1 (hat cA H1 hNm e1)
            have hK := kk (okW_uN hw) hl (okS.c (v := vR w.1.length) trivial hs.t) (by unfold inB; dsimp only; rw [cN_uN, sN_uN]; dsimp only; omega) p e R s m args below meth c Q D cs2 base sp C H1 locs ls hH1 ⟨Nat.le_trans hS.1 (by omega), fun q h1 h2 => (o1 q (Nat.lt_of_lt_of_le h1 hS.1)).trans (hS.2.1 q h1 h2), hS.2.2⟩ hL
            dsimp only at hK
            rw [cN_uN, sN_uN] at hK
            dsimp only at hK
            rw [show cN w + 1 - cN w0 = cN w - cN w0 + 1 by omega, show sN w + n.toNat - sN w0 = sN w - sN w0 + n.toNat by omega] at hK
            have e5 : (.ref H.size : Value) :: st1.map (tr base sp) = (vR w.1.length :: st1).map (tr base sp) := by
              rw [List.map_cons, hsz]
              exact congrArg (· :: _) (rv_lt (by omega)).symm
            show W p l e R s m args below meth c H1 locs _ _ Q (F0 m (pc + 2) ls (.ref H.size :: st1.map (tr base sp)))
            rw [e5]
            exact hK
          have eI : ∀ (q : Nat × Nat × Nat) j, wI (uN w q) w.1.length j = 0 := fun q j => by simp [wI, uN]
          have eL : ∀ (q : Nat × Nat × Nat) j, wL (uN w q) w.1.length j = 0 := fun q j => by simp [wL, uN]
          cases ty with
          | int =>
            refine key (by show n.toNat * 4 ≤ _; omega) arr_int (fun cA H1 g1 g2 => ?_)
            have hcA : cs2.1 = cA := Option.some.inj ((show s.vm.findClass ("[" ++ FieldType.int.toString) = some cs2.1 from (C.2.2.2.1.2 0 _ rfl).2).symm.trans g1)
            show H1[base + w.1.length]? = some (vp_cell cs2.1 (n.toNat, .inl (fun j => Int32.ofInt (wI (uN w _) w.1.length j))))
            rw [vp_cell_i, g2, hcA]
            simp only [eI]
            rfl
          | boolean =>
            refine key (by show n.toNat * 1 ≤ _; omega) arr_boolean (fun cA H1 g1 g2 => ?_)
            have hcA : cs2.2.1 = cA := Option.some.inj ((show s.vm.findClass ("[" ++ FieldType.boolean.toString) = some cs2.2.1 from (C.2.2.2.1.2 1 _ rfl).2).symm.trans g1)
            show H1[base + w.1.length]? = some (vp_cell cs2.2.1 (n.toNat, .inl (fun j => Int32.ofInt (wI (uN w _) w.1.length j))))
            rw [vp_cell_i, g2, hcA]
            simp only [eI]
            rfl
          | long =>
            refine key (by show n.toNat * 8 ≤ _; omega) arr_long (fun cA H1 g1 g2 => ?_)
            have hcA : cs2.2.2 = cA := Option.some.inj ((show s.vm.findClass ("[" ++ FieldType.long.toString) = some cs2.2.2 from (C.2.2.2.1.2 2 _ rfl).2).symm.trans g1)
            show H1[base + w.1.length]? = some (vp_cell cs2.2.2 (n.toNat, .inr (.inl (fun j => Int64.ofInt (wL (uN w _) w.1.length j)))))
            rw [vp_cell_l, g2, hcA]
            simp only [eL]
            rfl
          | _ => simp [tyN] at hty
        · cases hn
      · cases hn
    | _ => dsimp only at hn; cases hn
theorem rch_tsw {pc : Nat} {lv : List (Option AV)} {st : List AV} {w : AW} {x : Int} {e : AE} {d lo hi : Int} {offs : Array Int} (hk : cod k = cs) (he : en cs pc = some e) (hi_ : e.2.1 = .tableswitch d lo hi offs) (hsz : hi - lo < offs.size) (hd0 : 0 ≤ (pc : Int) + d)
    (hout : x < lo ∨ hi < x → Rch l E h k w0 nc ns Φ (tgt pc d, lv, st, w)) (hin : ∀ (n : Nat) (off : Int), x = lo + (n : Int) → offs[n]? = some off → 0 ≤ (pc : Int) + off ∧ Rch l E h k w0 nc ns Φ (tgt pc off, lv, st, w)) : Rch l E h k w0 nc ns Φ (pc, lv, vI x :: st, w) := by
  have hen : en (cod k) pc = some e := by rw [hk]; exact he
  have hd := okD hen
  rw [hi_] at hd
  intro hw hl hs hB p e2 R s m args below meth c Q D cs2 base sp C H locs ls hH hS hL
  have hx : i32 x := hs.h
  by_cases ho : x < lo ∨ hi < x
  · exact lv_tableOut C.1.1 C.1.2.1 (tgt := tgt pc d) hd (by rw [t32 hx]; exact ho) (by unfold tgt; omega) (hout ho hw hl hs.t hB p e2 R s m args below meth c Q D cs2 base sp C H locs ls hH hS hL)
  · have hn : (x - lo).toNat < offs.size := by omega
    obtain ⟨g1, g2⟩ := hin (x - lo).toNat offs[(x - lo).toNat] (by omega) (Array.getElem?_eq_getElem hn)
    exact lv_tableIn C.1.1 C.1.2.1 (tgt := tgt pc offs[(x - lo).toNat]) hd (by rw [t32 hx]; omega) (by rw [t32 hx]; omega) (by rw [t32 hx]; exact Array.getElem?_eq_getElem hn) (by unfold tgt; omega) (g2 hw hl hs.t hB p e2 R s m args below meth c Q D cs2 base sp C H locs ls hH hS hL)
theorem rch_lsw {pc : Nat} {lv : List (Option AV)} {st : List AV} {w : AW} {x : Int} {e : AE} {d : Int} {ps : Array (Int × Int)} (off : Int) (hk : cod k = cs) (he : en cs pc = some e) (hi_ : e.2.1 = .lookupswitch d ps) (hp : (ps.toList.zip (ps.toList.drop 1)).all (fun (a, next) => a.1 < next.1) = true) (ho : Op.lookupswitch.offset ps.toList d x = off) (hd0 : 0 ≤ (pc : Int) + off)
    (kk : Rch l E h k w0 nc ns Φ (tgt pc off, lv, st, w)) : Rch l E h k w0 nc ns Φ (pc, lv, vI x :: st, w) := by
  have hen : en (cod k) pc = some e := by rw [hk]; exact he
  have hd := okD hen
  rw [hi_] at hd
  intro hw hl hs hB p e2 R s m args below meth c Q D cs2 base sp C H locs ls hH hS hL
  have hx : i32 x := hs.h
  exact lv_lookup C.1.1 C.1.2.1 (tgt := tgt pc off) (off := off) hd hp (by rw [t32 hx]; exact ho) (by unfold tgt; omega) (kk hw hl hs.t hB p e2 R s m args below meth c Q D cs2 base sp C H locs ls hH hS hL)
end RN
end
section
def R_law : String := "GoldenRowsLaw"
def lw_P (b : Addr) (xs : List Int32) (args : Array Value) (s : State) : Prop := args = #[.ref b] ∧ s.IntsAt b xs ∧ xs.length ≤ 3072 ∧ (Jvm.Cond.and given_1 narrow_1).before args s = true
def lw_Q (_ : Array Value) (s : State) (o : Outcome) (t : State) : Prop := o = .returned (some (.int 1)) ∧ Framed s o t [] 600000 7302250
def lw_Z (below : List Frame) (a : Array Value) (s : State) : State → Prop := fun t => ∃ o, t.status = .running ∧ Ended t below o ∧ lw_Q a s o t
/-- the law's own end, with 1 on the stack, nothing written that was there before, its room as the claim has it -/
theorem lw_ret {p : Program} {l : Launch} {e : Env} {s : State} {m : MethodId} {below : List Frame} {meth : Method} {c : Code} {b : Nat} (hx : p.tables.exec = Jvm.exec) (hb : c.code = code) (hr : meth.sig.returnType = ret) (hlocks : meth.locks = false) {pc : Nat} {H : Heap} {ls : Array Slot} (hdg : decode code pc = .ok (.ireturn, 1)) : W p l e room_1 s m #[Value.ref b] below meth c H [] 600000 7302250 (lw_Z below #[Value.ref b] s) (F0 m pc ls [.int 1]) := by
  intro T hT X
  obtain ⟨fs, hret, hrun, hended, hW, hframe⟩ := X.leave (v := some (.int 1)) (hlocks := hlocks) (fun h => by rw [hr] at h; cases h)
  have hmeth' : T.vm.method? m = some meth := X.method'
  refine ⟨T.setFrames fs, ?_, .returned (some (.int 1)), hrun, hended, rfl, ⟨_, rfl⟩, hW, hframe⟩
  jvm_step X.here [X.here.top, hx, hb, hdg, hmeth', hr, ret, narrow_b1]
  (try refine ⟨rfl, ?_⟩); (try refine ⟨rfl, ?_⟩)
  first | (intro acts; rw [hret _ acts rfl rfl rfl]) | rw [hret _ _ rfl rfl rfl]
  exact Steps.refl _
/-- what holds at the law's entry: the machine, the code, the tables' words (any of lw_tbl by 'hts w (by decide +kernel)'), the script of L ints xs at the cell b, what the Statement gives of the start (any of its parts by flat_of_before) -/
def lw_At (p : Program) (s : State) (m : MethodId) (meth : Method) (c : Code) (b L : Nat) (xs : Nat → Int32) : Prop :=
  p.tables.exec = Jvm.exec ∧ c.code = code ∧ meth.sig.returnType = ret ∧ c.maxLocals = 4 ∧ s.vm.findClass R_law = some m.cls ∧ (∀ w ∈ lw_tbl, w.before #[Value.ref b] s = true) ∧ va_X b L xs s s.heap ∧ b < s.heap.size ∧ meth.locks = false ∧ (Jvm.Cond.and given_1 narrow_1).before #[Value.ref b] s = true

def wE : AW := ([], fun _ _ => 0, fun _ _ => 0, fun _ _ => none)
def PhiL : Option AV → AW → Prop := fun rt _ => rt = some (vI 1)
def tmS (i : Nat) : Term := Term.string RX2 (strN.getD i (0, "")).1
abbrev fl1 : List Jvm.Cond := flatC (Jvm.Cond.and given_1 narrow_1)
theorem st_ex : (List.range 10).all (fun i => decide (Jvm.Cond.exactly (tmS i) "java/lang/String" ∈ fl1)) = true := by decide +kernel
theorem st_co : (List.range 10).all (fun i => decide (Jvm.Cond.eq (.field (tmS i) "java/lang/String" "coder" "B") (.int 0) ∈ fl1)) = true := by decide +kernel
theorem st_ar : (List.range 10).all (fun i => decide (Jvm.Cond.arrayOf (.field (tmS i) "java/lang/String" "value" "[B") .byte ∈ fl1)) = true := by decide +kernel
theorem st_le : (List.range 10).all (fun i => decide (Jvm.Cond.eq (.length (.field (tmS i) "java/lang/String" "value" "[B")) (.int (Int32.ofNat ((strB.map List.length).getD i 0))) ∈ fl1)) = true := by decide +kernel
theorem st_el : (List.range 10).all (fun i => (List.range ((strB.map List.length).getD i 0)).all (fun j => decide (Jvm.Cond.eq (.elem (.field (tmS i) "java/lang/String" "value" "[B") (.int (Int32.ofNat j))) (.int (((strB.map (List.map Int32.ofInt)).getD i []).getD j 0)) ∈ fl1))) = true := by decide +kernel
theorem st_ne : (List.range 10).all (fun i => (List.range 10).all (fun j => decide (i = j) || decide (Jvm.Cond.not (Jvm.Cond.eq (tmS i) (tmS j)) ∈ fl1) || decide (Jvm.Cond.not (Jvm.Cond.eq (tmS j) (tmS i)) ∈ fl1))) = true := by decide +kernel
theorem st_rf : subl (strN.map (fun q => Jvm.Cond.stringRef RX2 q.1 q.2)) lw_tbl = true := by decide +kernel
theorem st_cs : Jvm.Cond.eq (.static "java/lang/String" "COMPACT_STRINGS" "Z") (.int 1) ∈ fl1 := by decide +kernel
theorem st_si : Jvm.Cond.isRef (.static "jdk/internal/util/Preconditions" "SIOOBE_FORMATTER" "Ljava/util/function/BiFunction;") ∈ fl1 := by decide +kernel
theorem st_l1 : Jvm.Cond.laysStatic "java/lang/String" "COMPACT_STRINGS" "Z" ∈ lw_tbl := List.mem_of_getElem? (i := 624) (by decide +kernel)
theorem st_l2 : Jvm.Cond.laysStatic "jdk/internal/util/Preconditions" "SIOOBE_FORMATTER" "Ljava/util/function/BiFunction;" ∈ lw_tbl := List.mem_of_getElem? (i := 640) (by decide +kernel)
theorem st_i1 : Jvm.Cond.initialized "java/lang/String" ∈ lw_tbl := List.mem_of_getElem? (i := 73) (by decide +kernel)
theorem st_i2 : Jvm.Cond.initialized "jdk/internal/util/Preconditions" ∈ lw_tbl := List.mem_of_getElem? (i := 75) (by decide +kernel)
theorem st_nl : Jvm.Cond.methodLinkNest RX5 63 (ynm 91) RX11 ∈ lw_tbl := List.mem_of_getElem? (i := 550) (by decide +kernel)
theorem all_r {n : Nat} {p : Nat → Bool} (h : (List.range n).all p = true) {i : Nat} (hi : i < n) : p i = true := List.all_eq_true.mp h i (List.mem_range.mpr hi)
theorem law_start (NC NS : Nat) (hNC : NC ≤ 600000) (hNS : NS ≤ 7302250) (hall : ∀ (l : Launch) (E : AX), E.1 ≤ 3072 → Rch l E 1000 174 wE NC NS PhiL (0, enL [vR 1000] 4, [], wE))
    {p : Program} {e : Env} {s : State} {m : MethodId} {below : List Frame} {meth : Method} {c : Code} (l : Launch) {b L : Nat} {xs : Nat → Int32} (hL : L ≤ 3072) (C0 : lw_At p s m meth c b L xs) : W p l e room_1 s m #[Value.ref b] below meth c s.heap [] 0 0 (lw_Z below #[Value.ref b] s) (entryFrame m ([Value.ref b] : List Value).toArray 4) := by
  obtain ⟨hx, hb, hr, hml, hown, hts, hX, hbl, hlocks, hgv⟩ := id C0
  have hfl := flat_of_before _ hgv
  have htb : ∀ w ∈ tb, w.before #[Value.ref b] s = true := fun w hw => hts w (List.mem_filter.mp hw).1
  have hA : ∀ a : Nat, a < s.heap.size → ¬ (fun q : Nat => s.heap.size ≤ q) a := fun a h1 h2 => by
    have h2 : s.heap.size ≤ a := h2
    omega
  -- the classes
  have hcl : ∀ k, ∃ q : ClassId × (Nat → Nat), k < 13 → u_Kn s (rn_ k) (clT.getD k TX0) (fTL.getD k []).length q.1 q.2 := by
    intro k
    by_cases hk : k < 13
    · obtain ⟨cC, iS, h1⟩ := u_known htb (lay_in k hk) (htb _ (ins_in k hk).1)
      exact ⟨(cC, iS), fun _ => h1⟩
    · exact ⟨(0, fun _ => 0), fun h => absurd h hk⟩
  obtain ⟨fD, hD⟩ := Classical.axiomOfChoice hcl
  -- the arrays' classes
  have harr : ∀ ty : FieldType, (Jvm.Cond.arrayClass ty).before #[Value.ref b] s = true → (∀ C, ty ≠ .object C) → ∃ cA : ClassId, ArrOfT s cA ty ∧ va_RA s cA ty := by
    intro ty h1 h2
    obtain ⟨cA, kA, comp, g1, g2, g3⟩ := Cond.arrayClass_spec h1
    refine ⟨cA, fun n z => ⟨fun k h => (by cases h), kA, g2, comp, g3⟩, ?_⟩
    cases ty <;> first | exact g1 | exact absurd rfl (h2 _)
  obtain ⟨cI, hI1, hI2⟩ := harr .int (htb _ arr_int) (fun _ h => by cases h)
  obtain ⟨cZ, hZ1, hZ2⟩ := harr .boolean (htb _ arr_boolean) (fun _ h => by cases h)
  obtain ⟨cJ, hJ1, hJ2⟩ := harr .long (htb _ arr_long) (fun _ h => by cases h)
  have hK : va_K (fun k => (fD k).1, fun k => (fD k).2) classes (tysO (cI, cZ, cJ)) s := by
    refine ⟨fun k q hq => ?_, fun k q hq => ?_⟩
    · have hk : k < 13 := (List.getElem?_eq_some_iff.mp hq).1
      rw [cls_at k hk] at hq
      cases hq
      exact hD k hk
    · match k, hq with
      | 0, hq => cases hq; exact ⟨hI1, hI2⟩
      | 1, hq => cases hq; exact ⟨hZ1, hZ2⟩
      | 2, hq => cases hq; exact ⟨hJ1, hJ2⟩
      | k + 3, hq => simp [tysO] at hq
  -- the String constants
  obtain ⟨adK, adV, hvS, hev⟩ := vk_Sof (args := #[Value.ref b]) (s := s) (N := 10) (tm := tmS) (len := strB.map List.length) (byt := strB.map (List.map Int32.ofInt)) (A := fun q => s.heap.size ≤ q)
    (fun i _ => by rw [strB_len]; have := (strB_i32 i).2; omega)
    (fun i hi => hfl _ (of_decide_eq_true (all_r st_ex hi))) (fun i hi => hfl _ (of_decide_eq_true (all_r st_co hi))) (fun i hi => hfl _ (of_decide_eq_true (all_r st_ar hi))) (fun i hi => hfl _ (of_decide_eq_true (all_r st_le hi)))
    (fun i hi j hj => hfl _ (of_decide_eq_true (all_r (all_r st_el hi) hj)))
    (fun i j hi hj hij => by
      have := all_r (all_r st_ne hi) hj
      simp only [Bool.or_eq_true, decide_eq_true_eq] at this
      rcases this with (h | h) | h
      · exact absurd h hij
      · exact Or.inl (hfl _ h)
      · exact Or.inr (hfl _ h)) hA
  have hvR : ∀ i, i < 10 → vk_R RX2 (strN.getD i (0, "")).1 (strN.getD i (0, "")).2 (adK i) s := by
    intro i hi
    have h1 : strN.getD i (0, "") ∈ strN := by
      have hl : i < strN.length := hi
      rw [show strN.getD i (0, "") = strN[i] by simp [List.getD, hl]]
      exact List.getElem_mem hl
    have h2 := subl_mem _ _ st_rf _ (List.mem_map.mpr ⟨_, h1, rfl⟩)
    have h3 := hts _ h2
    exact vk_R.of (A := #[]) (by
      have e9 : (Jvm.Cond.stringRef RX2 (strN.getD i (0, "")).1 (strN.getD i (0, "")).2).before #[] s = (Jvm.Cond.stringRef RX2 (strN.getD i (0, "")).1 (strN.getD i (0, "")).2).before #[Value.ref b] s := rfl
      rw [e9]; exact h3) (by
      have h4 := hev i hi
      have e9 : (tmS i).eval #[] s none [] s = (tmS i).eval #[Value.ref b] s none [] s := rfl
      exact e9.trans h4)
  have hz1 := va_Zof (hts _ st_l1) (hts _ st_i1) (va_eqi (hfl _ st_cs)) hA
  have hz2 := va_Zqof (hts _ st_l2) (hts _ st_i2) (hfl _ st_si) hA
  obtain ⟨v5, hv5, hz2⟩ : ∃ v5 : Value, (v5 = .null ∨ ∃ a, v5 = .ref a) ∧ va_Z "jdk/internal/util/Preconditions" "SIOOBE_FORMATTER" "Ljava/util/function/BiFunction;" v5 (fun q => s.heap.size ≤ q) s s.heap := by
    rcases hz2 with h | ⟨t, h⟩
    · exact ⟨_, Or.inl rfl, h⟩
    · exact ⟨_, Or.inr ⟨t, rfl⟩, h⟩
  obtain ⟨sp, s1000, s2000, s3000, s5000, hsp⟩ : ∃ sp : Nat → Value, sp 1000 = .ref b ∧ (∀ i, i < 10 → sp (2000 + i) = .ref (adK i)) ∧ (∀ i, i < 10 → sp (3000 + i) = .ref (adV i)) ∧ sp 5000 = v5 ∧ okSp sp := by
    refine ⟨fun r => if r = 1000 then .ref b else if r < 3000 then .ref (adK (r - 2000)) else if r < 5000 then .ref (adV (r - 3000)) else v5, by simp, fun i hi => ?_, fun i hi => ?_, by simp, ⟨fun r hr => ?_, fun r => ?_⟩⟩
    · dsimp only
      rw [if_neg (by omega), if_pos (by omega), show 2000 + i - 2000 = i by omega]
    · dsimp only
      rw [if_neg (by omega), if_neg (by omega), if_pos (by omega), show 3000 + i - 3000 = i by omega]
    · dsimp only
      split
      · exact ⟨_, rfl⟩
      · split
        · exact ⟨_, rfl⟩
        · exact ⟨_, rfl⟩
    · dsimp only
      split
      · exact Or.inr ⟨_, rfl⟩
      · split
        · exact Or.inr ⟨_, rfl⟩
        · split
          · exact Or.inr ⟨_, rfl⟩
          · exact hv5
  have hSx : Sx (L, xs) s.heap.size sp s s.heap := ⟨⟨adK, adV, fun i hi => ⟨s2000 i hi, s3000 i hi⟩, hvS, hvR⟩, hz1, by rw [s5000]; exact hz2, va_Nw.of rfl (hts _ st_nl), b, s1000, hX, hbl, by omega⟩
  have C : Cx l (L, xs) 1000 174 wE NC NS PhiL p e room_1 s m #[Value.ref b] below meth c (lw_Z below #[Value.ref b] s) (fun k => (fD k).1, fun k => (fD k).2) (cI, cZ, cJ) s.heap.size sp := by
    refine ⟨⟨hx, hb, hml, hown, htb⟩, (fun h => by cases h), ⟨by decide, by decide, hNC, hNS⟩, hK, hsp, hSx, Nat.le_refl _, ?_⟩
    intro H locs ls pc ins rt wf hΦ hcn hsn hw2 hrt hH2 hS2 hd hri hrT
    cases hΦ
    unfold retI at hri
    split at hri
    · next h9 => cases h9
    · refine va_forget (fun q hq => hS2.2.2 q hq) ?_
      refine W.widen (k := 600000) (n := 7302250) hNC hNS ?_
      exact lw_ret hx hb hr hlocks hd
    · next h9 => cases h9
    · cases hri
  rw [lg_entry_eq]
  have hl := hasL_entry (base := s.heap.size) hsp [vR 1000] (n := 4) (by decide)
  have e1 : ([vR 1000] : List AV).map (tr s.heap.size sp) = [Value.ref b] := by
    show [rv s.heap.size sp 1000] = _
    unfold rv
    rw [if_neg (by omega), s1000]
  rw [e1] at hl
  generalize (lg_sl ([Value.ref b]) ++ List.replicate (4 - (lg_sl ([Value.ref b])).length) Slot.unset).toArray = ls at hl ⊢
  have hW0 : hW (fun k => (fD k).1, fun k => (fD k).2) (cI, cZ, cJ) s.heap.size sp wE s.heap := ⟨rfl, by decide, fun k q hq => by simp [wsO, wE] at hq⟩
  have := hall l (L, xs) hL ⟨fun _ _ => i32_0, fun _ _ => i64_0⟩ (okL_en (fun v hv => by rw [List.mem_singleton.mp hv]; trivial) _) (fun v hv => absurd hv List.not_mem_nil) ⟨⟨Nat.le_refl _, Nat.le_add_right _ _⟩, Nat.le_refl _, Nat.le_add_right _ _⟩ p e room_1 s m #[Value.ref b] below meth c _ _ _ _ _ C s.heap [] ls hW0 va_S.rf hl
  simp only [Nat.sub_self] at this
  exact this
end
section
-- the worlds of the constructors
def W1 : AW := uN wE (0, 11, 18)
def W2 : AW := uN W1 (0, 0, 8)
def W3 : AW := uN W2 (1, 0, 10)
def W4 : AW := uR W3 1 3 (some 2)
def W5 : AW := uN W4 (1, 0, 10)
def W6 : AW := uR W5 1 4 (some 3)
def W7 : AW := uN W6 (1, 0, 250)
def W8 : AW := uR W7 1 5 (some 4)
def W9 : AW := uN W8 (1, 0, 250)
def W10 : AW := uR W9 1 6 (some 5)
def W11 : AW := uN W10 (1, 0, 250)
def W12 : AW := uR W11 1 7 (some 6)
def W13 : AW := uR W12 0 3 (some 1)
def W14 : AW := uN W13 (0, 0, 8)
def W15 : AW := uN W14 (1, 0, 10)
def W16 : AW := uR W15 7 3 (some 8)
def W17 : AW := uN W16 (1, 0, 10)
def W18 : AW := uR W17 7 4 (some 9)
def W19 : AW := uN W18 (1, 0, 250)
def W20 : AW := uR W19 7 5 (some 10)
def W21 : AW := uN W20 (1, 0, 250)
def W22 : AW := uR W21 7 6 (some 11)
def W23 : AW := uN W22 (1, 0, 250)
def W24 : AW := uR W23 7 7 (some 12)
def W25 : AW := uR W24 0 4 (some 7)
def W26 : AW := uN W25 (0, 9, 2)
def W27 : AW := uN W26 (1, 0, 36)
def W28 : AW := uR W27 13 0 (some 14)
def W29 : AW := uN W28 (1, 0, 6)
def W30 : AW := uR W29 13 1 (some 15)
def W31 : AW := uI W30 14 0 1
def W32 : AW := uI W31 14 1 1
def W33 : AW := uI W32 14 2 1
def W34 : AW := uI W33 14 3 1
def W35 : AW := uI W34 14 4 1
def W36 : AW := uI W35 14 5 1
def W37 : AW := uI W36 14 6 1
def W38 : AW := uI W37 14 7 1
def W39 : AW := uI W38 14 8 1
def W40 : AW := uI W39 14 9 1
def W41 : AW := uI W40 14 10 1
def W42 : AW := uI W41 14 11 1
def W43 : AW := uI W42 14 12 1
def W44 : AW := uI W43 14 13 1
def W45 : AW := uI W44 14 14 1
def W46 : AW := uI W45 14 15 1
def W47 : AW := uI W46 14 16 1
def W48 : AW := uI W47 14 17 1
def W49 : AW := uI W48 14 18 1
def W50 : AW := uI W49 14 19 1
def W51 : AW := uI W50 14 20 1
def W52 : AW := uI W51 14 21 1
def W53 : AW := uI W52 14 22 1
def W54 : AW := uI W53 14 23 1
def W55 : AW := uI W54 14 24 1
def W56 : AW := uI W55 14 25 1
def W57 : AW := uI W56 14 26 1
def W58 : AW := uI W57 14 27 1
def W59 : AW := uI W58 14 28 1
def W60 : AW := uI W59 14 29 1
def W61 : AW := uI W60 14 30 1
def W62 : AW := uI W61 14 31 1
def W63 : AW := uI W62 14 32 1
def W64 : AW := uI W63 14 33 1
def W65 : AW := uI W64 14 34 1
def W66 : AW := uI W65 14 35 1
def W67 : AW := uR W66 0 5 (some 13)
def W68 : AW := uN W67 (1, 0, 6)
def W69 : AW := uR W68 0 6 (some 16)
def W70 : AW := uN W69 (0, 4, 4)
def W71 : AW := uN W70 (1, 0, 10)
def W72 : AW := uR W71 17 1 (some 18)
def W73 : AW := uN W72 (1, 0, 10)
def W74 : AW := uR W73 17 2 (some 19)
def W75 : AW := uN W74 (1, 1, 10)
def W76 : AW := uR W75 17 3 (some 20)
def W77 : AW := uR W76 0 7 (some 17)
def W78 : AW := uN W77 (0, 7, 7)
def W79 : AW := uN W78 (1, 0, 150)
def W80 : AW := uR W79 21 1 (some 22)
def W81 : AW := uN W80 (1, 0, 150)
def W82 : AW := uR W81 21 2 (some 23)
def W83 : AW := uN W82 (1, 0, 150)
def W84 : AW := uR W83 21 3 (some 24)
def W85 : AW := uN W84 (1, 0, 150)
def W86 : AW := uR W85 21 4 (some 25)
def W87 : AW := uN W86 (1, 0, 150)
def W88 : AW := uR W87 21 5 (some 26)
def W89 : AW := uN W88 (1, 1, 150)
def W90 : AW := uR W89 21 6 (some 27)
def W91 : AW := uR W90 0 8 (some 21)
def W92 : AW := uN W91 (0, 6, 7)
def W93 : AW := uN W92 (1, 0, 500)
def W94 : AW := uR W93 28 5 (some 29)
def W95 : AW := uN W94 (1, 0, 500)
def W96 : AW := uR W95 28 6 (some 30)
def W97 : AW := uR W96 0 9 (some 28)
def W98 : AW := uN W97 (0, 2, 2)
def W99 : AW := uI W98 31 1 (-1)
def W100 : AW := uR W99 0 10 (some 31)
def W101 : AW := uN W100 (0, 1, 6)
def W102 : AW := uN W101 (1, 0, 20)
def W103 : AW := uR W102 32 1 (some 33)
def W104 : AW := uN W103 (1, 0, 20)
def W105 : AW := uR W104 32 2 (some 34)
def W106 : AW := uN W105 (1, 0, 20)
def W107 : AW := uR W106 32 3 (some 35)
def W108 : AW := uN W107 (1, 0, 20)
def W109 : AW := uR W108 32 4 (some 36)
def W110 : AW := uN W109 (1, 0, 20)
def W111 : AW := uR W110 32 5 (some 37)
def W112 : AW := uR W111 0 11 (some 32)
def W113 : AW := uN W112 (0, 1, 6)
def W114 : AW := uN W113 (1, 0, 20)
def W115 : AW := uR W114 38 1 (some 39)
def W116 : AW := uN W115 (1, 0, 20)
def W117 : AW := uR W116 38 2 (some 40)
def W118 : AW := uN W117 (1, 0, 20)
def W119 : AW := uR W118 38 3 (some 41)
def W120 : AW := uN W119 (1, 0, 20)
def W121 : AW := uR W120 38 4 (some 42)
def W122 : AW := uN W121 (1, 0, 20)
def W123 : AW := uR W122 38 5 (some 43)
def W124 : AW := uR W123 0 12 (some 38)
def W125 : AW := uN W124 (0, 5, 6)
def W126 : AW := uN W125 (1, 1, 10)
def W127 : AW := uR W126 44 2 (some 45)
def W128 : AW := uN W127 (1, 0, 60)
def W129 : AW := uR W128 44 3 (some 46)
def W130 : AW := uN W129 (1, 0, 60)
def W131 : AW := uR W130 44 4 (some 47)
def W132 : AW := uN W131 (1, 1, 60)
def W133 : AW := uR W132 44 5 (some 48)
def W134 : AW := uR W133 0 13 (some 44)
def W135 : AW := uN W134 (0, 3, 15)
def W136 : AW := uN W135 (1, 0, 10)
def W137 : AW := uR W136 49 4 (some 50)
def W138 : AW := uN W137 (1, 0, 10)
def W139 : AW := uR W138 49 5 (some 51)
def W140 : AW := uN W139 (1, 0, 10)
def W141 : AW := uR W140 49 6 (some 52)
def W142 : AW := uN W141 (1, 0, 100)
def W143 : AW := uR W142 49 7 (some 53)
def W144 : AW := uN W143 (1, 0, 10)
def W145 : AW := uR W144 49 8 (some 54)
def W146 : AW := uN W145 (1, 0, 10)
def W147 : AW := uR W146 49 9 (some 55)
def W148 : AW := uN W147 (1, 0, 512)
def W149 : AW := uR W148 49 10 (some 56)
def W150 : AW := uN W149 (1, 0, 1024)
def W151 : AW := uR W150 49 11 (some 57)
def W152 : AW := uN W151 (1, 0, 1024)
def W153 : AW := uR W152 49 12 (some 58)
def W154 : AW := uN W153 (1, 2, 512)
def W155 : AW := uR W154 49 13 (some 59)
def W156 : AW := uN W155 (1, 2, 512)
def W157 : AW := uR W156 49 14 (some 60)
def W158 : AW := uR W157 0 14 (some 49)
def W159 : AW := uN W158 (0, 8, 8)
def W160 : AW := uN W159 (1, 0, 10)
def W161 : AW := uR W160 61 4 (some 62)
def W162 : AW := uN W161 (1, 0, 10)
def W163 : AW := uR W162 61 5 (some 63)
def W164 : AW := uN W163 (1, 0, 10)
def W165 : AW := uR W164 61 6 (some 64)
def W166 : AW := uN W165 (1, 0, 10)
def W167 : AW := uR W166 61 7 (some 65)
def W168 : AW := uR W167 0 15 (some 61)
def W169 : AW := uN W168 (0, 10, 4)
def W170 : AW := uN W169 (1, 0, 60)
def W171 : AW := uR W170 66 1 (some 67)
def W172 : AW := uN W171 (1, 0, 60)
def W173 : AW := uR W172 66 2 (some 68)
def W174 : AW := uN W173 (1, 0, 60)
def W175 : AW := uR W174 66 3 (some 69)
def W176 : AW := uR W175 0 16 (some 66)
def W177 : AW := uN W176 (0, 10, 4)
def W178 : AW := uN W177 (1, 0, 60)
def W179 : AW := uR W178 70 1 (some 71)
def W180 : AW := uN W179 (1, 0, 60)
def W181 : AW := uR W180 70 2 (some 72)
def W182 : AW := uN W181 (1, 0, 60)
def W183 : AW := uR W182 70 3 (some 73)
def W184 : AW := uR W183 0 17 (some 70)
def W185 : AW := uN W184 (0, 12, 83)
def W186 : AW := uN W185 (1, 0, 36)
def W187 : AW := uR W186 74 1 (some 75)
def W188 : AW := uN W187 (1, 0, 6)
def W189 : AW := uR W188 74 2 (some 76)
def W190 : AW := uN W189 (1, 0, 6)
def W191 : AW := uR W190 74 3 (some 77)
def W192 : AW := uN W191 (1, 0, 10)
def W193 : AW := uR W192 74 6 (some 78)
def W194 : AW := uN W193 (1, 0, 10)
def W195 : AW := uR W194 74 7 (some 79)
def W196 : AW := uN W195 (1, 1, 10)
def W197 : AW := uR W196 74 8 (some 80)
def W198 : AW := uN W197 (1, 0, 150)
def W199 : AW := uR W198 74 9 (some 81)
def W200 : AW := uN W199 (1, 0, 150)
def W201 : AW := uR W200 74 10 (some 82)
def W202 : AW := uN W201 (1, 0, 150)
def W203 : AW := uR W202 74 11 (some 83)
def W204 : AW := uN W203 (1, 0, 150)
def W205 : AW := uR W204 74 12 (some 84)
def W206 : AW := uN W205 (1, 0, 150)
def W207 : AW := uR W206 74 13 (some 85)
def W208 : AW := uN W207 (1, 1, 150)
def W209 : AW := uR W208 74 14 (some 86)
def W210 : AW := uN W209 (1, 0, 500)
def W211 : AW := uR W210 74 15 (some 87)
def W212 : AW := uN W211 (1, 0, 500)
def W213 : AW := uR W212 74 16 (some 88)
def W214 : AW := uN W213 (1, 0, 500)
def W215 : AW := uR W214 74 17 (some 89)
def W216 : AW := uN W215 (1, 0, 11)
def W217 : AW := uR W216 74 18 (some 90)
def W218 : AW := uN W217 (1, 0, 10)
def W219 : AW := uR W218 74 19 (some 91)
def W220 : AW := uN W219 (1, 0, 500)
def W221 : AW := uR W220 74 21 (some 92)
def W222 : AW := uN W221 (1, 0, 500)
def W223 : AW := uR W222 74 22 (some 93)
def W224 : AW := uN W223 (1, 0, 500)
def W225 : AW := uR W224 74 23 (some 94)
def W226 : AW := uN W225 (1, 0, 11)
def W227 : AW := uR W226 74 24 (some 95)
def W228 : AW := uN W227 (1, 0, 10)
def W229 : AW := uR W228 74 25 (some 96)
def W230 : AW := uN W229 (1, 0, 500)
def W231 : AW := uR W230 74 29 (some 97)
def W232 : AW := uI W231 74 32 (-1)
def W233 : AW := uN W232 (1, 0, 300)
def W234 : AW := uR W233 74 39 (some 98)
def W235 : AW := uN W234 (1, 1, 100)
def W236 : AW := uR W235 74 42 (some 99)
def W237 : AW := uN W236 (1, 0, 20)
def W238 : AW := uR W237 74 45 (some 100)
def W239 : AW := uN W238 (1, 0, 20)
def W240 : AW := uR W239 74 46 (some 101)
def W241 : AW := uN W240 (1, 0, 20)
def W242 : AW := uR W241 74 47 (some 102)
def W243 : AW := uN W242 (1, 0, 20)
def W244 : AW := uR W243 74 48 (some 103)
def W245 : AW := uN W244 (1, 1, 20)
def W246 : AW := uR W245 74 49 (some 104)
def W247 : AW := uN W246 (1, 0, 20)
def W248 : AW := uR W247 74 50 (some 105)
def W249 : AW := uN W248 (1, 0, 20)
def W250 : AW := uR W249 74 51 (some 106)
def W251 : AW := uN W250 (1, 0, 20)
def W252 : AW := uR W251 74 52 (some 107)
def W253 : AW := uN W252 (1, 0, 20)
def W254 : AW := uR W253 74 53 (some 108)
def W255 : AW := uN W254 (1, 0, 20)
def W256 : AW := uR W255 74 54 (some 109)
def W257 : AW := uN W256 (1, 0, 10)
def W258 : AW := uR W257 74 59 (some 110)
def W259 : AW := uN W258 (1, 0, 10)
def W260 : AW := uR W259 74 60 (some 111)
def W261 : AW := uN W260 (1, 0, 10)
def W262 : AW := uR W261 74 61 (some 112)
def W263 : AW := uN W262 (1, 0, 10)
def W264 : AW := uR W263 74 62 (some 113)
def W265 : AW := uN W264 (1, 0, 11)
def W266 : AW := uR W265 74 63 (some 114)
def W267 : AW := uN W266 (1, 0, 11)
def W268 : AW := uR W267 74 64 (some 115)
def W269 : AW := uN W268 (1, 0, 100)
def W270 : AW := uR W269 74 65 (some 116)
def W271 : AW := uN W270 (1, 0, 100)
def W272 : AW := uR W271 74 66 (some 117)
def W273 : AW := uN W272 (1, 0, 10)
def W274 : AW := uR W273 74 70 (some 118)
def W275 : AW := uN W274 (1, 0, 10)
def W276 : AW := uR W275 74 71 (some 119)
def W277 : AW := uN W276 (1, 0, 10)
def W278 : AW := uR W277 74 72 (some 120)
def W279 : AW := uN W278 (1, 2, 10)
def W280 : AW := uR W279 74 73 (some 121)
def W281 : AW := uN W280 (1, 2, 10)
def W282 : AW := uR W281 74 74 (some 122)
def W283 : AW := uN W282 (1, 0, 60)
def W284 : AW := uR W283 74 77 (some 123)
def W285 : AW := uN W284 (1, 0, 60)
def W286 : AW := uR W285 74 78 (some 124)
def W287 : AW := uN W286 (1, 0, 60)
def W288 : AW := uR W287 74 79 (some 125)
def W289 : AW := uN W288 (1, 0, 60)
def W290 : AW := uR W289 74 80 (some 126)
def W291 : AW := uN W290 (1, 0, 60)
def W292 : AW := uR W291 74 81 (some 127)
def W293 : AW := uN W292 (1, 0, 60)
def W294 : AW := uR W293 74 82 (some 128)
def W295 : AW := uI W294 75 0 1
def W296 : AW := uI W295 75 1 1
def W297 : AW := uI W296 75 2 1
def W298 : AW := uI W297 75 3 1
def W299 : AW := uI W298 75 4 1
def W300 : AW := uI W299 75 5 1
def W301 : AW := uI W300 75 6 1
def W302 : AW := uI W301 75 7 1
def W303 : AW := uI W302 75 8 1
def W304 : AW := uI W303 75 9 1
def W305 : AW := uI W304 75 10 1
def W306 : AW := uI W305 75 11 1
def W307 : AW := uI W306 75 12 1
def W308 : AW := uI W307 75 13 1
def W309 : AW := uI W308 75 14 1
def W310 : AW := uI W309 75 15 1
def W311 : AW := uI W310 75 16 1
def W312 : AW := uI W311 75 17 1
def W313 : AW := uI W312 75 18 1
def W314 : AW := uI W313 75 19 1
def W315 : AW := uI W314 75 20 1
def W316 : AW := uI W315 75 21 1
def W317 : AW := uI W316 75 22 1
def W318 : AW := uI W317 75 23 1
def W319 : AW := uI W318 75 24 1
def W320 : AW := uI W319 75 25 1
def W321 : AW := uI W320 75 26 1
def W322 : AW := uI W321 75 27 1
def W323 : AW := uI W322 75 28 1
def W324 : AW := uI W323 75 29 1
def W325 : AW := uI W324 75 30 1
def W326 : AW := uI W325 75 31 1
def W327 : AW := uI W326 75 32 1
def W328 : AW := uI W327 75 33 1
def W329 : AW := uI W328 75 34 1
def W330 : AW := uI W329 75 35 1
end
section
set_option maxRecDepth 100000 in
theorem con_X0_init_1 (l : Launch) (E : AX) : Con l E 1 0 [vR 1] W2 5 770 (fun rt w => rt = none ∧ w = W12) := by
  refine con_intro (by decide) (by decide) ?_
  show Rch l E 1 0 _ _ _ _ (0, [some (vR 1)], [], W2)
  refine rch_run rfl (by decide) 4 (t' := (7, [some (vR 1)], [vI 10, vR 1], W2)) (ps := []) rfl trivial ?_
  refine rch_new rfl (t' := (9, [some (vR 1)], [vR 2, vR 1], W3)) rfl ⟨by decide, by decide⟩ (by decide) ?_
  refine rch_run rfl (by decide) 3 (t' := (15, [some (vR 1)], [vI 10, vR 1], W4)) (ps := []) rfl trivial ?_
  refine rch_new rfl (t' := (17, [some (vR 1)], [vR 3, vR 1], W5)) rfl ⟨by decide, by decide⟩ (by decide) ?_
  refine rch_run rfl (by decide) 3 (t' := (24, [some (vR 1)], [vI 250, vR 1], W6)) (ps := []) rfl trivial ?_
  refine rch_new rfl (t' := (26, [some (vR 1)], [vR 4, vR 1], W7)) rfl ⟨by decide, by decide⟩ (by decide) ?_
  refine rch_run rfl (by decide) 3 (t' := (33, [some (vR 1)], [vI 250, vR 1], W8)) (ps := []) rfl trivial ?_
  refine rch_new rfl (t' := (35, [some (vR 1)], [vR 5, vR 1], W9)) rfl ⟨by decide, by decide⟩ (by decide) ?_
  refine rch_run rfl (by decide) 3 (t' := (42, [some (vR 1)], [vI 250, vR 1], W10)) (ps := []) rfl trivial ?_
  refine rch_new rfl (t' := (44, [some (vR 1)], [vR 6, vR 1], W11)) rfl ⟨by decide, by decide⟩ (by decide) ?_
  refine rch_run rfl (by decide) 1 (t' := (47, [some (vR 1)], [], W12)) (ps := []) rfl trivial ?_
  exact rch_ret rfl (rt := none) rfl trivial ⟨by decide, by decide⟩ ⟨rfl, rfl⟩

set_option maxRecDepth 100000 in
theorem con_X0_init_7 (l : Launch) (E : AX) : Con l E 1 0 [vR 7] W14 5 770 (fun rt w => rt = none ∧ w = W24) := by
  refine con_intro (by decide) (by decide) ?_
  show Rch l E 1 0 _ _ _ _ (0, [some (vR 7)], [], W14)
  refine rch_run rfl (by decide) 4 (t' := (7, [some (vR 7)], [vI 10, vR 7], W14)) (ps := []) rfl trivial ?_
  refine rch_new rfl (t' := (9, [some (vR 7)], [vR 8, vR 7], W15)) rfl ⟨by decide, by decide⟩ (by decide) ?_
  refine rch_run rfl (by decide) 3 (t' := (15, [some (vR 7)], [vI 10, vR 7], W16)) (ps := []) rfl trivial ?_
  refine rch_new rfl (t' := (17, [some (vR 7)], [vR 9, vR 7], W17)) rfl ⟨by decide, by decide⟩ (by decide) ?_
  refine rch_run rfl (by decide) 3 (t' := (24, [some (vR 7)], [vI 250, vR 7], W18)) (ps := []) rfl trivial ?_
  refine rch_new rfl (t' := (26, [some (vR 7)], [vR 10, vR 7], W19)) rfl ⟨by decide, by decide⟩ (by decide) ?_
  refine rch_run rfl (by decide) 3 (t' := (33, [some (vR 7)], [vI 250, vR 7], W20)) (ps := []) rfl trivial ?_
  refine rch_new rfl (t' := (35, [some (vR 7)], [vR 11, vR 7], W21)) rfl ⟨by decide, by decide⟩ (by decide) ?_
  refine rch_run rfl (by decide) 3 (t' := (42, [some (vR 7)], [vI 250, vR 7], W22)) (ps := []) rfl trivial ?_
  refine rch_new rfl (t' := (44, [some (vR 7)], [vR 12, vR 7], W23)) rfl ⟨by decide, by decide⟩ (by decide) ?_
  refine rch_run rfl (by decide) 1 (t' := (47, [some (vR 7)], [], W24)) (ps := []) rfl trivial ?_
  exact rch_ret rfl (rt := none) rfl trivial ⟨by decide, by decide⟩ ⟨rfl, rfl⟩

set_option maxRecDepth 100000 in
theorem con_X9_init_13 (l : Launch) (E : AX) : Con l E 1 56 [vR 13] W26 2 42 (fun rt w => rt = none ∧ w = W66) := by
  refine con_intro (by decide) (by decide) ?_
  show Rch l E 1 56 _ _ _ _ (0, [some (vR 13), none], [], W26)
  refine rch_run rfl (by decide) 4 (t' := (7, [some (vR 13), none], [vI 36, vR 13], W26)) (ps := []) rfl trivial ?_
  refine rch_new rfl (t' := (9, [some (vR 13), none], [vR 14, vR 13], W27)) rfl ⟨by decide, by decide⟩ (by decide) ?_
  refine rch_run rfl (by decide) 3 (t' := (15, [some (vR 13), none], [vI 6, vR 13], W28)) (ps := []) rfl trivial ?_
  refine rch_new rfl (t' := (17, [some (vR 13), none], [vR 15, vR 13], W29)) rfl ⟨by decide, by decide⟩ (by decide) ?_
  refine rch_run rfl (by decide) 7 (t' := (28, [some (vR 13), some (vI 0)], [vI 36, vI 0], W30)) (ps := []) rfl trivial ?_
  refine rch_br rfl (cd := (36 : Int) ≤ 0) (t1 := (44, [some (vR 13), some (vI 0)], [], W30)) (t2 := (31, [some (vR 13), some (vI 0)], [], W30)) rfl (fun c9 => absurd c9 (by decide)) (fun _ => ?_)
  refine rch_run rfl (by decide) 11 (t' := (28, [some (vR 13), some (vI 1)], [vI 36, vI 1], W31)) (ps := [0 ≤ 0 ∧ 0 < ((36 : Nat) : Int), i32 (0 + 1)]) rfl (by simp only [all_, i32]; decide) ?_
  refine rch_br rfl (cd := (36 : Int) ≤ 1) (t1 := (44, [some (vR 13), some (vI 1)], [], W31)) (t2 := (31, [some (vR 13), some (vI 1)], [], W31)) rfl (fun c9 => absurd c9 (by decide)) (fun _ => ?_)
  refine rch_run rfl (by decide) 11 (t' := (28, [some (vR 13), some (vI 2)], [vI 36, vI 2], W32)) (ps := [0 ≤ 1 ∧ 1 < ((36 : Nat) : Int), i32 (1 + 1)]) rfl (by simp only [all_, i32]; decide) ?_
  refine rch_br rfl (cd := (36 : Int) ≤ 2) (t1 := (44, [some (vR 13), some (vI 2)], [], W32)) (t2 := (31, [some (vR 13), some (vI 2)], [], W32)) rfl (fun c9 => absurd c9 (by decide)) (fun _ => ?_)
  refine rch_run rfl (by decide) 11 (t' := (28, [some (vR 13), some (vI 3)], [vI 36, vI 3], W33)) (ps := [0 ≤ 2 ∧ 2 < ((36 : Nat) : Int), i32 (2 + 1)]) rfl (by simp only [all_, i32]; decide) ?_
  refine rch_br rfl (cd := (36 : Int) ≤ 3) (t1 := (44, [some (vR 13), some (vI 3)], [], W33)) (t2 := (31, [some (vR 13), some (vI 3)], [], W33)) rfl (fun c9 => absurd c9 (by decide)) (fun _ => ?_)
  refine rch_run rfl (by decide) 11 (t' := (28, [some (vR 13), some (vI 4)], [vI 36, vI 4], W34)) (ps := [0 ≤ 3 ∧ 3 < ((36 : Nat) : Int), i32 (3 + 1)]) rfl (by simp only [all_, i32]; decide) ?_
  refine rch_br rfl (cd := (36 : Int) ≤ 4) (t1 := (44, [some (vR 13), some (vI 4)], [], W34)) (t2 := (31, [some (vR 13), some (vI 4)], [], W34)) rfl (fun c9 => absurd c9 (by decide)) (fun _ => ?_)
  refine rch_run rfl (by decide) 11 (t' := (28, [some (vR 13), some (vI 5)], [vI 36, vI 5], W35)) (ps := [0 ≤ 4 ∧ 4 < ((36 : Nat) : Int), i32 (4 + 1)]) rfl (by simp only [all_, i32]; decide) ?_
  refine rch_br rfl (cd := (36 : Int) ≤ 5) (t1 := (44, [some (vR 13), some (vI 5)], [], W35)) (t2 := (31, [some (vR 13), some (vI 5)], [], W35)) rfl (fun c9 => absurd c9 (by decide)) (fun _ => ?_)
  refine rch_run rfl (by decide) 11 (t' := (28, [some (vR 13), some (vI 6)], [vI 36, vI 6], W36)) (ps := [0 ≤ 5 ∧ 5 < ((36 : Nat) : Int), i32 (5 + 1)]) rfl (by simp only [all_, i32]; decide) ?_
  refine rch_br rfl (cd := (36 : Int) ≤ 6) (t1 := (44, [some (vR 13), some (vI 6)], [], W36)) (t2 := (31, [some (vR 13), some (vI 6)], [], W36)) rfl (fun c9 => absurd c9 (by decide)) (fun _ => ?_)
  refine rch_run rfl (by decide) 11 (t' := (28, [some (vR 13), some (vI 7)], [vI 36, vI 7], W37)) (ps := [0 ≤ 6 ∧ 6 < ((36 : Nat) : Int), i32 (6 + 1)]) rfl (by simp only [all_, i32]; decide) ?_
  refine rch_br rfl (cd := (36 : Int) ≤ 7) (t1 := (44, [some (vR 13), some (vI 7)], [], W37)) (t2 := (31, [some (vR 13), some (vI 7)], [], W37)) rfl (fun c9 => absurd c9 (by decide)) (fun _ => ?_)
  refine rch_run rfl (by decide) 11 (t' := (28, [some (vR 13), some (vI 8)], [vI 36, vI 8], W38)) (ps := [0 ≤ 7 ∧ 7 < ((36 : Nat) : Int), i32 (7 + 1)]) rfl (by simp only [all_, i32]; decide) ?_
  refine rch_br rfl (cd := (36 : Int) ≤ 8) (t1 := (44, [some (vR 13), some (vI 8)], [], W38)) (t2 := (31, [some (vR 13), some (vI 8)], [], W38)) rfl (fun c9 => absurd c9 (by decide)) (fun _ => ?_)
  refine rch_run rfl (by decide) 11 (t' := (28, [some (vR 13), some (vI 9)], [vI 36, vI 9], W39)) (ps := [0 ≤ 8 ∧ 8 < ((36 : Nat) : Int), i32 (8 + 1)]) rfl (by simp only [all_, i32]; decide) ?_
  refine rch_br rfl (cd := (36 : Int) ≤ 9) (t1 := (44, [some (vR 13), some (vI 9)], [], W39)) (t2 := (31, [some (vR 13), some (vI 9)], [], W39)) rfl (fun c9 => absurd c9 (by decide)) (fun _ => ?_)
  refine rch_run rfl (by decide) 11 (t' := (28, [some (vR 13), some (vI 10)], [vI 36, vI 10], W40)) (ps := [0 ≤ 9 ∧ 9 < ((36 : Nat) : Int), i32 (9 + 1)]) rfl (by simp only [all_, i32]; decide) ?_
  refine rch_br rfl (cd := (36 : Int) ≤ 10) (t1 := (44, [some (vR 13), some (vI 10)], [], W40)) (t2 := (31, [some (vR 13), some (vI 10)], [], W40)) rfl (fun c9 => absurd c9 (by decide)) (fun _ => ?_)
  refine rch_run rfl (by decide) 11 (t' := (28, [some (vR 13), some (vI 11)], [vI 36, vI 11], W41)) (ps := [0 ≤ 10 ∧ 10 < ((36 : Nat) : Int), i32 (10 + 1)]) rfl (by simp only [all_, i32]; decide) ?_
  refine rch_br rfl (cd := (36 : Int) ≤ 11) (t1 := (44, [some (vR 13), some (vI 11)], [], W41)) (t2 := (31, [some (vR 13), some (vI 11)], [], W41)) rfl (fun c9 => absurd c9 (by decide)) (fun _ => ?_)
  refine rch_run rfl (by decide) 11 (t' := (28, [some (vR 13), some (vI 12)], [vI 36, vI 12], W42)) (ps := [0 ≤ 11 ∧ 11 < ((36 : Nat) : Int), i32 (11 + 1)]) rfl (by simp only [all_, i32]; decide) ?_
  refine rch_br rfl (cd := (36 : Int) ≤ 12) (t1 := (44, [some (vR 13), some (vI 12)], [], W42)) (t2 := (31, [some (vR 13), some (vI 12)], [], W42)) rfl (fun c9 => absurd c9 (by decide)) (fun _ => ?_)
  refine rch_run rfl (by decide) 11 (t' := (28, [some (vR 13), some (vI 13)], [vI 36, vI 13], W43)) (ps := [0 ≤ 12 ∧ 12 < ((36 : Nat) : Int), i32 (12 + 1)]) rfl (by simp only [all_, i32]; decide) ?_
  refine rch_br rfl (cd := (36 : Int) ≤ 13) (t1 := (44, [some (vR 13), some (vI 13)], [], W43)) (t2 := (31, [some (vR 13), some (vI 13)], [], W43)) rfl (fun c9 => absurd c9 (by decide)) (fun _ => ?_)
  refine rch_run rfl (by decide) 11 (t' := (28, [some (vR 13), some (vI 14)], [vI 36, vI 14], W44)) (ps := [0 ≤ 13 ∧ 13 < ((36 : Nat) : Int), i32 (13 + 1)]) rfl (by simp only [all_, i32]; decide) ?_
  refine rch_br rfl (cd := (36 : Int) ≤ 14) (t1 := (44, [some (vR 13), some (vI 14)], [], W44)) (t2 := (31, [some (vR 13), some (vI 14)], [], W44)) rfl (fun c9 => absurd c9 (by decide)) (fun _ => ?_)
  refine rch_run rfl (by decide) 11 (t' := (28, [some (vR 13), some (vI 15)], [vI 36, vI 15], W45)) (ps := [0 ≤ 14 ∧ 14 < ((36 : Nat) : Int), i32 (14 + 1)]) rfl (by simp only [all_, i32]; decide) ?_
  refine rch_br rfl (cd := (36 : Int) ≤ 15) (t1 := (44, [some (vR 13), some (vI 15)], [], W45)) (t2 := (31, [some (vR 13), some (vI 15)], [], W45)) rfl (fun c9 => absurd c9 (by decide)) (fun _ => ?_)
  refine rch_run rfl (by decide) 11 (t' := (28, [some (vR 13), some (vI 16)], [vI 36, vI 16], W46)) (ps := [0 ≤ 15 ∧ 15 < ((36 : Nat) : Int), i32 (15 + 1)]) rfl (by simp only [all_, i32]; decide) ?_
  refine rch_br rfl (cd := (36 : Int) ≤ 16) (t1 := (44, [some (vR 13), some (vI 16)], [], W46)) (t2 := (31, [some (vR 13), some (vI 16)], [], W46)) rfl (fun c9 => absurd c9 (by decide)) (fun _ => ?_)
  refine rch_run rfl (by decide) 11 (t' := (28, [some (vR 13), some (vI 17)], [vI 36, vI 17], W47)) (ps := [0 ≤ 16 ∧ 16 < ((36 : Nat) : Int), i32 (16 + 1)]) rfl (by simp only [all_, i32]; decide) ?_
  refine rch_br rfl (cd := (36 : Int) ≤ 17) (t1 := (44, [some (vR 13), some (vI 17)], [], W47)) (t2 := (31, [some (vR 13), some (vI 17)], [], W47)) rfl (fun c9 => absurd c9 (by decide)) (fun _ => ?_)
  refine rch_run rfl (by decide) 11 (t' := (28, [some (vR 13), some (vI 18)], [vI 36, vI 18], W48)) (ps := [0 ≤ 17 ∧ 17 < ((36 : Nat) : Int), i32 (17 + 1)]) rfl (by simp only [all_, i32]; decide) ?_
  refine rch_br rfl (cd := (36 : Int) ≤ 18) (t1 := (44, [some (vR 13), some (vI 18)], [], W48)) (t2 := (31, [some (vR 13), some (vI 18)], [], W48)) rfl (fun c9 => absurd c9 (by decide)) (fun _ => ?_)
  refine rch_run rfl (by decide) 11 (t' := (28, [some (vR 13), some (vI 19)], [vI 36, vI 19], W49)) (ps := [0 ≤ 18 ∧ 18 < ((36 : Nat) : Int), i32 (18 + 1)]) rfl (by simp only [all_, i32]; decide) ?_
  refine rch_br rfl (cd := (36 : Int) ≤ 19) (t1 := (44, [some (vR 13), some (vI 19)], [], W49)) (t2 := (31, [some (vR 13), some (vI 19)], [], W49)) rfl (fun c9 => absurd c9 (by decide)) (fun _ => ?_)
  refine rch_run rfl (by decide) 11 (t' := (28, [some (vR 13), some (vI 20)], [vI 36, vI 20], W50)) (ps := [0 ≤ 19 ∧ 19 < ((36 : Nat) : Int), i32 (19 + 1)]) rfl (by simp only [all_, i32]; decide) ?_
  refine rch_br rfl (cd := (36 : Int) ≤ 20) (t1 := (44, [some (vR 13), some (vI 20)], [], W50)) (t2 := (31, [some (vR 13), some (vI 20)], [], W50)) rfl (fun c9 => absurd c9 (by decide)) (fun _ => ?_)
  refine rch_run rfl (by decide) 11 (t' := (28, [some (vR 13), some (vI 21)], [vI 36, vI 21], W51)) (ps := [0 ≤ 20 ∧ 20 < ((36 : Nat) : Int), i32 (20 + 1)]) rfl (by simp only [all_, i32]; decide) ?_
  refine rch_br rfl (cd := (36 : Int) ≤ 21) (t1 := (44, [some (vR 13), some (vI 21)], [], W51)) (t2 := (31, [some (vR 13), some (vI 21)], [], W51)) rfl (fun c9 => absurd c9 (by decide)) (fun _ => ?_)
  refine rch_run rfl (by decide) 11 (t' := (28, [some (vR 13), some (vI 22)], [vI 36, vI 22], W52)) (ps := [0 ≤ 21 ∧ 21 < ((36 : Nat) : Int), i32 (21 + 1)]) rfl (by simp only [all_, i32]; decide) ?_
  refine rch_br rfl (cd := (36 : Int) ≤ 22) (t1 := (44, [some (vR 13), some (vI 22)], [], W52)) (t2 := (31, [some (vR 13), some (vI 22)], [], W52)) rfl (fun c9 => absurd c9 (by decide)) (fun _ => ?_)
  refine rch_run rfl (by decide) 11 (t' := (28, [some (vR 13), some (vI 23)], [vI 36, vI 23], W53)) (ps := [0 ≤ 22 ∧ 22 < ((36 : Nat) : Int), i32 (22 + 1)]) rfl (by simp only [all_, i32]; decide) ?_
  refine rch_br rfl (cd := (36 : Int) ≤ 23) (t1 := (44, [some (vR 13), some (vI 23)], [], W53)) (t2 := (31, [some (vR 13), some (vI 23)], [], W53)) rfl (fun c9 => absurd c9 (by decide)) (fun _ => ?_)
  refine rch_run rfl (by decide) 11 (t' := (28, [some (vR 13), some (vI 24)], [vI 36, vI 24], W54)) (ps := [0 ≤ 23 ∧ 23 < ((36 : Nat) : Int), i32 (23 + 1)]) rfl (by simp only [all_, i32]; decide) ?_
  refine rch_br rfl (cd := (36 : Int) ≤ 24) (t1 := (44, [some (vR 13), some (vI 24)], [], W54)) (t2 := (31, [some (vR 13), some (vI 24)], [], W54)) rfl (fun c9 => absurd c9 (by decide)) (fun _ => ?_)
  refine rch_run rfl (by decide) 11 (t' := (28, [some (vR 13), some (vI 25)], [vI 36, vI 25], W55)) (ps := [0 ≤ 24 ∧ 24 < ((36 : Nat) : Int), i32 (24 + 1)]) rfl (by simp only [all_, i32]; decide) ?_
  refine rch_br rfl (cd := (36 : Int) ≤ 25) (t1 := (44, [some (vR 13), some (vI 25)], [], W55)) (t2 := (31, [some (vR 13), some (vI 25)], [], W55)) rfl (fun c9 => absurd c9 (by decide)) (fun _ => ?_)
  refine rch_run rfl (by decide) 11 (t' := (28, [some (vR 13), some (vI 26)], [vI 36, vI 26], W56)) (ps := [0 ≤ 25 ∧ 25 < ((36 : Nat) : Int), i32 (25 + 1)]) rfl (by simp only [all_, i32]; decide) ?_
  refine rch_br rfl (cd := (36 : Int) ≤ 26) (t1 := (44, [some (vR 13), some (vI 26)], [], W56)) (t2 := (31, [some (vR 13), some (vI 26)], [], W56)) rfl (fun c9 => absurd c9 (by decide)) (fun _ => ?_)
  refine rch_run rfl (by decide) 11 (t' := (28, [some (vR 13), some (vI 27)], [vI 36, vI 27], W57)) (ps := [0 ≤ 26 ∧ 26 < ((36 : Nat) : Int), i32 (26 + 1)]) rfl (by simp only [all_, i32]; decide) ?_
  refine rch_br rfl (cd := (36 : Int) ≤ 27) (t1 := (44, [some (vR 13), some (vI 27)], [], W57)) (t2 := (31, [some (vR 13), some (vI 27)], [], W57)) rfl (fun c9 => absurd c9 (by decide)) (fun _ => ?_)
  refine rch_run rfl (by decide) 11 (t' := (28, [some (vR 13), some (vI 28)], [vI 36, vI 28], W58)) (ps := [0 ≤ 27 ∧ 27 < ((36 : Nat) : Int), i32 (27 + 1)]) rfl (by simp only [all_, i32]; decide) ?_
  refine rch_br rfl (cd := (36 : Int) ≤ 28) (t1 := (44, [some (vR 13), some (vI 28)], [], W58)) (t2 := (31, [some (vR 13), some (vI 28)], [], W58)) rfl (fun c9 => absurd c9 (by decide)) (fun _ => ?_)
  refine rch_run rfl (by decide) 11 (t' := (28, [some (vR 13), some (vI 29)], [vI 36, vI 29], W59)) (ps := [0 ≤ 28 ∧ 28 < ((36 : Nat) : Int), i32 (28 + 1)]) rfl (by simp only [all_, i32]; decide) ?_
  refine rch_br rfl (cd := (36 : Int) ≤ 29) (t1 := (44, [some (vR 13), some (vI 29)], [], W59)) (t2 := (31, [some (vR 13), some (vI 29)], [], W59)) rfl (fun c9 => absurd c9 (by decide)) (fun _ => ?_)
  refine rch_run rfl (by decide) 11 (t' := (28, [some (vR 13), some (vI 30)], [vI 36, vI 30], W60)) (ps := [0 ≤ 29 ∧ 29 < ((36 : Nat) : Int), i32 (29 + 1)]) rfl (by simp only [all_, i32]; decide) ?_
  refine rch_br rfl (cd := (36 : Int) ≤ 30) (t1 := (44, [some (vR 13), some (vI 30)], [], W60)) (t2 := (31, [some (vR 13), some (vI 30)], [], W60)) rfl (fun c9 => absurd c9 (by decide)) (fun _ => ?_)
  refine rch_run rfl (by decide) 11 (t' := (28, [some (vR 13), some (vI 31)], [vI 36, vI 31], W61)) (ps := [0 ≤ 30 ∧ 30 < ((36 : Nat) : Int), i32 (30 + 1)]) rfl (by simp only [all_, i32]; decide) ?_
  refine rch_br rfl (cd := (36 : Int) ≤ 31) (t1 := (44, [some (vR 13), some (vI 31)], [], W61)) (t2 := (31, [some (vR 13), some (vI 31)], [], W61)) rfl (fun c9 => absurd c9 (by decide)) (fun _ => ?_)
  refine rch_run rfl (by decide) 11 (t' := (28, [some (vR 13), some (vI 32)], [vI 36, vI 32], W62)) (ps := [0 ≤ 31 ∧ 31 < ((36 : Nat) : Int), i32 (31 + 1)]) rfl (by simp only [all_, i32]; decide) ?_
  refine rch_br rfl (cd := (36 : Int) ≤ 32) (t1 := (44, [some (vR 13), some (vI 32)], [], W62)) (t2 := (31, [some (vR 13), some (vI 32)], [], W62)) rfl (fun c9 => absurd c9 (by decide)) (fun _ => ?_)
  refine rch_run rfl (by decide) 11 (t' := (28, [some (vR 13), some (vI 33)], [vI 36, vI 33], W63)) (ps := [0 ≤ 32 ∧ 32 < ((36 : Nat) : Int), i32 (32 + 1)]) rfl (by simp only [all_, i32]; decide) ?_
  refine rch_br rfl (cd := (36 : Int) ≤ 33) (t1 := (44, [some (vR 13), some (vI 33)], [], W63)) (t2 := (31, [some (vR 13), some (vI 33)], [], W63)) rfl (fun c9 => absurd c9 (by decide)) (fun _ => ?_)
  refine rch_run rfl (by decide) 11 (t' := (28, [some (vR 13), some (vI 34)], [vI 36, vI 34], W64)) (ps := [0 ≤ 33 ∧ 33 < ((36 : Nat) : Int), i32 (33 + 1)]) rfl (by simp only [all_, i32]; decide) ?_
  refine rch_br rfl (cd := (36 : Int) ≤ 34) (t1 := (44, [some (vR 13), some (vI 34)], [], W64)) (t2 := (31, [some (vR 13), some (vI 34)], [], W64)) rfl (fun c9 => absurd c9 (by decide)) (fun _ => ?_)
  refine rch_run rfl (by decide) 11 (t' := (28, [some (vR 13), some (vI 35)], [vI 36, vI 35], W65)) (ps := [0 ≤ 34 ∧ 34 < ((36 : Nat) : Int), i32 (34 + 1)]) rfl (by simp only [all_, i32]; decide) ?_
  refine rch_br rfl (cd := (36 : Int) ≤ 35) (t1 := (44, [some (vR 13), some (vI 35)], [], W65)) (t2 := (31, [some (vR 13), some (vI 35)], [], W65)) rfl (fun c9 => absurd c9 (by decide)) (fun _ => ?_)
  refine rch_run rfl (by decide) 11 (t' := (28, [some (vR 13), some (vI 36)], [vI 36, vI 36], W66)) (ps := [0 ≤ 35 ∧ 35 < ((36 : Nat) : Int), i32 (35 + 1)]) rfl (by simp only [all_, i32]; decide) ?_
  refine rch_br rfl (cd := (36 : Int) ≤ 36) (t1 := (44, [some (vR 13), some (vI 36)], [], W66)) (t2 := (31, [some (vR 13), some (vI 36)], [], W66)) rfl (fun _ => ?_) (fun c9 => absurd (by decide) c9)
  exact rch_ret rfl (rt := none) rfl trivial ⟨by decide, by decide⟩ ⟨rfl, rfl⟩

set_option maxRecDepth 100000 in
theorem con_X4_init_17 (l : Launch) (E : AX) : Con l E 1 30 [vR 17] W70 3 30 (fun rt w => rt = none ∧ w = W76) := by
  refine con_intro (by decide) (by decide) ?_
  show Rch l E 1 30 _ _ _ _ (0, [some (vR 17)], [], W70)
  refine rch_run rfl (by decide) 4 (t' := (7, [some (vR 17)], [vI 10, vR 17], W70)) (ps := []) rfl trivial ?_
  refine rch_new rfl (t' := (9, [some (vR 17)], [vR 18, vR 17], W71)) rfl ⟨by decide, by decide⟩ (by decide) ?_
  refine rch_run rfl (by decide) 3 (t' := (15, [some (vR 17)], [vI 10, vR 17], W72)) (ps := []) rfl trivial ?_
  refine rch_new rfl (t' := (17, [some (vR 17)], [vR 19, vR 17], W73)) rfl ⟨by decide, by decide⟩ (by decide) ?_
  refine rch_run rfl (by decide) 3 (t' := (23, [some (vR 17)], [vI 10, vR 17], W74)) (ps := []) rfl trivial ?_
  refine rch_new rfl (t' := (25, [some (vR 17)], [vR 20, vR 17], W75)) rfl ⟨by decide, by decide⟩ (by decide) ?_
  refine rch_run rfl (by decide) 1 (t' := (28, [some (vR 17)], [], W76)) (ps := []) rfl trivial ?_
  exact rch_ret rfl (rt := none) rfl trivial ⟨by decide, by decide⟩ ⟨rfl, rfl⟩

set_option maxRecDepth 100000 in
theorem con_X7_init_21 (l : Launch) (E : AX) : Con l E 1 46 [vR 21] W78 6 900 (fun rt w => rt = none ∧ w = W90) := by
  refine con_intro (by decide) (by decide) ?_
  show Rch l E 1 46 _ _ _ _ (0, [some (vR 21)], [], W78)
  refine rch_run rfl (by decide) 4 (t' := (8, [some (vR 21)], [vI 150, vR 21], W78)) (ps := []) rfl trivial ?_
  refine rch_new rfl (t' := (10, [some (vR 21)], [vR 22, vR 21], W79)) rfl ⟨by decide, by decide⟩ (by decide) ?_
  refine rch_run rfl (by decide) 3 (t' := (17, [some (vR 21)], [vI 150, vR 21], W80)) (ps := []) rfl trivial ?_
  refine rch_new rfl (t' := (19, [some (vR 21)], [vR 23, vR 21], W81)) rfl ⟨by decide, by decide⟩ (by decide) ?_
  refine rch_run rfl (by decide) 3 (t' := (26, [some (vR 21)], [vI 150, vR 21], W82)) (ps := []) rfl trivial ?_
  refine rch_new rfl (t' := (28, [some (vR 21)], [vR 24, vR 21], W83)) rfl ⟨by decide, by decide⟩ (by decide) ?_
  refine rch_run rfl (by decide) 3 (t' := (35, [some (vR 21)], [vI 150, vR 21], W84)) (ps := []) rfl trivial ?_
  refine rch_new rfl (t' := (37, [some (vR 21)], [vR 25, vR 21], W85)) rfl ⟨by decide, by decide⟩ (by decide) ?_
  refine rch_run rfl (by decide) 3 (t' := (44, [some (vR 21)], [vI 150, vR 21], W86)) (ps := []) rfl trivial ?_
  refine rch_new rfl (t' := (46, [some (vR 21)], [vR 26, vR 21], W87)) rfl ⟨by decide, by decide⟩ (by decide) ?_
  refine rch_run rfl (by decide) 3 (t' := (53, [some (vR 21)], [vI 150, vR 21], W88)) (ps := []) rfl trivial ?_
  refine rch_new rfl (t' := (55, [some (vR 21)], [vR 27, vR 21], W89)) rfl ⟨by decide, by decide⟩ (by decide) ?_
  refine rch_run rfl (by decide) 1 (t' := (58, [some (vR 21)], [], W90)) (ps := []) rfl trivial ?_
  exact rch_ret rfl (rt := none) rfl trivial ⟨by decide, by decide⟩ ⟨rfl, rfl⟩

set_option maxRecDepth 100000 in
theorem con_X6_init_28 (l : Launch) (E : AX) : Con l E 1 38 [vR 28] W92 2 1000 (fun rt w => rt = none ∧ w = W96) := by
  refine con_intro (by decide) (by decide) ?_
  show Rch l E 1 38 _ _ _ _ (0, [some (vR 28)], [], W92)
  refine rch_run rfl (by decide) 4 (t' := (8, [some (vR 28)], [vI 500, vR 28], W92)) (ps := []) rfl trivial ?_
  refine rch_new rfl (t' := (10, [some (vR 28)], [vR 29, vR 28], W93)) rfl ⟨by decide, by decide⟩ (by decide) ?_
  refine rch_run rfl (by decide) 3 (t' := (17, [some (vR 28)], [vI 500, vR 28], W94)) (ps := []) rfl trivial ?_
  refine rch_new rfl (t' := (19, [some (vR 28)], [vR 30, vR 28], W95)) rfl ⟨by decide, by decide⟩ (by decide) ?_
  refine rch_run rfl (by decide) 1 (t' := (22, [some (vR 28)], [], W96)) (ps := []) rfl trivial ?_
  exact rch_ret rfl (rt := none) rfl trivial ⟨by decide, by decide⟩ ⟨rfl, rfl⟩

set_option maxRecDepth 100000 in
theorem con_X2_init_31 (l : Launch) (E : AX) : Con l E 1 11 [vR 31] W98 0 0 (fun rt w => rt = none ∧ w = W99) := by
  refine con_intro (by decide) (by decide) ?_
  show Rch l E 1 11 _ _ _ _ (0, [some (vR 31)], [], W98)
  refine rch_run rfl (by decide) 5 (t' := (9, [some (vR 31)], [], W99)) (ps := []) rfl trivial ?_
  exact rch_ret rfl (rt := none) rfl trivial ⟨by decide, by decide⟩ ⟨rfl, rfl⟩

set_option maxRecDepth 100000 in
theorem con_X1_init_32 (l : Launch) (E : AX) : Con l E 1 7 [vR 32, vI 20] W101 5 100 (fun rt w => rt = none ∧ w = W111) := by
  refine con_intro (by decide) (by decide) ?_
  show Rch l E 1 7 _ _ _ _ (0, [some (vR 32), some (vI 20), none], [], W101)
  refine rch_run rfl (by decide) 8 (t' := (12, [some (vR 32), some (vI 20), some (vI 20)], [vI 20, vR 32], W101)) (ps := []) rfl trivial ?_
  refine rch_new rfl (t' := (14, [some (vR 32), some (vI 20), some (vI 20)], [vR 33, vR 32], W102)) rfl ⟨by decide, by decide⟩ (by decide) ?_
  refine rch_run rfl (by decide) 3 (t' := (19, [some (vR 32), some (vI 20), some (vI 20)], [vI 20, vR 32], W103)) (ps := []) rfl trivial ?_
  refine rch_new rfl (t' := (21, [some (vR 32), some (vI 20), some (vI 20)], [vR 34, vR 32], W104)) rfl ⟨by decide, by decide⟩ (by decide) ?_
  refine rch_run rfl (by decide) 3 (t' := (26, [some (vR 32), some (vI 20), some (vI 20)], [vI 20, vR 32], W105)) (ps := []) rfl trivial ?_
  refine rch_new rfl (t' := (28, [some (vR 32), some (vI 20), some (vI 20)], [vR 35, vR 32], W106)) rfl ⟨by decide, by decide⟩ (by decide) ?_
  refine rch_run rfl (by decide) 3 (t' := (33, [some (vR 32), some (vI 20), some (vI 20)], [vI 20, vR 32], W107)) (ps := []) rfl trivial ?_
  refine rch_new rfl (t' := (35, [some (vR 32), some (vI 20), some (vI 20)], [vR 36, vR 32], W108)) rfl ⟨by decide, by decide⟩ (by decide) ?_
  refine rch_run rfl (by decide) 3 (t' := (40, [some (vR 32), some (vI 20), some (vI 20)], [vI 20, vR 32], W109)) (ps := []) rfl trivial ?_
  refine rch_new rfl (t' := (42, [some (vR 32), some (vI 20), some (vI 20)], [vR 37, vR 32], W110)) rfl ⟨by decide, by decide⟩ (by decide) ?_
  refine rch_run rfl (by decide) 1 (t' := (45, [some (vR 32), some (vI 20), some (vI 20)], [], W111)) (ps := []) rfl trivial ?_
  exact rch_ret rfl (rt := none) rfl trivial ⟨by decide, by decide⟩ ⟨rfl, rfl⟩

set_option maxRecDepth 100000 in
theorem con_X1_init_38 (l : Launch) (E : AX) : Con l E 1 7 [vR 38, vI 20] W113 5 100 (fun rt w => rt = none ∧ w = W123) := by
  refine con_intro (by decide) (by decide) ?_
  show Rch l E 1 7 _ _ _ _ (0, [some (vR 38), some (vI 20), none], [], W113)
  refine rch_run rfl (by decide) 8 (t' := (12, [some (vR 38), some (vI 20), some (vI 20)], [vI 20, vR 38], W113)) (ps := []) rfl trivial ?_
  refine rch_new rfl (t' := (14, [some (vR 38), some (vI 20), some (vI 20)], [vR 39, vR 38], W114)) rfl ⟨by decide, by decide⟩ (by decide) ?_
  refine rch_run rfl (by decide) 3 (t' := (19, [some (vR 38), some (vI 20), some (vI 20)], [vI 20, vR 38], W115)) (ps := []) rfl trivial ?_
  refine rch_new rfl (t' := (21, [some (vR 38), some (vI 20), some (vI 20)], [vR 40, vR 38], W116)) rfl ⟨by decide, by decide⟩ (by decide) ?_
  refine rch_run rfl (by decide) 3 (t' := (26, [some (vR 38), some (vI 20), some (vI 20)], [vI 20, vR 38], W117)) (ps := []) rfl trivial ?_
  refine rch_new rfl (t' := (28, [some (vR 38), some (vI 20), some (vI 20)], [vR 41, vR 38], W118)) rfl ⟨by decide, by decide⟩ (by decide) ?_
  refine rch_run rfl (by decide) 3 (t' := (33, [some (vR 38), some (vI 20), some (vI 20)], [vI 20, vR 38], W119)) (ps := []) rfl trivial ?_
  refine rch_new rfl (t' := (35, [some (vR 38), some (vI 20), some (vI 20)], [vR 42, vR 38], W120)) rfl ⟨by decide, by decide⟩ (by decide) ?_
  refine rch_run rfl (by decide) 3 (t' := (40, [some (vR 38), some (vI 20), some (vI 20)], [vI 20, vR 38], W121)) (ps := []) rfl trivial ?_
  refine rch_new rfl (t' := (42, [some (vR 38), some (vI 20), some (vI 20)], [vR 43, vR 38], W122)) rfl ⟨by decide, by decide⟩ (by decide) ?_
  refine rch_run rfl (by decide) 1 (t' := (45, [some (vR 38), some (vI 20), some (vI 20)], [], W123)) (ps := []) rfl trivial ?_
  exact rch_ret rfl (rt := none) rfl trivial ⟨by decide, by decide⟩ ⟨rfl, rfl⟩

set_option maxRecDepth 100000 in
theorem con_X5_init_44 (l : Launch) (E : AX) : Con l E 1 33 [vR 44] W125 4 190 (fun rt w => rt = none ∧ w = W133) := by
  refine con_intro (by decide) (by decide) ?_
  show Rch l E 1 33 _ _ _ _ (0, [some (vR 44)], [], W125)
  refine rch_run rfl (by decide) 4 (t' := (7, [some (vR 44)], [vI 10, vR 44], W125)) (ps := []) rfl trivial ?_
  refine rch_new rfl (t' := (9, [some (vR 44)], [vR 45, vR 44], W126)) rfl ⟨by decide, by decide⟩ (by decide) ?_
  refine rch_run rfl (by decide) 3 (t' := (15, [some (vR 44)], [vI 60, vR 44], W127)) (ps := []) rfl trivial ?_
  refine rch_new rfl (t' := (17, [some (vR 44)], [vR 46, vR 44], W128)) rfl ⟨by decide, by decide⟩ (by decide) ?_
  refine rch_run rfl (by decide) 3 (t' := (23, [some (vR 44)], [vI 60, vR 44], W129)) (ps := []) rfl trivial ?_
  refine rch_new rfl (t' := (25, [some (vR 44)], [vR 47, vR 44], W130)) rfl ⟨by decide, by decide⟩ (by decide) ?_
  refine rch_run rfl (by decide) 3 (t' := (31, [some (vR 44)], [vI 60, vR 44], W131)) (ps := []) rfl trivial ?_
  refine rch_new rfl (t' := (33, [some (vR 44)], [vR 48, vR 44], W132)) rfl ⟨by decide, by decide⟩ (by decide) ?_
  refine rch_run rfl (by decide) 1 (t' := (36, [some (vR 44)], [], W133)) (ps := []) rfl trivial ?_
  exact rch_ret rfl (rt := none) rfl trivial ⟨by decide, by decide⟩ ⟨rfl, rfl⟩

set_option maxRecDepth 100000 in
theorem con_X3_init_49 (l : Launch) (E : AX) : Con l E 1 19 [vR 49] W135 11 3734 (fun rt w => rt = none ∧ w = W157) := by
  refine con_intro (by decide) (by decide) ?_
  show Rch l E 1 19 _ _ _ _ (0, [some (vR 49)], [], W135)
  refine rch_run rfl (by decide) 4 (t' := (7, [some (vR 49)], [vI 10, vR 49], W135)) (ps := []) rfl trivial ?_
  refine rch_new rfl (t' := (9, [some (vR 49)], [vR 50, vR 49], W136)) rfl ⟨by decide, by decide⟩ (by decide) ?_
  refine rch_run rfl (by decide) 3 (t' := (15, [some (vR 49)], [vI 10, vR 49], W137)) (ps := []) rfl trivial ?_
  refine rch_new rfl (t' := (17, [some (vR 49)], [vR 51, vR 49], W138)) rfl ⟨by decide, by decide⟩ (by decide) ?_
  refine rch_run rfl (by decide) 3 (t' := (23, [some (vR 49)], [vI 10, vR 49], W139)) (ps := []) rfl trivial ?_
  refine rch_new rfl (t' := (25, [some (vR 49)], [vR 52, vR 49], W140)) rfl ⟨by decide, by decide⟩ (by decide) ?_
  refine rch_run rfl (by decide) 3 (t' := (31, [some (vR 49)], [vI 100, vR 49], W141)) (ps := []) rfl trivial ?_
  refine rch_new rfl (t' := (33, [some (vR 49)], [vR 53, vR 49], W142)) rfl ⟨by decide, by decide⟩ (by decide) ?_
  refine rch_run rfl (by decide) 3 (t' := (39, [some (vR 49)], [vI 10, vR 49], W143)) (ps := []) rfl trivial ?_
  refine rch_new rfl (t' := (41, [some (vR 49)], [vR 54, vR 49], W144)) rfl ⟨by decide, by decide⟩ (by decide) ?_
  refine rch_run rfl (by decide) 3 (t' := (47, [some (vR 49)], [vI 10, vR 49], W145)) (ps := []) rfl trivial ?_
  refine rch_new rfl (t' := (49, [some (vR 49)], [vR 55, vR 49], W146)) rfl ⟨by decide, by decide⟩ (by decide) ?_
  refine rch_run rfl (by decide) 3 (t' := (56, [some (vR 49)], [vI 512, vR 49], W147)) (ps := []) rfl trivial ?_
  refine rch_new rfl (t' := (58, [some (vR 49)], [vR 56, vR 49], W148)) rfl ⟨by decide, by decide⟩ (by decide) ?_
  refine rch_run rfl (by decide) 3 (t' := (65, [some (vR 49)], [vI 1024, vR 49], W149)) (ps := []) rfl trivial ?_
  refine rch_new rfl (t' := (67, [some (vR 49)], [vR 57, vR 49], W150)) rfl ⟨by decide, by decide⟩ (by decide) ?_
  refine rch_run rfl (by decide) 3 (t' := (74, [some (vR 49)], [vI 1024, vR 49], W151)) (ps := []) rfl trivial ?_
  refine rch_new rfl (t' := (76, [some (vR 49)], [vR 58, vR 49], W152)) rfl ⟨by decide, by decide⟩ (by decide) ?_
  refine rch_run rfl (by decide) 3 (t' := (83, [some (vR 49)], [vI 512, vR 49], W153)) (ps := []) rfl trivial ?_
  refine rch_new rfl (t' := (85, [some (vR 49)], [vR 59, vR 49], W154)) rfl ⟨by decide, by decide⟩ (by decide) ?_
  refine rch_run rfl (by decide) 3 (t' := (92, [some (vR 49)], [vI 512, vR 49], W155)) (ps := []) rfl trivial ?_
  refine rch_new rfl (t' := (94, [some (vR 49)], [vR 60, vR 49], W156)) rfl ⟨by decide, by decide⟩ (by decide) ?_
  refine rch_run rfl (by decide) 1 (t' := (97, [some (vR 49)], [], W157)) (ps := []) rfl trivial ?_
  exact rch_ret rfl (rt := none) rfl trivial ⟨by decide, by decide⟩ ⟨rfl, rfl⟩

set_option maxRecDepth 100000 in
theorem con_X8_init_61 (l : Launch) (E : AX) : Con l E 1 48 [vR 61] W159 4 40 (fun rt w => rt = none ∧ w = W167) := by
  refine con_intro (by decide) (by decide) ?_
  show Rch l E 1 48 _ _ _ _ (0, [some (vR 61)], [], W159)
  refine rch_run rfl (by decide) 4 (t' := (7, [some (vR 61)], [vI 10, vR 61], W159)) (ps := []) rfl trivial ?_
  refine rch_new rfl (t' := (9, [some (vR 61)], [vR 62, vR 61], W160)) rfl ⟨by decide, by decide⟩ (by decide) ?_
  refine rch_run rfl (by decide) 3 (t' := (15, [some (vR 61)], [vI 10, vR 61], W161)) (ps := []) rfl trivial ?_
  refine rch_new rfl (t' := (17, [some (vR 61)], [vR 63, vR 61], W162)) rfl ⟨by decide, by decide⟩ (by decide) ?_
  refine rch_run rfl (by decide) 3 (t' := (23, [some (vR 61)], [vI 10, vR 61], W163)) (ps := []) rfl trivial ?_
  refine rch_new rfl (t' := (25, [some (vR 61)], [vR 64, vR 61], W164)) rfl ⟨by decide, by decide⟩ (by decide) ?_
  refine rch_run rfl (by decide) 3 (t' := (31, [some (vR 61)], [vI 10, vR 61], W165)) (ps := []) rfl trivial ?_
  refine rch_new rfl (t' := (33, [some (vR 61)], [vR 65, vR 61], W166)) rfl ⟨by decide, by decide⟩ (by decide) ?_
  refine rch_run rfl (by decide) 1 (t' := (36, [some (vR 61)], [], W167)) (ps := []) rfl trivial ?_
  exact rch_ret rfl (rt := none) rfl trivial ⟨by decide, by decide⟩ ⟨rfl, rfl⟩

set_option maxRecDepth 100000 in
theorem con_X10_init_66 (l : Launch) (E : AX) : Con l E 1 58 [vR 66, vI 60] W169 3 180 (fun rt w => rt = none ∧ w = W175) := by
  refine con_intro (by decide) (by decide) ?_
  show Rch l E 1 58 _ _ _ _ (0, [some (vR 66), some (vI 60), none], [], W169)
  refine rch_run rfl (by decide) 8 (t' := (12, [some (vR 66), some (vI 60), some (vI 60)], [vI 60, vR 66], W169)) (ps := []) rfl trivial ?_
  refine rch_new rfl (t' := (14, [some (vR 66), some (vI 60), some (vI 60)], [vR 67, vR 66], W170)) rfl ⟨by decide, by decide⟩ (by decide) ?_
  refine rch_run rfl (by decide) 3 (t' := (19, [some (vR 66), some (vI 60), some (vI 60)], [vI 60, vR 66], W171)) (ps := []) rfl trivial ?_
  refine rch_new rfl (t' := (21, [some (vR 66), some (vI 60), some (vI 60)], [vR 68, vR 66], W172)) rfl ⟨by decide, by decide⟩ (by decide) ?_
  refine rch_run rfl (by decide) 3 (t' := (26, [some (vR 66), some (vI 60), some (vI 60)], [vI 60, vR 66], W173)) (ps := []) rfl trivial ?_
  refine rch_new rfl (t' := (28, [some (vR 66), some (vI 60), some (vI 60)], [vR 69, vR 66], W174)) rfl ⟨by decide, by decide⟩ (by decide) ?_
  refine rch_run rfl (by decide) 1 (t' := (31, [some (vR 66), some (vI 60), some (vI 60)], [], W175)) (ps := []) rfl trivial ?_
  exact rch_ret rfl (rt := none) rfl trivial ⟨by decide, by decide⟩ ⟨rfl, rfl⟩

set_option maxRecDepth 100000 in
theorem con_X10_init_70 (l : Launch) (E : AX) : Con l E 1 58 [vR 70, vI 60] W177 3 180 (fun rt w => rt = none ∧ w = W183) := by
  refine con_intro (by decide) (by decide) ?_
  show Rch l E 1 58 _ _ _ _ (0, [some (vR 70), some (vI 60), none], [], W177)
  refine rch_run rfl (by decide) 8 (t' := (12, [some (vR 70), some (vI 60), some (vI 60)], [vI 60, vR 70], W177)) (ps := []) rfl trivial ?_
  refine rch_new rfl (t' := (14, [some (vR 70), some (vI 60), some (vI 60)], [vR 71, vR 70], W178)) rfl ⟨by decide, by decide⟩ (by decide) ?_
  refine rch_run rfl (by decide) 3 (t' := (19, [some (vR 70), some (vI 60), some (vI 60)], [vI 60, vR 70], W179)) (ps := []) rfl trivial ?_
  refine rch_new rfl (t' := (21, [some (vR 70), some (vI 60), some (vI 60)], [vR 72, vR 70], W180)) rfl ⟨by decide, by decide⟩ (by decide) ?_
  refine rch_run rfl (by decide) 3 (t' := (26, [some (vR 70), some (vI 60), some (vI 60)], [vI 60, vR 70], W181)) (ps := []) rfl trivial ?_
  refine rch_new rfl (t' := (28, [some (vR 70), some (vI 60), some (vI 60)], [vR 73, vR 70], W182)) rfl ⟨by decide, by decide⟩ (by decide) ?_
  refine rch_run rfl (by decide) 1 (t' := (31, [some (vR 70), some (vI 60), some (vI 60)], [], W183)) (ps := []) rfl trivial ?_
  exact rch_ret rfl (rt := none) rfl trivial ⟨by decide, by decide⟩ ⟨rfl, rfl⟩
end
section
set_option maxRecDepth 100000 in
theorem con_X11_init_0 (l : Launch) (E : AX) : Con l E 2 61 [vR 0] W1 73 8129 (fun rt w => rt = none ∧ w = W184) := by
  refine con_intro (by decide) (by decide) ?_
  show Rch l E 2 61 _ _ _ _ (0, [some (vR 0)], [], W1)
  refine rch_run rfl (by decide) 3 (t' := (5, [some (vR 0)], [vR 0], W1)) (ps := []) rfl trivial ?_
  refine rch_new rfl (t' := (8, [some (vR 0)], [vR 1, vR 0], W2)) rfl ⟨by decide, by decide⟩ (by decide) ?_
  refine rch_run rfl (by decide) 1 (t' := (9, [some (vR 0)], [vR 1, vR 1, vR 0], W2)) (ps := []) rfl trivial ?_
  refine rch_call (h' := 1) (k' := 0) (as := [vR 1]) (t1 := (12, [some (vR 0)], [vR 1, vR 0], W2)) rfl rfl (con_X0_init_1 l E) (by decide) ⟨by decide, by decide⟩ ?_
  rintro rt w9 ⟨rfl, rfl⟩ _ _
  show Rch l E 2 61 _ _ _ _ (12, [some (vR 0)], [vR 1, vR 0], W12)
  refine rch_run rfl (by decide) 2 (t' := (16, [some (vR 0)], [vR 0], W13)) (ps := []) rfl trivial ?_
  refine rch_new rfl (t' := (19, [some (vR 0)], [vR 7, vR 0], W14)) rfl ⟨by decide, by decide⟩ (by decide) ?_
  refine rch_run rfl (by decide) 1 (t' := (20, [some (vR 0)], [vR 7, vR 7, vR 0], W14)) (ps := []) rfl trivial ?_
  refine rch_call (h' := 1) (k' := 0) (as := [vR 7]) (t1 := (23, [some (vR 0)], [vR 7, vR 0], W14)) rfl rfl (con_X0_init_7 l E) (by decide) ⟨by decide, by decide⟩ ?_
  rintro rt w9 ⟨rfl, rfl⟩ _ _
  show Rch l E 2 61 _ _ _ _ (23, [some (vR 0)], [vR 7, vR 0], W24)
  refine rch_run rfl (by decide) 2 (t' := (27, [some (vR 0)], [vR 0], W25)) (ps := []) rfl trivial ?_
  refine rch_new rfl (t' := (30, [some (vR 0)], [vR 13, vR 0], W26)) rfl ⟨by decide, by decide⟩ (by decide) ?_
  refine rch_run rfl (by decide) 1 (t' := (31, [some (vR 0)], [vR 13, vR 13, vR 0], W26)) (ps := []) rfl trivial ?_
  refine rch_call (h' := 1) (k' := 56) (as := [vR 13]) (t1 := (34, [some (vR 0)], [vR 13, vR 0], W26)) rfl rfl (con_X9_init_13 l E) (by decide) ⟨by decide, by decide⟩ ?_
  rintro rt w9 ⟨rfl, rfl⟩ _ _
  show Rch l E 2 61 _ _ _ _ (34, [some (vR 0)], [vR 13, vR 0], W66)
  refine rch_run rfl (by decide) 3 (t' := (40, [some (vR 0)], [vI 6, vR 0], W67)) (ps := []) rfl trivial ?_
  refine rch_new rfl (t' := (42, [some (vR 0)], [vR 16, vR 0], W68)) rfl ⟨by decide, by decide⟩ (by decide) ?_
  refine rch_run rfl (by decide) 2 (t' := (46, [some (vR 0)], [vR 0], W69)) (ps := []) rfl trivial ?_
  refine rch_new rfl (t' := (49, [some (vR 0)], [vR 17, vR 0], W70)) rfl ⟨by decide, by decide⟩ (by decide) ?_
  refine rch_run rfl (by decide) 1 (t' := (50, [some (vR 0)], [vR 17, vR 17, vR 0], W70)) (ps := []) rfl trivial ?_
  refine rch_call (h' := 1) (k' := 30) (as := [vR 17]) (t1 := (53, [some (vR 0)], [vR 17, vR 0], W70)) rfl rfl (con_X4_init_17 l E) (by decide) ⟨by decide, by decide⟩ ?_
  rintro rt w9 ⟨rfl, rfl⟩ _ _
  show Rch l E 2 61 _ _ _ _ (53, [some (vR 0)], [vR 17, vR 0], W76)
  refine rch_run rfl (by decide) 2 (t' := (57, [some (vR 0)], [vR 0], W77)) (ps := []) rfl trivial ?_
  refine rch_new rfl (t' := (60, [some (vR 0)], [vR 21, vR 0], W78)) rfl ⟨by decide, by decide⟩ (by decide) ?_
  refine rch_run rfl (by decide) 1 (t' := (61, [some (vR 0)], [vR 21, vR 21, vR 0], W78)) (ps := []) rfl trivial ?_
  refine rch_call (h' := 1) (k' := 46) (as := [vR 21]) (t1 := (64, [some (vR 0)], [vR 21, vR 0], W78)) rfl rfl (con_X7_init_21 l E) (by decide) ⟨by decide, by decide⟩ ?_
  rintro rt w9 ⟨rfl, rfl⟩ _ _
  show Rch l E 2 61 _ _ _ _ (64, [some (vR 0)], [vR 21, vR 0], W90)
  refine rch_run rfl (by decide) 2 (t' := (68, [some (vR 0)], [vR 0], W91)) (ps := []) rfl trivial ?_
  refine rch_new rfl (t' := (71, [some (vR 0)], [vR 28, vR 0], W92)) rfl ⟨by decide, by decide⟩ (by decide) ?_
  refine rch_run rfl (by decide) 1 (t' := (72, [some (vR 0)], [vR 28, vR 28, vR 0], W92)) (ps := []) rfl trivial ?_
  refine rch_call (h' := 1) (k' := 38) (as := [vR 28]) (t1 := (75, [some (vR 0)], [vR 28, vR 0], W92)) rfl rfl (con_X6_init_28 l E) (by decide) ⟨by decide, by decide⟩ ?_
  rintro rt w9 ⟨rfl, rfl⟩ _ _
  show Rch l E 2 61 _ _ _ _ (75, [some (vR 0)], [vR 28, vR 0], W96)
  refine rch_run rfl (by decide) 2 (t' := (79, [some (vR 0)], [vR 0], W97)) (ps := []) rfl trivial ?_
  refine rch_new rfl (t' := (82, [some (vR 0)], [vR 31, vR 0], W98)) rfl ⟨by decide, by decide⟩ (by decide) ?_
  refine rch_run rfl (by decide) 1 (t' := (83, [some (vR 0)], [vR 31, vR 31, vR 0], W98)) (ps := []) rfl trivial ?_
  refine rch_call (h' := 1) (k' := 11) (as := [vR 31]) (t1 := (86, [some (vR 0)], [vR 31, vR 0], W98)) rfl rfl (con_X2_init_31 l E) (by decide) ⟨by decide, by decide⟩ ?_
  rintro rt w9 ⟨rfl, rfl⟩ _ _
  show Rch l E 2 61 _ _ _ _ (86, [some (vR 0)], [vR 31, vR 0], W99)
  refine rch_run rfl (by decide) 2 (t' := (90, [some (vR 0)], [vR 0], W100)) (ps := []) rfl trivial ?_
  refine rch_new rfl (t' := (93, [some (vR 0)], [vR 32, vR 0], W101)) rfl ⟨by decide, by decide⟩ (by decide) ?_
  refine rch_run rfl (by decide) 2 (t' := (96, [some (vR 0)], [vI 20, vR 32, vR 32, vR 0], W101)) (ps := []) rfl trivial ?_
  refine rch_call (h' := 1) (k' := 7) (as := [vR 32, vI 20]) (t1 := (99, [some (vR 0)], [vR 32, vR 0], W101)) rfl rfl (con_X1_init_32 l E) (by decide) ⟨by decide, by decide⟩ ?_
  rintro rt w9 ⟨rfl, rfl⟩ _ _
  show Rch l E 2 61 _ _ _ _ (99, [some (vR 0)], [vR 32, vR 0], W111)
  refine rch_run rfl (by decide) 2 (t' := (103, [some (vR 0)], [vR 0], W112)) (ps := []) rfl trivial ?_
  refine rch_new rfl (t' := (106, [some (vR 0)], [vR 38, vR 0], W113)) rfl ⟨by decide, by decide⟩ (by decide) ?_
  refine rch_run rfl (by decide) 2 (t' := (109, [some (vR 0)], [vI 20, vR 38, vR 38, vR 0], W113)) (ps := []) rfl trivial ?_
  refine rch_call (h' := 1) (k' := 7) (as := [vR 38, vI 20]) (t1 := (112, [some (vR 0)], [vR 38, vR 0], W113)) rfl rfl (con_X1_init_38 l E) (by decide) ⟨by decide, by decide⟩ ?_
  rintro rt w9 ⟨rfl, rfl⟩ _ _
  show Rch l E 2 61 _ _ _ _ (112, [some (vR 0)], [vR 38, vR 0], W123)
  refine rch_run rfl (by decide) 2 (t' := (116, [some (vR 0)], [vR 0], W124)) (ps := []) rfl trivial ?_
  refine rch_new rfl (t' := (119, [some (vR 0)], [vR 44, vR 0], W125)) rfl ⟨by decide, by decide⟩ (by decide) ?_
  refine rch_run rfl (by decide) 1 (t' := (120, [some (vR 0)], [vR 44, vR 44, vR 0], W125)) (ps := []) rfl trivial ?_
  refine rch_call (h' := 1) (k' := 33) (as := [vR 44]) (t1 := (123, [some (vR 0)], [vR 44, vR 0], W125)) rfl rfl (con_X5_init_44 l E) (by decide) ⟨by decide, by decide⟩ ?_
  rintro rt w9 ⟨rfl, rfl⟩ _ _
  show Rch l E 2 61 _ _ _ _ (123, [some (vR 0)], [vR 44, vR 0], W133)
  refine rch_run rfl (by decide) 2 (t' := (127, [some (vR 0)], [vR 0], W134)) (ps := []) rfl trivial ?_
  refine rch_new rfl (t' := (130, [some (vR 0)], [vR 49, vR 0], W135)) rfl ⟨by decide, by decide⟩ (by decide) ?_
  refine rch_run rfl (by decide) 1 (t' := (131, [some (vR 0)], [vR 49, vR 49, vR 0], W135)) (ps := []) rfl trivial ?_
  refine rch_call (h' := 1) (k' := 19) (as := [vR 49]) (t1 := (134, [some (vR 0)], [vR 49, vR 0], W135)) rfl rfl (con_X3_init_49 l E) (by decide) ⟨by decide, by decide⟩ ?_
  rintro rt w9 ⟨rfl, rfl⟩ _ _
  show Rch l E 2 61 _ _ _ _ (134, [some (vR 0)], [vR 49, vR 0], W157)
  refine rch_run rfl (by decide) 2 (t' := (138, [some (vR 0)], [vR 0], W158)) (ps := []) rfl trivial ?_
  refine rch_new rfl (t' := (141, [some (vR 0)], [vR 61, vR 0], W159)) rfl ⟨by decide, by decide⟩ (by decide) ?_
  refine rch_run rfl (by decide) 1 (t' := (142, [some (vR 0)], [vR 61, vR 61, vR 0], W159)) (ps := []) rfl trivial ?_
  refine rch_call (h' := 1) (k' := 48) (as := [vR 61]) (t1 := (145, [some (vR 0)], [vR 61, vR 0], W159)) rfl rfl (con_X8_init_61 l E) (by decide) ⟨by decide, by decide⟩ ?_
  rintro rt w9 ⟨rfl, rfl⟩ _ _
  show Rch l E 2 61 _ _ _ _ (145, [some (vR 0)], [vR 61, vR 0], W167)
  refine rch_run rfl (by decide) 2 (t' := (149, [some (vR 0)], [vR 0], W168)) (ps := []) rfl trivial ?_
  refine rch_new rfl (t' := (152, [some (vR 0)], [vR 66, vR 0], W169)) rfl ⟨by decide, by decide⟩ (by decide) ?_
  refine rch_run rfl (by decide) 2 (t' := (155, [some (vR 0)], [vI 60, vR 66, vR 66, vR 0], W169)) (ps := []) rfl trivial ?_
  refine rch_call (h' := 1) (k' := 58) (as := [vR 66, vI 60]) (t1 := (158, [some (vR 0)], [vR 66, vR 0], W169)) rfl rfl (con_X10_init_66 l E) (by decide) ⟨by decide, by decide⟩ ?_
  rintro rt w9 ⟨rfl, rfl⟩ _ _
  show Rch l E 2 61 _ _ _ _ (158, [some (vR 0)], [vR 66, vR 0], W175)
  refine rch_run rfl (by decide) 2 (t' := (162, [some (vR 0)], [vR 0], W176)) (ps := []) rfl trivial ?_
  refine rch_new rfl (t' := (165, [some (vR 0)], [vR 70, vR 0], W177)) rfl ⟨by decide, by decide⟩ (by decide) ?_
  refine rch_run rfl (by decide) 2 (t' := (168, [some (vR 0)], [vI 60, vR 70, vR 70, vR 0], W177)) (ps := []) rfl trivial ?_
  refine rch_call (h' := 1) (k' := 58) (as := [vR 70, vI 60]) (t1 := (171, [some (vR 0)], [vR 70, vR 0], W177)) rfl rfl (con_X10_init_70 l E) (by decide) ⟨by decide, by decide⟩ ?_
  rintro rt w9 ⟨rfl, rfl⟩ _ _
  show Rch l E 2 61 _ _ _ _ (171, [some (vR 0)], [vR 70, vR 0], W183)
  refine rch_run rfl (by decide) 1 (t' := (174, [some (vR 0)], [], W184)) (ps := []) rfl trivial ?_
  exact rch_ret rfl (rt := none) rfl trivial ⟨by decide, by decide⟩ ⟨rfl, rfl⟩

set_option maxRecDepth 100000 in
theorem con_X12_init_74 (l : Launch) (E : AX) : Con l E 2 102 [vR 74] W185 54 5792 (fun rt w => rt = none ∧ w = W330) := by
  refine con_intro (by decide) (by decide) ?_
  show Rch l E 2 102 _ _ _ _ (0, [some (vR 74), none], [], W185)
  refine rch_run rfl (by decide) 4 (t' := (7, [some (vR 74), none], [vI 36, vR 74], W185)) (ps := []) rfl trivial ?_
  refine rch_new rfl (t' := (9, [some (vR 74), none], [vR 75, vR 74], W186)) rfl ⟨by decide, by decide⟩ (by decide) ?_
  refine rch_run rfl (by decide) 3 (t' := (15, [some (vR 74), none], [vI 6, vR 74], W187)) (ps := []) rfl trivial ?_
  refine rch_new rfl (t' := (17, [some (vR 74), none], [vR 76, vR 74], W188)) rfl ⟨by decide, by decide⟩ (by decide) ?_
  refine rch_run rfl (by decide) 3 (t' := (23, [some (vR 74), none], [vI 6, vR 74], W189)) (ps := []) rfl trivial ?_
  refine rch_new rfl (t' := (25, [some (vR 74), none], [vR 77, vR 74], W190)) rfl ⟨by decide, by decide⟩ (by decide) ?_
  refine rch_run rfl (by decide) 3 (t' := (31, [some (vR 74), none], [vI 10, vR 74], W191)) (ps := []) rfl trivial ?_
  refine rch_new rfl (t' := (33, [some (vR 74), none], [vR 78, vR 74], W192)) rfl ⟨by decide, by decide⟩ (by decide) ?_
  refine rch_run rfl (by decide) 3 (t' := (39, [some (vR 74), none], [vI 10, vR 74], W193)) (ps := []) rfl trivial ?_
  refine rch_new rfl (t' := (41, [some (vR 74), none], [vR 79, vR 74], W194)) rfl ⟨by decide, by decide⟩ (by decide) ?_
  refine rch_run rfl (by decide) 3 (t' := (47, [some (vR 74), none], [vI 10, vR 74], W195)) (ps := []) rfl trivial ?_
  refine rch_new rfl (t' := (49, [some (vR 74), none], [vR 80, vR 74], W196)) rfl ⟨by decide, by decide⟩ (by decide) ?_
  refine rch_run rfl (by decide) 3 (t' := (56, [some (vR 74), none], [vI 150, vR 74], W197)) (ps := []) rfl trivial ?_
  refine rch_new rfl (t' := (58, [some (vR 74), none], [vR 81, vR 74], W198)) rfl ⟨by decide, by decide⟩ (by decide) ?_
  refine rch_run rfl (by decide) 3 (t' := (65, [some (vR 74), none], [vI 150, vR 74], W199)) (ps := []) rfl trivial ?_
  refine rch_new rfl (t' := (67, [some (vR 74), none], [vR 82, vR 74], W200)) rfl ⟨by decide, by decide⟩ (by decide) ?_
  refine rch_run rfl (by decide) 3 (t' := (74, [some (vR 74), none], [vI 150, vR 74], W201)) (ps := []) rfl trivial ?_
  refine rch_new rfl (t' := (76, [some (vR 74), none], [vR 83, vR 74], W202)) rfl ⟨by decide, by decide⟩ (by decide) ?_
  refine rch_run rfl (by decide) 3 (t' := (83, [some (vR 74), none], [vI 150, vR 74], W203)) (ps := []) rfl trivial ?_
  refine rch_new rfl (t' := (85, [some (vR 74), none], [vR 84, vR 74], W204)) rfl ⟨by decide, by decide⟩ (by decide) ?_
  refine rch_run rfl (by decide) 3 (t' := (92, [some (vR 74), none], [vI 150, vR 74], W205)) (ps := []) rfl trivial ?_
  refine rch_new rfl (t' := (94, [some (vR 74), none], [vR 85, vR 74], W206)) rfl ⟨by decide, by decide⟩ (by decide) ?_
  refine rch_run rfl (by decide) 3 (t' := (101, [some (vR 74), none], [vI 150, vR 74], W207)) (ps := []) rfl trivial ?_
  refine rch_new rfl (t' := (103, [some (vR 74), none], [vR 86, vR 74], W208)) rfl ⟨by decide, by decide⟩ (by decide) ?_
  refine rch_run rfl (by decide) 3 (t' := (110, [some (vR 74), none], [vI 500, vR 74], W209)) (ps := []) rfl trivial ?_
  refine rch_new rfl (t' := (112, [some (vR 74), none], [vR 87, vR 74], W210)) rfl ⟨by decide, by decide⟩ (by decide) ?_
  refine rch_run rfl (by decide) 3 (t' := (119, [some (vR 74), none], [vI 500, vR 74], W211)) (ps := []) rfl trivial ?_
  refine rch_new rfl (t' := (121, [some (vR 74), none], [vR 88, vR 74], W212)) rfl ⟨by decide, by decide⟩ (by decide) ?_
  refine rch_run rfl (by decide) 3 (t' := (128, [some (vR 74), none], [vI 500, vR 74], W213)) (ps := []) rfl trivial ?_
  refine rch_new rfl (t' := (130, [some (vR 74), none], [vR 89, vR 74], W214)) rfl ⟨by decide, by decide⟩ (by decide) ?_
  refine rch_run rfl (by decide) 3 (t' := (136, [some (vR 74), none], [vI 11, vR 74], W215)) (ps := []) rfl trivial ?_
  refine rch_new rfl (t' := (138, [some (vR 74), none], [vR 90, vR 74], W216)) rfl ⟨by decide, by decide⟩ (by decide) ?_
  refine rch_run rfl (by decide) 3 (t' := (144, [some (vR 74), none], [vI 10, vR 74], W217)) (ps := []) rfl trivial ?_
  refine rch_new rfl (t' := (146, [some (vR 74), none], [vR 91, vR 74], W218)) rfl ⟨by decide, by decide⟩ (by decide) ?_
  refine rch_run rfl (by decide) 3 (t' := (153, [some (vR 74), none], [vI 500, vR 74], W219)) (ps := []) rfl trivial ?_
  refine rch_new rfl (t' := (155, [some (vR 74), none], [vR 92, vR 74], W220)) rfl ⟨by decide, by decide⟩ (by decide) ?_
  refine rch_run rfl (by decide) 3 (t' := (162, [some (vR 74), none], [vI 500, vR 74], W221)) (ps := []) rfl trivial ?_
  refine rch_new rfl (t' := (164, [some (vR 74), none], [vR 93, vR 74], W222)) rfl ⟨by decide, by decide⟩ (by decide) ?_
  refine rch_run rfl (by decide) 3 (t' := (171, [some (vR 74), none], [vI 500, vR 74], W223)) (ps := []) rfl trivial ?_
  refine rch_new rfl (t' := (173, [some (vR 74), none], [vR 94, vR 74], W224)) rfl ⟨by decide, by decide⟩ (by decide) ?_
  refine rch_run rfl (by decide) 3 (t' := (179, [some (vR 74), none], [vI 11, vR 74], W225)) (ps := []) rfl trivial ?_
  refine rch_new rfl (t' := (181, [some (vR 74), none], [vR 95, vR 74], W226)) rfl ⟨by decide, by decide⟩ (by decide) ?_
  refine rch_run rfl (by decide) 3 (t' := (187, [some (vR 74), none], [vI 10, vR 74], W227)) (ps := []) rfl trivial ?_
  refine rch_new rfl (t' := (189, [some (vR 74), none], [vR 96, vR 74], W228)) rfl ⟨by decide, by decide⟩ (by decide) ?_
  refine rch_run rfl (by decide) 3 (t' := (196, [some (vR 74), none], [vI 500, vR 74], W229)) (ps := []) rfl trivial ?_
  refine rch_new rfl (t' := (198, [some (vR 74), none], [vR 97, vR 74], W230)) rfl ⟨by decide, by decide⟩ (by decide) ?_
  refine rch_run rfl (by decide) 6 (t' := (210, [some (vR 74), none], [vI 300, vR 74], W232)) (ps := []) rfl trivial ?_
  refine rch_new rfl (t' := (212, [some (vR 74), none], [vR 98, vR 74], W233)) rfl ⟨by decide, by decide⟩ (by decide) ?_
  refine rch_run rfl (by decide) 3 (t' := (218, [some (vR 74), none], [vI 100, vR 74], W234)) (ps := []) rfl trivial ?_
  refine rch_new rfl (t' := (220, [some (vR 74), none], [vR 99, vR 74], W235)) rfl ⟨by decide, by decide⟩ (by decide) ?_
  refine rch_run rfl (by decide) 3 (t' := (226, [some (vR 74), none], [vI 20, vR 74], W236)) (ps := []) rfl trivial ?_
  refine rch_new rfl (t' := (228, [some (vR 74), none], [vR 100, vR 74], W237)) rfl ⟨by decide, by decide⟩ (by decide) ?_
  refine rch_run rfl (by decide) 3 (t' := (234, [some (vR 74), none], [vI 20, vR 74], W238)) (ps := []) rfl trivial ?_
  refine rch_new rfl (t' := (236, [some (vR 74), none], [vR 101, vR 74], W239)) rfl ⟨by decide, by decide⟩ (by decide) ?_
  refine rch_run rfl (by decide) 3 (t' := (242, [some (vR 74), none], [vI 20, vR 74], W240)) (ps := []) rfl trivial ?_
  refine rch_new rfl (t' := (244, [some (vR 74), none], [vR 102, vR 74], W241)) rfl ⟨by decide, by decide⟩ (by decide) ?_
  refine rch_run rfl (by decide) 3 (t' := (250, [some (vR 74), none], [vI 20, vR 74], W242)) (ps := []) rfl trivial ?_
  refine rch_new rfl (t' := (252, [some (vR 74), none], [vR 103, vR 74], W243)) rfl ⟨by decide, by decide⟩ (by decide) ?_
  refine rch_run rfl (by decide) 3 (t' := (258, [some (vR 74), none], [vI 20, vR 74], W244)) (ps := []) rfl trivial ?_
  refine rch_new rfl (t' := (260, [some (vR 74), none], [vR 104, vR 74], W245)) rfl ⟨by decide, by decide⟩ (by decide) ?_
  refine rch_run rfl (by decide) 3 (t' := (266, [some (vR 74), none], [vI 20, vR 74], W246)) (ps := []) rfl trivial ?_
  refine rch_new rfl (t' := (268, [some (vR 74), none], [vR 105, vR 74], W247)) rfl ⟨by decide, by decide⟩ (by decide) ?_
  refine rch_run rfl (by decide) 3 (t' := (274, [some (vR 74), none], [vI 20, vR 74], W248)) (ps := []) rfl trivial ?_
  refine rch_new rfl (t' := (276, [some (vR 74), none], [vR 106, vR 74], W249)) rfl ⟨by decide, by decide⟩ (by decide) ?_
  refine rch_run rfl (by decide) 3 (t' := (282, [some (vR 74), none], [vI 20, vR 74], W250)) (ps := []) rfl trivial ?_
  refine rch_new rfl (t' := (284, [some (vR 74), none], [vR 107, vR 74], W251)) rfl ⟨by decide, by decide⟩ (by decide) ?_
  refine rch_run rfl (by decide) 3 (t' := (290, [some (vR 74), none], [vI 20, vR 74], W252)) (ps := []) rfl trivial ?_
  refine rch_new rfl (t' := (292, [some (vR 74), none], [vR 108, vR 74], W253)) rfl ⟨by decide, by decide⟩ (by decide) ?_
  refine rch_run rfl (by decide) 3 (t' := (298, [some (vR 74), none], [vI 20, vR 74], W254)) (ps := []) rfl trivial ?_
  refine rch_new rfl (t' := (300, [some (vR 74), none], [vR 109, vR 74], W255)) rfl ⟨by decide, by decide⟩ (by decide) ?_
  refine rch_run rfl (by decide) 3 (t' := (306, [some (vR 74), none], [vI 10, vR 74], W256)) (ps := []) rfl trivial ?_
  refine rch_new rfl (t' := (308, [some (vR 74), none], [vR 110, vR 74], W257)) rfl ⟨by decide, by decide⟩ (by decide) ?_
  refine rch_run rfl (by decide) 3 (t' := (314, [some (vR 74), none], [vI 10, vR 74], W258)) (ps := []) rfl trivial ?_
  refine rch_new rfl (t' := (316, [some (vR 74), none], [vR 111, vR 74], W259)) rfl ⟨by decide, by decide⟩ (by decide) ?_
  refine rch_run rfl (by decide) 3 (t' := (322, [some (vR 74), none], [vI 10, vR 74], W260)) (ps := []) rfl trivial ?_
  refine rch_new rfl (t' := (324, [some (vR 74), none], [vR 112, vR 74], W261)) rfl ⟨by decide, by decide⟩ (by decide) ?_
  refine rch_run rfl (by decide) 3 (t' := (330, [some (vR 74), none], [vI 10, vR 74], W262)) (ps := []) rfl trivial ?_
  refine rch_new rfl (t' := (332, [some (vR 74), none], [vR 113, vR 74], W263)) rfl ⟨by decide, by decide⟩ (by decide) ?_
  refine rch_run rfl (by decide) 3 (t' := (338, [some (vR 74), none], [vI 11, vR 74], W264)) (ps := []) rfl trivial ?_
  refine rch_new rfl (t' := (340, [some (vR 74), none], [vR 114, vR 74], W265)) rfl ⟨by decide, by decide⟩ (by decide) ?_
  refine rch_run rfl (by decide) 3 (t' := (346, [some (vR 74), none], [vI 11, vR 74], W266)) (ps := []) rfl trivial ?_
  refine rch_new rfl (t' := (348, [some (vR 74), none], [vR 115, vR 74], W267)) rfl ⟨by decide, by decide⟩ (by decide) ?_
  refine rch_run rfl (by decide) 3 (t' := (354, [some (vR 74), none], [vI 100, vR 74], W268)) (ps := []) rfl trivial ?_
  refine rch_new rfl (t' := (356, [some (vR 74), none], [vR 116, vR 74], W269)) rfl ⟨by decide, by decide⟩ (by decide) ?_
  refine rch_run rfl (by decide) 3 (t' := (362, [some (vR 74), none], [vI 100, vR 74], W270)) (ps := []) rfl trivial ?_
  refine rch_new rfl (t' := (364, [some (vR 74), none], [vR 117, vR 74], W271)) rfl ⟨by decide, by decide⟩ (by decide) ?_
  refine rch_run rfl (by decide) 3 (t' := (370, [some (vR 74), none], [vI 10, vR 74], W272)) (ps := []) rfl trivial ?_
  refine rch_new rfl (t' := (372, [some (vR 74), none], [vR 118, vR 74], W273)) rfl ⟨by decide, by decide⟩ (by decide) ?_
  refine rch_run rfl (by decide) 3 (t' := (378, [some (vR 74), none], [vI 10, vR 74], W274)) (ps := []) rfl trivial ?_
  refine rch_new rfl (t' := (380, [some (vR 74), none], [vR 119, vR 74], W275)) rfl ⟨by decide, by decide⟩ (by decide) ?_
  refine rch_run rfl (by decide) 3 (t' := (386, [some (vR 74), none], [vI 10, vR 74], W276)) (ps := []) rfl trivial ?_
  refine rch_new rfl (t' := (388, [some (vR 74), none], [vR 120, vR 74], W277)) rfl ⟨by decide, by decide⟩ (by decide) ?_
  refine rch_run rfl (by decide) 3 (t' := (394, [some (vR 74), none], [vI 10, vR 74], W278)) (ps := []) rfl trivial ?_
  refine rch_new rfl (t' := (396, [some (vR 74), none], [vR 121, vR 74], W279)) rfl ⟨by decide, by decide⟩ (by decide) ?_
  refine rch_run rfl (by decide) 3 (t' := (402, [some (vR 74), none], [vI 10, vR 74], W280)) (ps := []) rfl trivial ?_
  refine rch_new rfl (t' := (404, [some (vR 74), none], [vR 122, vR 74], W281)) rfl ⟨by decide, by decide⟩ (by decide) ?_
  refine rch_run rfl (by decide) 3 (t' := (410, [some (vR 74), none], [vI 60, vR 74], W282)) (ps := []) rfl trivial ?_
  refine rch_new rfl (t' := (412, [some (vR 74), none], [vR 123, vR 74], W283)) rfl ⟨by decide, by decide⟩ (by decide) ?_
  refine rch_run rfl (by decide) 3 (t' := (418, [some (vR 74), none], [vI 60, vR 74], W284)) (ps := []) rfl trivial ?_
  refine rch_new rfl (t' := (420, [some (vR 74), none], [vR 124, vR 74], W285)) rfl ⟨by decide, by decide⟩ (by decide) ?_
  refine rch_run rfl (by decide) 3 (t' := (426, [some (vR 74), none], [vI 60, vR 74], W286)) (ps := []) rfl trivial ?_
  refine rch_new rfl (t' := (428, [some (vR 74), none], [vR 125, vR 74], W287)) rfl ⟨by decide, by decide⟩ (by decide) ?_
  refine rch_run rfl (by decide) 3 (t' := (434, [some (vR 74), none], [vI 60, vR 74], W288)) (ps := []) rfl trivial ?_
  refine rch_new rfl (t' := (436, [some (vR 74), none], [vR 126, vR 74], W289)) rfl ⟨by decide, by decide⟩ (by decide) ?_
  refine rch_run rfl (by decide) 3 (t' := (442, [some (vR 74), none], [vI 60, vR 74], W290)) (ps := []) rfl trivial ?_
  refine rch_new rfl (t' := (444, [some (vR 74), none], [vR 127, vR 74], W291)) rfl ⟨by decide, by decide⟩ (by decide) ?_
  refine rch_run rfl (by decide) 3 (t' := (450, [some (vR 74), none], [vI 60, vR 74], W292)) (ps := []) rfl trivial ?_
  refine rch_new rfl (t' := (452, [some (vR 74), none], [vR 128, vR 74], W293)) rfl ⟨by decide, by decide⟩ (by decide) ?_
  refine rch_run rfl (by decide) 5 (t' := (460, [some (vR 74), some (vI 0)], [vI 36, vI 0], W294)) (ps := []) rfl trivial ?_
  refine rch_br rfl (cd := (36 : Int) ≤ 0) (t1 := (476, [some (vR 74), some (vI 0)], [], W294)) (t2 := (463, [some (vR 74), some (vI 0)], [], W294)) rfl (fun c9 => absurd c9 (by decide)) (fun _ => ?_)
  refine rch_run rfl (by decide) 9 (t' := (460, [some (vR 74), some (vI 1)], [vI 36, vI 1], W295)) (ps := [0 ≤ 0 ∧ 0 < ((36 : Nat) : Int), i32 (0 + 1)]) rfl (by simp only [all_, i32]; decide) ?_
  refine rch_br rfl (cd := (36 : Int) ≤ 1) (t1 := (476, [some (vR 74), some (vI 1)], [], W295)) (t2 := (463, [some (vR 74), some (vI 1)], [], W295)) rfl (fun c9 => absurd c9 (by decide)) (fun _ => ?_)
  refine rch_run rfl (by decide) 9 (t' := (460, [some (vR 74), some (vI 2)], [vI 36, vI 2], W296)) (ps := [0 ≤ 1 ∧ 1 < ((36 : Nat) : Int), i32 (1 + 1)]) rfl (by simp only [all_, i32]; decide) ?_
  refine rch_br rfl (cd := (36 : Int) ≤ 2) (t1 := (476, [some (vR 74), some (vI 2)], [], W296)) (t2 := (463, [some (vR 74), some (vI 2)], [], W296)) rfl (fun c9 => absurd c9 (by decide)) (fun _ => ?_)
  refine rch_run rfl (by decide) 9 (t' := (460, [some (vR 74), some (vI 3)], [vI 36, vI 3], W297)) (ps := [0 ≤ 2 ∧ 2 < ((36 : Nat) : Int), i32 (2 + 1)]) rfl (by simp only [all_, i32]; decide) ?_
  refine rch_br rfl (cd := (36 : Int) ≤ 3) (t1 := (476, [some (vR 74), some (vI 3)], [], W297)) (t2 := (463, [some (vR 74), some (vI 3)], [], W297)) rfl (fun c9 => absurd c9 (by decide)) (fun _ => ?_)
  refine rch_run rfl (by decide) 9 (t' := (460, [some (vR 74), some (vI 4)], [vI 36, vI 4], W298)) (ps := [0 ≤ 3 ∧ 3 < ((36 : Nat) : Int), i32 (3 + 1)]) rfl (by simp only [all_, i32]; decide) ?_
  refine rch_br rfl (cd := (36 : Int) ≤ 4) (t1 := (476, [some (vR 74), some (vI 4)], [], W298)) (t2 := (463, [some (vR 74), some (vI 4)], [], W298)) rfl (fun c9 => absurd c9 (by decide)) (fun _ => ?_)
  refine rch_run rfl (by decide) 9 (t' := (460, [some (vR 74), some (vI 5)], [vI 36, vI 5], W299)) (ps := [0 ≤ 4 ∧ 4 < ((36 : Nat) : Int), i32 (4 + 1)]) rfl (by simp only [all_, i32]; decide) ?_
  refine rch_br rfl (cd := (36 : Int) ≤ 5) (t1 := (476, [some (vR 74), some (vI 5)], [], W299)) (t2 := (463, [some (vR 74), some (vI 5)], [], W299)) rfl (fun c9 => absurd c9 (by decide)) (fun _ => ?_)
  refine rch_run rfl (by decide) 9 (t' := (460, [some (vR 74), some (vI 6)], [vI 36, vI 6], W300)) (ps := [0 ≤ 5 ∧ 5 < ((36 : Nat) : Int), i32 (5 + 1)]) rfl (by simp only [all_, i32]; decide) ?_
  refine rch_br rfl (cd := (36 : Int) ≤ 6) (t1 := (476, [some (vR 74), some (vI 6)], [], W300)) (t2 := (463, [some (vR 74), some (vI 6)], [], W300)) rfl (fun c9 => absurd c9 (by decide)) (fun _ => ?_)
  refine rch_run rfl (by decide) 9 (t' := (460, [some (vR 74), some (vI 7)], [vI 36, vI 7], W301)) (ps := [0 ≤ 6 ∧ 6 < ((36 : Nat) : Int), i32 (6 + 1)]) rfl (by simp only [all_, i32]; decide) ?_
  refine rch_br rfl (cd := (36 : Int) ≤ 7) (t1 := (476, [some (vR 74), some (vI 7)], [], W301)) (t2 := (463, [some (vR 74), some (vI 7)], [], W301)) rfl (fun c9 => absurd c9 (by decide)) (fun _ => ?_)
  refine rch_run rfl (by decide) 9 (t' := (460, [some (vR 74), some (vI 8)], [vI 36, vI 8], W302)) (ps := [0 ≤ 7 ∧ 7 < ((36 : Nat) : Int), i32 (7 + 1)]) rfl (by simp only [all_, i32]; decide) ?_
  refine rch_br rfl (cd := (36 : Int) ≤ 8) (t1 := (476, [some (vR 74), some (vI 8)], [], W302)) (t2 := (463, [some (vR 74), some (vI 8)], [], W302)) rfl (fun c9 => absurd c9 (by decide)) (fun _ => ?_)
  refine rch_run rfl (by decide) 9 (t' := (460, [some (vR 74), some (vI 9)], [vI 36, vI 9], W303)) (ps := [0 ≤ 8 ∧ 8 < ((36 : Nat) : Int), i32 (8 + 1)]) rfl (by simp only [all_, i32]; decide) ?_
  refine rch_br rfl (cd := (36 : Int) ≤ 9) (t1 := (476, [some (vR 74), some (vI 9)], [], W303)) (t2 := (463, [some (vR 74), some (vI 9)], [], W303)) rfl (fun c9 => absurd c9 (by decide)) (fun _ => ?_)
  refine rch_run rfl (by decide) 9 (t' := (460, [some (vR 74), some (vI 10)], [vI 36, vI 10], W304)) (ps := [0 ≤ 9 ∧ 9 < ((36 : Nat) : Int), i32 (9 + 1)]) rfl (by simp only [all_, i32]; decide) ?_
  refine rch_br rfl (cd := (36 : Int) ≤ 10) (t1 := (476, [some (vR 74), some (vI 10)], [], W304)) (t2 := (463, [some (vR 74), some (vI 10)], [], W304)) rfl (fun c9 => absurd c9 (by decide)) (fun _ => ?_)
  refine rch_run rfl (by decide) 9 (t' := (460, [some (vR 74), some (vI 11)], [vI 36, vI 11], W305)) (ps := [0 ≤ 10 ∧ 10 < ((36 : Nat) : Int), i32 (10 + 1)]) rfl (by simp only [all_, i32]; decide) ?_
  refine rch_br rfl (cd := (36 : Int) ≤ 11) (t1 := (476, [some (vR 74), some (vI 11)], [], W305)) (t2 := (463, [some (vR 74), some (vI 11)], [], W305)) rfl (fun c9 => absurd c9 (by decide)) (fun _ => ?_)
  refine rch_run rfl (by decide) 9 (t' := (460, [some (vR 74), some (vI 12)], [vI 36, vI 12], W306)) (ps := [0 ≤ 11 ∧ 11 < ((36 : Nat) : Int), i32 (11 + 1)]) rfl (by simp only [all_, i32]; decide) ?_
  refine rch_br rfl (cd := (36 : Int) ≤ 12) (t1 := (476, [some (vR 74), some (vI 12)], [], W306)) (t2 := (463, [some (vR 74), some (vI 12)], [], W306)) rfl (fun c9 => absurd c9 (by decide)) (fun _ => ?_)
  refine rch_run rfl (by decide) 9 (t' := (460, [some (vR 74), some (vI 13)], [vI 36, vI 13], W307)) (ps := [0 ≤ 12 ∧ 12 < ((36 : Nat) : Int), i32 (12 + 1)]) rfl (by simp only [all_, i32]; decide) ?_
  refine rch_br rfl (cd := (36 : Int) ≤ 13) (t1 := (476, [some (vR 74), some (vI 13)], [], W307)) (t2 := (463, [some (vR 74), some (vI 13)], [], W307)) rfl (fun c9 => absurd c9 (by decide)) (fun _ => ?_)
  refine rch_run rfl (by decide) 9 (t' := (460, [some (vR 74), some (vI 14)], [vI 36, vI 14], W308)) (ps := [0 ≤ 13 ∧ 13 < ((36 : Nat) : Int), i32 (13 + 1)]) rfl (by simp only [all_, i32]; decide) ?_
  refine rch_br rfl (cd := (36 : Int) ≤ 14) (t1 := (476, [some (vR 74), some (vI 14)], [], W308)) (t2 := (463, [some (vR 74), some (vI 14)], [], W308)) rfl (fun c9 => absurd c9 (by decide)) (fun _ => ?_)
  refine rch_run rfl (by decide) 9 (t' := (460, [some (vR 74), some (vI 15)], [vI 36, vI 15], W309)) (ps := [0 ≤ 14 ∧ 14 < ((36 : Nat) : Int), i32 (14 + 1)]) rfl (by simp only [all_, i32]; decide) ?_
  refine rch_br rfl (cd := (36 : Int) ≤ 15) (t1 := (476, [some (vR 74), some (vI 15)], [], W309)) (t2 := (463, [some (vR 74), some (vI 15)], [], W309)) rfl (fun c9 => absurd c9 (by decide)) (fun _ => ?_)
  refine rch_run rfl (by decide) 9 (t' := (460, [some (vR 74), some (vI 16)], [vI 36, vI 16], W310)) (ps := [0 ≤ 15 ∧ 15 < ((36 : Nat) : Int), i32 (15 + 1)]) rfl (by simp only [all_, i32]; decide) ?_
  refine rch_br rfl (cd := (36 : Int) ≤ 16) (t1 := (476, [some (vR 74), some (vI 16)], [], W310)) (t2 := (463, [some (vR 74), some (vI 16)], [], W310)) rfl (fun c9 => absurd c9 (by decide)) (fun _ => ?_)
  refine rch_run rfl (by decide) 9 (t' := (460, [some (vR 74), some (vI 17)], [vI 36, vI 17], W311)) (ps := [0 ≤ 16 ∧ 16 < ((36 : Nat) : Int), i32 (16 + 1)]) rfl (by simp only [all_, i32]; decide) ?_
  refine rch_br rfl (cd := (36 : Int) ≤ 17) (t1 := (476, [some (vR 74), some (vI 17)], [], W311)) (t2 := (463, [some (vR 74), some (vI 17)], [], W311)) rfl (fun c9 => absurd c9 (by decide)) (fun _ => ?_)
  refine rch_run rfl (by decide) 9 (t' := (460, [some (vR 74), some (vI 18)], [vI 36, vI 18], W312)) (ps := [0 ≤ 17 ∧ 17 < ((36 : Nat) : Int), i32 (17 + 1)]) rfl (by simp only [all_, i32]; decide) ?_
  refine rch_br rfl (cd := (36 : Int) ≤ 18) (t1 := (476, [some (vR 74), some (vI 18)], [], W312)) (t2 := (463, [some (vR 74), some (vI 18)], [], W312)) rfl (fun c9 => absurd c9 (by decide)) (fun _ => ?_)
  refine rch_run rfl (by decide) 9 (t' := (460, [some (vR 74), some (vI 19)], [vI 36, vI 19], W313)) (ps := [0 ≤ 18 ∧ 18 < ((36 : Nat) : Int), i32 (18 + 1)]) rfl (by simp only [all_, i32]; decide) ?_
  refine rch_br rfl (cd := (36 : Int) ≤ 19) (t1 := (476, [some (vR 74), some (vI 19)], [], W313)) (t2 := (463, [some (vR 74), some (vI 19)], [], W313)) rfl (fun c9 => absurd c9 (by decide)) (fun _ => ?_)
  refine rch_run rfl (by decide) 9 (t' := (460, [some (vR 74), some (vI 20)], [vI 36, vI 20], W314)) (ps := [0 ≤ 19 ∧ 19 < ((36 : Nat) : Int), i32 (19 + 1)]) rfl (by simp only [all_, i32]; decide) ?_
  refine rch_br rfl (cd := (36 : Int) ≤ 20) (t1 := (476, [some (vR 74), some (vI 20)], [], W314)) (t2 := (463, [some (vR 74), some (vI 20)], [], W314)) rfl (fun c9 => absurd c9 (by decide)) (fun _ => ?_)
  refine rch_run rfl (by decide) 9 (t' := (460, [some (vR 74), some (vI 21)], [vI 36, vI 21], W315)) (ps := [0 ≤ 20 ∧ 20 < ((36 : Nat) : Int), i32 (20 + 1)]) rfl (by simp only [all_, i32]; decide) ?_
  refine rch_br rfl (cd := (36 : Int) ≤ 21) (t1 := (476, [some (vR 74), some (vI 21)], [], W315)) (t2 := (463, [some (vR 74), some (vI 21)], [], W315)) rfl (fun c9 => absurd c9 (by decide)) (fun _ => ?_)
  refine rch_run rfl (by decide) 9 (t' := (460, [some (vR 74), some (vI 22)], [vI 36, vI 22], W316)) (ps := [0 ≤ 21 ∧ 21 < ((36 : Nat) : Int), i32 (21 + 1)]) rfl (by simp only [all_, i32]; decide) ?_
  refine rch_br rfl (cd := (36 : Int) ≤ 22) (t1 := (476, [some (vR 74), some (vI 22)], [], W316)) (t2 := (463, [some (vR 74), some (vI 22)], [], W316)) rfl (fun c9 => absurd c9 (by decide)) (fun _ => ?_)
  refine rch_run rfl (by decide) 9 (t' := (460, [some (vR 74), some (vI 23)], [vI 36, vI 23], W317)) (ps := [0 ≤ 22 ∧ 22 < ((36 : Nat) : Int), i32 (22 + 1)]) rfl (by simp only [all_, i32]; decide) ?_
  refine rch_br rfl (cd := (36 : Int) ≤ 23) (t1 := (476, [some (vR 74), some (vI 23)], [], W317)) (t2 := (463, [some (vR 74), some (vI 23)], [], W317)) rfl (fun c9 => absurd c9 (by decide)) (fun _ => ?_)
  refine rch_run rfl (by decide) 9 (t' := (460, [some (vR 74), some (vI 24)], [vI 36, vI 24], W318)) (ps := [0 ≤ 23 ∧ 23 < ((36 : Nat) : Int), i32 (23 + 1)]) rfl (by simp only [all_, i32]; decide) ?_
  refine rch_br rfl (cd := (36 : Int) ≤ 24) (t1 := (476, [some (vR 74), some (vI 24)], [], W318)) (t2 := (463, [some (vR 74), some (vI 24)], [], W318)) rfl (fun c9 => absurd c9 (by decide)) (fun _ => ?_)
  refine rch_run rfl (by decide) 9 (t' := (460, [some (vR 74), some (vI 25)], [vI 36, vI 25], W319)) (ps := [0 ≤ 24 ∧ 24 < ((36 : Nat) : Int), i32 (24 + 1)]) rfl (by simp only [all_, i32]; decide) ?_
  refine rch_br rfl (cd := (36 : Int) ≤ 25) (t1 := (476, [some (vR 74), some (vI 25)], [], W319)) (t2 := (463, [some (vR 74), some (vI 25)], [], W319)) rfl (fun c9 => absurd c9 (by decide)) (fun _ => ?_)
  refine rch_run rfl (by decide) 9 (t' := (460, [some (vR 74), some (vI 26)], [vI 36, vI 26], W320)) (ps := [0 ≤ 25 ∧ 25 < ((36 : Nat) : Int), i32 (25 + 1)]) rfl (by simp only [all_, i32]; decide) ?_
  refine rch_br rfl (cd := (36 : Int) ≤ 26) (t1 := (476, [some (vR 74), some (vI 26)], [], W320)) (t2 := (463, [some (vR 74), some (vI 26)], [], W320)) rfl (fun c9 => absurd c9 (by decide)) (fun _ => ?_)
  refine rch_run rfl (by decide) 9 (t' := (460, [some (vR 74), some (vI 27)], [vI 36, vI 27], W321)) (ps := [0 ≤ 26 ∧ 26 < ((36 : Nat) : Int), i32 (26 + 1)]) rfl (by simp only [all_, i32]; decide) ?_
  refine rch_br rfl (cd := (36 : Int) ≤ 27) (t1 := (476, [some (vR 74), some (vI 27)], [], W321)) (t2 := (463, [some (vR 74), some (vI 27)], [], W321)) rfl (fun c9 => absurd c9 (by decide)) (fun _ => ?_)
  refine rch_run rfl (by decide) 9 (t' := (460, [some (vR 74), some (vI 28)], [vI 36, vI 28], W322)) (ps := [0 ≤ 27 ∧ 27 < ((36 : Nat) : Int), i32 (27 + 1)]) rfl (by simp only [all_, i32]; decide) ?_
  refine rch_br rfl (cd := (36 : Int) ≤ 28) (t1 := (476, [some (vR 74), some (vI 28)], [], W322)) (t2 := (463, [some (vR 74), some (vI 28)], [], W322)) rfl (fun c9 => absurd c9 (by decide)) (fun _ => ?_)
  refine rch_run rfl (by decide) 9 (t' := (460, [some (vR 74), some (vI 29)], [vI 36, vI 29], W323)) (ps := [0 ≤ 28 ∧ 28 < ((36 : Nat) : Int), i32 (28 + 1)]) rfl (by simp only [all_, i32]; decide) ?_
  refine rch_br rfl (cd := (36 : Int) ≤ 29) (t1 := (476, [some (vR 74), some (vI 29)], [], W323)) (t2 := (463, [some (vR 74), some (vI 29)], [], W323)) rfl (fun c9 => absurd c9 (by decide)) (fun _ => ?_)
  refine rch_run rfl (by decide) 9 (t' := (460, [some (vR 74), some (vI 30)], [vI 36, vI 30], W324)) (ps := [0 ≤ 29 ∧ 29 < ((36 : Nat) : Int), i32 (29 + 1)]) rfl (by simp only [all_, i32]; decide) ?_
  refine rch_br rfl (cd := (36 : Int) ≤ 30) (t1 := (476, [some (vR 74), some (vI 30)], [], W324)) (t2 := (463, [some (vR 74), some (vI 30)], [], W324)) rfl (fun c9 => absurd c9 (by decide)) (fun _ => ?_)
  refine rch_run rfl (by decide) 9 (t' := (460, [some (vR 74), some (vI 31)], [vI 36, vI 31], W325)) (ps := [0 ≤ 30 ∧ 30 < ((36 : Nat) : Int), i32 (30 + 1)]) rfl (by simp only [all_, i32]; decide) ?_
  refine rch_br rfl (cd := (36 : Int) ≤ 31) (t1 := (476, [some (vR 74), some (vI 31)], [], W325)) (t2 := (463, [some (vR 74), some (vI 31)], [], W325)) rfl (fun c9 => absurd c9 (by decide)) (fun _ => ?_)
  refine rch_run rfl (by decide) 9 (t' := (460, [some (vR 74), some (vI 32)], [vI 36, vI 32], W326)) (ps := [0 ≤ 31 ∧ 31 < ((36 : Nat) : Int), i32 (31 + 1)]) rfl (by simp only [all_, i32]; decide) ?_
  refine rch_br rfl (cd := (36 : Int) ≤ 32) (t1 := (476, [some (vR 74), some (vI 32)], [], W326)) (t2 := (463, [some (vR 74), some (vI 32)], [], W326)) rfl (fun c9 => absurd c9 (by decide)) (fun _ => ?_)
  refine rch_run rfl (by decide) 9 (t' := (460, [some (vR 74), some (vI 33)], [vI 36, vI 33], W327)) (ps := [0 ≤ 32 ∧ 32 < ((36 : Nat) : Int), i32 (32 + 1)]) rfl (by simp only [all_, i32]; decide) ?_
  refine rch_br rfl (cd := (36 : Int) ≤ 33) (t1 := (476, [some (vR 74), some (vI 33)], [], W327)) (t2 := (463, [some (vR 74), some (vI 33)], [], W327)) rfl (fun c9 => absurd c9 (by decide)) (fun _ => ?_)
  refine rch_run rfl (by decide) 9 (t' := (460, [some (vR 74), some (vI 34)], [vI 36, vI 34], W328)) (ps := [0 ≤ 33 ∧ 33 < ((36 : Nat) : Int), i32 (33 + 1)]) rfl (by simp only [all_, i32]; decide) ?_
  refine rch_br rfl (cd := (36 : Int) ≤ 34) (t1 := (476, [some (vR 74), some (vI 34)], [], W328)) (t2 := (463, [some (vR 74), some (vI 34)], [], W328)) rfl (fun c9 => absurd c9 (by decide)) (fun _ => ?_)
  refine rch_run rfl (by decide) 9 (t' := (460, [some (vR 74), some (vI 35)], [vI 36, vI 35], W329)) (ps := [0 ≤ 34 ∧ 34 < ((36 : Nat) : Int), i32 (34 + 1)]) rfl (by simp only [all_, i32]; decide) ?_
  refine rch_br rfl (cd := (36 : Int) ≤ 35) (t1 := (476, [some (vR 74), some (vI 35)], [], W329)) (t2 := (463, [some (vR 74), some (vI 35)], [], W329)) rfl (fun c9 => absurd c9 (by decide)) (fun _ => ?_)
  refine rch_run rfl (by decide) 9 (t' := (460, [some (vR 74), some (vI 36)], [vI 36, vI 36], W330)) (ps := [0 ≤ 35 ∧ 35 < ((36 : Nat) : Int), i32 (35 + 1)]) rfl (by simp only [all_, i32]; decide) ?_
  refine rch_br rfl (cd := (36 : Int) ≤ 36) (t1 := (476, [some (vR 74), some (vI 36)], [], W330)) (t2 := (463, [some (vR 74), some (vI 36)], [], W330)) rfl (fun _ => ?_) (fun c9 => absurd (by decide) c9)
  exact rch_ret rfl (rt := none) rfl trivial ⟨by decide, by decide⟩ ⟨rfl, rfl⟩
end
section
-- THE MADE WORLD: kinds and references are fixed but for the two books; ints and longs are functions
def LAY : List (Nat × Nat × Nat) := [(0, 11, 18), (0, 0, 8), (1, 0, 10), (1, 0, 10), (1, 0, 250), (1, 0, 250), (1, 0, 250), (0, 0, 8), (1, 0, 10), (1, 0, 10), (1, 0, 250), (1, 0, 250), (1, 0, 250), (0, 9, 2), (1, 0, 36), (1, 0, 6), (1, 0, 6), (0, 4, 4), (1, 0, 10), (1, 0, 10), (1, 1, 10), (0, 7, 7), (1, 0, 150), (1, 0, 150), (1, 0, 150), (1, 0, 150), (1, 0, 150), (1, 1, 150), (0, 6, 7), (1, 0, 500), (1, 0, 500), (0, 2, 2), (0, 1, 6), (1, 0, 20), (1, 0, 20), (1, 0, 20), (1, 0, 20), (1, 0, 20), (0, 1, 6), (1, 0, 20), (1, 0, 20), (1, 0, 20), (1, 0, 20), (1, 0, 20), (0, 5, 6), (1, 1, 10), (1, 0, 60), (1, 0, 60), (1, 1, 60), (0, 3, 15), (1, 0, 10), (1, 0, 10), (1, 0, 10), (1, 0, 100), (1, 0, 10), (1, 0, 10), (1, 0, 512), (1, 0, 1024), (1, 0, 1024), (1, 2, 512), (1, 2, 512), (0, 8, 8), (1, 0, 10), (1, 0, 10), (1, 0, 10), (1, 0, 10), (0, 10, 4), (1, 0, 60), (1, 0, 60), (1, 0, 60), (0, 10, 4), (1, 0, 60), (1, 0, 60), (1, 0, 60), (0, 12, 83), (1, 0, 36), (1, 0, 6), (1, 0, 6), (1, 0, 10), (1, 0, 10), (1, 1, 10), (1, 0, 150), (1, 0, 150), (1, 0, 150), (1, 0, 150), (1, 0, 150), (1, 1, 150), (1, 0, 500), (1, 0, 500), (1, 0, 500), (1, 0, 11), (1, 0, 10), (1, 0, 500), (1, 0, 500), (1, 0, 500), (1, 0, 11), (1, 0, 10), (1, 0, 500), (1, 0, 300), (1, 1, 100), (1, 0, 20), (1, 0, 20), (1, 0, 20), (1, 0, 20), (1, 1, 20), (1, 0, 20), (1, 0, 20), (1, 0, 20), (1, 0, 20), (1, 0, 20), (1, 0, 10), (1, 0, 10), (1, 0, 10), (1, 0, 10), (1, 0, 11), (1, 0, 11), (1, 0, 100), (1, 0, 100), (1, 0, 10), (1, 0, 10), (1, 0, 10), (1, 2, 10), (1, 2, 10), (1, 0, 60), (1, 0, 60), (1, 0, 60), (1, 0, 60), (1, 0, 60), (1, 0, 60)]
def rfT : List (List (Option Nat)) := [[none, none, none, none, none, some 13, some 16, some 17, some 21, some 28, some 31, some 32, some 38, some 44, some 49, some 61, some 66, some 70], [none, none, none, some 2, some 3, some 4, some 5, some 6], [], [], [], [], [], [none, none, none, some 8, some 9, some 10, some 11, some 12], [], [], [], [], [], [some 14, some 15], [], [], [], [none, some 18, some 19, some 20], [], [], [], [none, some 22, some 23, some 24, some 25, some 26, some 27], [], [], [], [], [], [], [none, none, none, none, none, some 29, some 30], [], [], [none, none], [none, some 33, some 34, some 35, some 36, some 37], [], [], [], [], [], [none, some 39, some 40, some 41, some 42, some 43], [], [], [], [], [], [none, none, some 45, some 46, some 47, some 48], [], [], [], [], [none, none, none, none, some 50, some 51, some 52, some 53, some 54, some 55, some 56, some 57, some 58, some 59, some 60], [], [], [], [], [], [], [], [], [], [], [], [none, none, none, none, some 62, some 63, some 64, some 65], [], [], [], [], [none, some 67, some 68, some 69], [], [], [], [none, some 71, some 72, some 73], [], [], [], [none, some 75, some 76, some 77, none, none, some 78, some 79, some 80, some 81, some 82, some 83, some 84, some 85, some 86, some 87, some 88, some 89, some 90, some 91, none, some 92, some 93, some 94, some 95, some 96, none, none, none, some 97, none, none, none, none, none, none, none, none, none, some 98, none, none, some 99, none, none, some 100, some 101, some 102, some 103, some 104, some 105, some 106, some 107, some 108, some 109, none, none, none, none, some 110, some 111, some 112, some 113, some 114, some 115, some 116, some 117, none, none, none, some 118, some 119, some 120, some 121, some 122, none, none, some 123, some 124, some 125, some 126, some 127, some 128], [], [], [], [], [], [], [], [], [], [], [], [], [], [], [], [], [], [], [], [], [], [], [], [], [], [], [], [], [], [], [], [], [], [], [], [], [], [], [], [], [], [], [], [], [], [], [], [], [], [], [], [], [], []]
def RF (b : Bool) (a j : Nat) : Option Nat := if (Nat.beq a 0 && Nat.beq j 3) = true then some (cond b 7 1) else if (Nat.beq a 0 && Nat.beq j 4) = true then some (cond b 1 7) else (rfT.getD a []).getD j none
def MW (b : Bool) (I L : Nat → Nat → Int) : AW := (LAY, I, L, RF b)
def upI (I : Nat → Nat → Int) (a j : Nat) (x : Int) : Nat → Nat → Int := fun b i => if b = a ∧ i = j then x else I b i
def I0 (a j : Nat) : Int := if (a = 14 ∧ j < 36) ∨ (a = 75 ∧ j < 36) then 1 else if (a = 31 ∧ j = 1) ∨ (a = 74 ∧ j = 32) then -1 else 0
def L0 (_ _ : Nat) : Int := 0
set_option maxRecDepth 100000 in
theorem w_lay : W330.1 = LAY := by decide +kernel
def agr (a : Nat) : Bool := (List.range (LAY.getD a (0, 0, 0)).2.2).all (fun j => decide (I0 a j = wI W330 a j) && decide (L0 a j = wL W330 a j) && decide (RF false a j = wR W330 a j))
set_option maxRecDepth 100000 in
theorem agr_0 : ((List.range 12).map (· + 0)).all agr = true := by decide +kernel
set_option maxRecDepth 100000 in
theorem agr_12 : ((List.range 17).map (· + 12)).all agr = true := by decide +kernel
set_option maxRecDepth 100000 in
theorem agr_29 : ((List.range 24).map (· + 29)).all agr = true := by decide +kernel
set_option maxRecDepth 100000 in
theorem agr_53 : ((List.range 4).map (· + 53)).all agr = true := by decide +kernel
set_option maxRecDepth 100000 in
theorem agr_57 : ((List.range 1).map (· + 57)).all agr = true := by decide +kernel
set_option maxRecDepth 100000 in
theorem agr_58 : ((List.range 1).map (· + 58)).all agr = true := by decide +kernel
set_option maxRecDepth 100000 in
theorem agr_59 : ((List.range 15).map (· + 59)).all agr = true := by decide +kernel
set_option maxRecDepth 100000 in
theorem agr_74 : ((List.range 13).map (· + 74)).all agr = true := by decide +kernel
set_option maxRecDepth 100000 in
theorem agr_87 : ((List.range 2).map (· + 87)).all agr = true := by decide +kernel
set_option maxRecDepth 100000 in
theorem agr_89 : ((List.range 4).map (· + 89)).all agr = true := by decide +kernel
set_option maxRecDepth 100000 in
theorem agr_93 : ((List.range 4).map (· + 93)).all agr = true := by decide +kernel
set_option maxRecDepth 100000 in
theorem agr_97 : ((List.range 27).map (· + 97)).all agr = true := by decide +kernel
set_option maxRecDepth 100000 in
theorem agr_124 : ((List.range 5).map (· + 124)).all agr = true := by decide +kernel
theorem agr_all : ∀ a, a < 129 → agr a = true := by
  intro a ha
  have key : ∀ k n, ((List.range n).map (· + k)).all agr = true → k ≤ a → a < k + n → agr a = true := fun k n h h1 h2 => List.all_eq_true.mp h a (List.mem_map.mpr ⟨a - k, List.mem_range.mpr (by omega), by omega⟩)
  rcases (show (0 ≤ a ∧ a < 12) ∨ (12 ≤ a ∧ a < 29) ∨ (29 ≤ a ∧ a < 53) ∨ (53 ≤ a ∧ a < 57) ∨ (57 ≤ a ∧ a < 58) ∨ (58 ≤ a ∧ a < 59) ∨ (59 ≤ a ∧ a < 74) ∨ (74 ≤ a ∧ a < 87) ∨ (87 ≤ a ∧ a < 89) ∨ (89 ≤ a ∧ a < 93) ∨ (93 ≤ a ∧ a < 97) ∨ (97 ≤ a ∧ a < 124) ∨ (124 ≤ a ∧ a < 129) by omega) with h | h | h | h | h | h | h | h | h | h | h | h | h
  · exact key 0 12 agr_0 h.1 (by omega)
  · exact key 12 17 agr_12 h.1 (by omega)
  · exact key 29 24 agr_29 h.1 (by omega)
  · exact key 53 4 agr_53 h.1 (by omega)
  · exact key 57 1 agr_57 h.1 (by omega)
  · exact key 58 1 agr_58 h.1 (by omega)
  · exact key 59 15 agr_59 h.1 (by omega)
  · exact key 74 13 agr_74 h.1 (by omega)
  · exact key 87 2 agr_87 h.1 (by omega)
  · exact key 89 4 agr_89 h.1 (by omega)
  · exact key 93 4 agr_93 h.1 (by omega)
  · exact key 97 27 agr_97 h.1 (by omega)
  · exact key 124 5 agr_124 h.1 (by omega)
end
section
theorem vpc_i {cA : ClassId} {n : Nat} {f g : Nat → Int32} (h : ∀ j, j < n → f j = g j) : vp_cell cA (n, .inl f) = vp_cell cA (n, .inl g) := by
  rw [vp_cell_i, vp_cell_i]
  unfold arrV
  congr 1
  apply Array.ext
  · simp
  · intro i h1 h2
    simp at h1 ⊢
    exact h i h1
theorem vpc_l {cA : ClassId} {n : Nat} {f g : Nat → Int64} (h : ∀ j, j < n → f j = g j) : vp_cell cA (n, .inr (.inl f)) = vp_cell cA (n, .inr (.inl g)) := by
  rw [vp_cell_l, vp_cell_l]
  unfold arrV
  congr 1
  apply Array.ext
  · simp
  · intro i h1 h2
    simp at h1 ⊢
    exact h i h1
theorem at_ext {D : va_G} {cs : ClassId × ClassId × ClassId} {base : Nat} {sp : Nat → Value} {w w' : AW} {a : Nat} {q : Nat × Nat × Nat} {H : Heap} (hI : ∀ j, j < q.2.2 → wI w' a j = wI w a j) (hL : ∀ j, j < q.2.2 → wL w' a j = wL w a j) (hR : ∀ j, j < q.2.2 → wR w' a j = wR w a j) (h : va_at D classes (base + a, ct base sp cs w a q) H) : va_at D classes (base + a, ct base sp cs w' a q) H := by
  obtain ⟨q1, q2, n⟩ := q
  dsimp only at hI hL hR
  match q1, q2, h with
  | 0, ci, h =>
    have e : (List.range n).map (fv base sp w' a ci) = (List.range n).map (fv base sp w a ci) := by
      apply List.map_congr_left
      intro j hj
      have hj := List.mem_range.mp hj
      unfold fv
      rw [hI j hj, hL j hj, hR j hj]
    show va_at D classes (base + a, .inr (ci, (List.range n).map (fv base sp w' a ci))) H
    rw [e]
    exact h
  | q1 + 1, 0, h =>
    have h : H[base + a]? = some (vp_cell cs.1 (n, .inl (fun j => Int32.ofInt (wI w a j)))) := h
    show H[base + a]? = some (vp_cell cs.1 (n, .inl (fun j => Int32.ofInt (wI w' a j))))
    exact h.trans (congrArg some (vpc_i (fun j hj => by rw [hI j hj])))
  | q1 + 1, 1, h =>
    have h : H[base + a]? = some (vp_cell cs.2.1 (n, .inl (fun j => Int32.ofInt (wI w a j)))) := h
    show H[base + a]? = some (vp_cell cs.2.1 (n, .inl (fun j => Int32.ofInt (wI w' a j))))
    exact h.trans (congrArg some (vpc_i (fun j hj => by rw [hI j hj])))
  | q1 + 1, q2 + 2, h =>
    have h : H[base + a]? = some (vp_cell cs.2.2 (n, .inr (.inl (fun j => Int64.ofInt (wL w a j))))) := h
    show H[base + a]? = some (vp_cell cs.2.2 (n, .inr (.inl (fun j => Int64.ofInt (wL w' a j)))))
    exact h.trans (congrArg some (vpc_l (fun j hj => by rw [hL j hj])))
/-- a world may be taken for another that agrees with it where it has cells -/
theorem rch_ext {l : Launch} {E : AX} {h k : Nat} {w0 : AW} {nc ns : Nat} {Φ : Option AV → AW → Prop} {pc : Nat} {lv : List (Option AV)} {st : List AV} {w : AW} (w' : AW) (hl : w'.1 = w.1) (hI : ∀ (a : Nat) (q : Nat × Nat × Nat), w.1[a]? = some q → ∀ j, j < q.2.2 → wI w' a j = wI w a j ∧ wL w' a j = wL w a j ∧ wR w' a j = wR w a j) (hok : okW w → okW w')
    (kk : Rch l E h k w0 nc ns Φ (pc, lv, st, w')) : Rch l E h k w0 nc ns Φ (pc, lv, st, w) := by
  intro hw hlv hs hB p e R s m args below meth c Q D cs base sp C H locs ls hH hS hL
  have hcn : cN w' = cN w := by unfold cN; rw [hl]
  have hsn : sN w' = sN w := by unfold sN; rw [hl]
  have hH' : hW D cs base sp w' H := by
    refine ⟨by rw [hl]; exact hH.1, by rw [hl]; exact hH.2.1, fun a p hp => ?_⟩
    obtain ⟨q, hq, rfl⟩ := wsO_of hp
    rw [hl] at hq
    exact at_ext (fun j hj => (hI a q hq j hj).1) (fun j hj => (hI a q hq j hj).2.1) (fun j hj => (hI a q hq j hj).2.2) (hH.2.2 a _ (wsO_at hq))
  have := kk (hok hw) hlv hs (by unfold inB at hB ⊢; dsimp only at hB ⊢; rw [hcn, hsn]; exact hB) p e R s m args below meth c Q D cs base sp C H locs ls hH' hS hL
  dsimp only at this ⊢
  rw [hcn, hsn] at this
  exact this
theorem I0_ok : okW (MW false I0 L0) := by
  refine ⟨fun a j => ?_, fun a j => i64_0⟩
  show i32 (I0 a j)
  unfold I0
  split
  · constructor <;> decide
  · split <;> constructor <;> decide
/-- behind the constructors -/
theorem rch_made {l : Launch} {E : AX} {h k : Nat} {w0 : AW} {nc ns : Nat} {Φ : Option AV → AW → Prop} {pc : Nat} {lv : List (Option AV)} {st : List AV} (kk : Rch l E h k w0 nc ns Φ (pc, lv, st, MW false I0 L0)) : Rch l E h k w0 nc ns Φ (pc, lv, st, W330) := by
  refine rch_ext (MW false I0 L0) w_lay.symm (fun a q hq j hj => ?_) (fun _ => I0_ok) kk
  rw [w_lay] at hq
  have ha : a < 129 := (List.getElem?_eq_some_iff.mp hq).1
  have h1 := agr_all a ha
  unfold agr at h1
  have h2 : LAY.getD a (0, 0, 0) = q := by simp [List.getD, hq]
  rw [h2] at h1
  have h3 := List.all_eq_true.mp h1 j (List.mem_range.mpr hj)
  simp only [Bool.and_eq_true, decide_eq_true_eq] at h3
  exact ⟨h3.1.1, h3.1.2, h3.2⟩
end
section
theorem mw_cN (b : Bool) (I L : Nat → Nat → Int) : cN (MW b I L) = 129 := by
  show LAY.length = 129
  decide +kernel
theorem mw_sN (b : Bool) (I L : Nat → Nat → Int) : sN (MW b I L) = 14022 := by
  show (LAY.map (fun q => q.2.2)).sum = 14022
  decide +kernel
theorem mw_c {b b' : Bool} {I L I' L' : Nat → Nat → Int} : cN (MW b I L) = cN (MW b' I' L') + 0 ∧ sN (MW b I L) = sN (MW b' I' L') + 0 := by
  rw [mw_cN, mw_cN, mw_sN, mw_sN]; exact ⟨rfl, rfl⟩
theorem mw_le {b b' : Bool} {I L I' L' : Nat → Nat → Int} : cN (MW b I L) + 0 ≤ cN (MW b' I' L') + 0 ∧ sN (MW b I L) + 0 ≤ sN (MW b' I' L') + 0 := by
  rw [mw_cN, mw_cN, mw_sN, mw_sN]; exact ⟨Nat.le_refl _, Nat.le_refl _⟩
end
section
theorem k_X11_isSource (l : Launch) (E : AX) (b : Bool) (I L : Nat → Nat → Int) (x : Int) : Con l E 1 90 [vI x] (MW b I L) 0 0 (fun rt w => ((0 ≤ x ∧ x ≤ 5) ∧ rt = some (vI 1) ∧ w = MW b I L) ∨ ((¬ (0 ≤ x ∧ x ≤ 5)) ∧ rt = some (vI 0) ∧ w = MW b I L)) := by
  refine con_intro (by decide) (Nat.le_of_ble_eq_true rfl) ?_
  show Rch l E 1 90 _ _ _ _ (0, [some (vI x)], [], MW b I L)
  refine rch_run rfl (by decide) 1 (t' := (1, [some (vI x)], [vI x], MW b I L)) (ps := []) rfl trivial ?_
  refine rch_br rfl (cd := x < 0) (t1 := (14, [some (vI x)], [], MW b I L)) (t2 := (4, [some (vI x)], [], MW b I L)) rfl (fun c1_1 => ?_) (fun c1_1 => ?_)
  · refine rch_run rfl (by decide) 1 (t' := (15, [some (vI x)], [vI 0], MW b I L)) (ps := []) rfl trivial ?_
    refine rch_ret rfl (rt := some (vI 0)) rfl (Or.inl rfl) mw_c ?_
    first | exact Or.inl ⟨by omega, rfl, rfl⟩ | exact Or.inr (⟨by omega, rfl, rfl⟩) | (exfalso; omega)
  · refine rch_run rfl (by decide) 2 (t' := (7, [some (vI x)], [vI 6, vI x], MW b I L)) (ps := []) rfl trivial ?_
    refine rch_br rfl (cd := (6 : Int) ≤ x) (t1 := (14, [some (vI x)], [], MW b I L)) (t2 := (10, [some (vI x)], [], MW b I L)) rfl (fun c7_2 => ?_) (fun c7_2 => ?_)
    · refine rch_run rfl (by decide) 1 (t' := (15, [some (vI x)], [vI 0], MW b I L)) (ps := []) rfl trivial ?_
      refine rch_ret rfl (rt := some (vI 0)) rfl (Or.inl rfl) mw_c ?_
      first | exact Or.inl ⟨by omega, rfl, rfl⟩ | exact Or.inr (⟨by omega, rfl, rfl⟩) | (exfalso; omega)
    · refine rch_run rfl (by decide) 2 (t' := (15, [some (vI x)], [vI 1], MW b I L)) (ps := []) rfl trivial ?_
      refine rch_ret rfl (rt := some (vI 1)) rfl (Or.inr rfl) mw_c ?_
      first | exact Or.inl ⟨by omega, rfl, rfl⟩ | exact Or.inr (⟨by omega, rfl, rfl⟩) | (exfalso; omega)

theorem k_X11_isField (l : Launch) (E : AX) (b : Bool) (I L : Nat → Nat → Int) (x : Int) : Con l E 1 91 [vI x] (MW b I L) 0 0 (fun rt w => ((0 ≤ x ∧ x ≤ 5) ∧ rt = some (vI 1) ∧ w = MW b I L) ∨ ((¬ (0 ≤ x ∧ x ≤ 5)) ∧ rt = some (vI 0) ∧ w = MW b I L)) := by
  refine con_intro (by decide) (Nat.le_of_ble_eq_true rfl) ?_
  show Rch l E 1 91 _ _ _ _ (0, [some (vI x)], [], MW b I L)
  refine rch_run rfl (by decide) 1 (t' := (1, [some (vI x)], [vI x], MW b I L)) (ps := []) rfl trivial ?_
  refine rch_br rfl (cd := x < 0) (t1 := (14, [some (vI x)], [], MW b I L)) (t2 := (4, [some (vI x)], [], MW b I L)) rfl (fun c1_1 => ?_) (fun c1_1 => ?_)
  · refine rch_run rfl (by decide) 1 (t' := (15, [some (vI x)], [vI 0], MW b I L)) (ps := []) rfl trivial ?_
    refine rch_ret rfl (rt := some (vI 0)) rfl (Or.inl rfl) mw_c ?_
    first | exact Or.inl ⟨by omega, rfl, rfl⟩ | exact Or.inr (⟨by omega, rfl, rfl⟩) | (exfalso; omega)
  · refine rch_run rfl (by decide) 2 (t' := (7, [some (vI x)], [vI 6, vI x], MW b I L)) (ps := []) rfl trivial ?_
    refine rch_br rfl (cd := (6 : Int) ≤ x) (t1 := (14, [some (vI x)], [], MW b I L)) (t2 := (10, [some (vI x)], [], MW b I L)) rfl (fun c7_2 => ?_) (fun c7_2 => ?_)
    · refine rch_run rfl (by decide) 1 (t' := (15, [some (vI x)], [vI 0], MW b I L)) (ps := []) rfl trivial ?_
      refine rch_ret rfl (rt := some (vI 0)) rfl (Or.inl rfl) mw_c ?_
      first | exact Or.inl ⟨by omega, rfl, rfl⟩ | exact Or.inr (⟨by omega, rfl, rfl⟩) | (exfalso; omega)
    · refine rch_run rfl (by decide) 2 (t' := (15, [some (vI x)], [vI 1], MW b I L)) (ps := []) rfl trivial ?_
      refine rch_ret rfl (rt := some (vI 1)) rfl (Or.inr rfl) mw_c ?_
      first | exact Or.inl ⟨by omega, rfl, rfl⟩ | exact Or.inr (⟨by omega, rfl, rfl⟩) | (exfalso; omega)

theorem k_X11_isValue (l : Launch) (E : AX) (b : Bool) (I L : Nat → Nat → Int) (x : Int) : Con l E 1 92 [vI x] (MW b I L) 0 0 (fun rt w => ((0 ≤ x ∧ x ≤ 999999) ∧ rt = some (vI 1) ∧ w = MW b I L) ∨ ((¬ (0 ≤ x ∧ x ≤ 999999)) ∧ rt = some (vI 0) ∧ w = MW b I L)) := by
  refine con_intro (by decide) (Nat.le_of_ble_eq_true rfl) ?_
  show Rch l E 1 92 _ _ _ _ (0, [some (vI x)], [], MW b I L)
  refine rch_run rfl (by decide) 1 (t' := (1, [some (vI x)], [vI x], MW b I L)) (ps := []) rfl trivial ?_
  refine rch_br rfl (cd := x < 0) (t1 := (14, [some (vI x)], [], MW b I L)) (t2 := (4, [some (vI x)], [], MW b I L)) rfl (fun c1_1 => ?_) (fun c1_1 => ?_)
  · refine rch_run rfl (by decide) 1 (t' := (15, [some (vI x)], [vI 0], MW b I L)) (ps := []) rfl trivial ?_
    refine rch_ret rfl (rt := some (vI 0)) rfl (Or.inl rfl) mw_c ?_
    first | exact Or.inl ⟨by omega, rfl, rfl⟩ | exact Or.inr (⟨by omega, rfl, rfl⟩) | (exfalso; omega)
  · refine rch_run rfl (by decide) 2 (t' := (7, [some (vI x)], [vI 999999, vI x], MW b I L)) (ps := []) rfl trivial ?_
    refine rch_br rfl (cd := (999999 : Int) < x) (t1 := (14, [some (vI x)], [], MW b I L)) (t2 := (10, [some (vI x)], [], MW b I L)) rfl (fun c7_2 => ?_) (fun c7_2 => ?_)
    · refine rch_run rfl (by decide) 1 (t' := (15, [some (vI x)], [vI 0], MW b I L)) (ps := []) rfl trivial ?_
      refine rch_ret rfl (rt := some (vI 0)) rfl (Or.inl rfl) mw_c ?_
      first | exact Or.inl ⟨by omega, rfl, rfl⟩ | exact Or.inr (⟨by omega, rfl, rfl⟩) | (exfalso; omega)
    · refine rch_run rfl (by decide) 2 (t' := (15, [some (vI x)], [vI 1], MW b I L)) (ps := []) rfl trivial ?_
      refine rch_ret rfl (rt := some (vI 1)) rfl (Or.inr rfl) mw_c ?_
      first | exact Or.inl ⟨by omega, rfl, rfl⟩ | exact Or.inr (⟨by omega, rfl, rfl⟩) | (exfalso; omega)

theorem k_X12_isSource (l : Launch) (E : AX) (b : Bool) (I L : Nat → Nat → Int) (x : Int) : Con l E 1 103 [vI x] (MW b I L) 0 0 (fun rt w => ((0 ≤ x ∧ x ≤ 5) ∧ rt = some (vI 1) ∧ w = MW b I L) ∨ ((¬ (0 ≤ x ∧ x ≤ 5)) ∧ rt = some (vI 0) ∧ w = MW b I L)) := by
  refine con_intro (by decide) (Nat.le_of_ble_eq_true rfl) ?_
  show Rch l E 1 103 _ _ _ _ (0, [some (vI x)], [], MW b I L)
  refine rch_run rfl (by decide) 1 (t' := (1, [some (vI x)], [vI x], MW b I L)) (ps := []) rfl trivial ?_
  refine rch_br rfl (cd := x < 0) (t1 := (14, [some (vI x)], [], MW b I L)) (t2 := (4, [some (vI x)], [], MW b I L)) rfl (fun c1_1 => ?_) (fun c1_1 => ?_)
  · refine rch_run rfl (by decide) 1 (t' := (15, [some (vI x)], [vI 0], MW b I L)) (ps := []) rfl trivial ?_
    refine rch_ret rfl (rt := some (vI 0)) rfl (Or.inl rfl) mw_c ?_
    first | exact Or.inl ⟨by omega, rfl, rfl⟩ | exact Or.inr (⟨by omega, rfl, rfl⟩) | (exfalso; omega)
  · refine rch_run rfl (by decide) 2 (t' := (7, [some (vI x)], [vI 6, vI x], MW b I L)) (ps := []) rfl trivial ?_
    refine rch_br rfl (cd := (6 : Int) ≤ x) (t1 := (14, [some (vI x)], [], MW b I L)) (t2 := (10, [some (vI x)], [], MW b I L)) rfl (fun c7_2 => ?_) (fun c7_2 => ?_)
    · refine rch_run rfl (by decide) 1 (t' := (15, [some (vI x)], [vI 0], MW b I L)) (ps := []) rfl trivial ?_
      refine rch_ret rfl (rt := some (vI 0)) rfl (Or.inl rfl) mw_c ?_
      first | exact Or.inl ⟨by omega, rfl, rfl⟩ | exact Or.inr (⟨by omega, rfl, rfl⟩) | (exfalso; omega)
    · refine rch_run rfl (by decide) 2 (t' := (15, [some (vI x)], [vI 1], MW b I L)) (ps := []) rfl trivial ?_
      refine rch_ret rfl (rt := some (vI 1)) rfl (Or.inr rfl) mw_c ?_
      first | exact Or.inl ⟨by omega, rfl, rfl⟩ | exact Or.inr (⟨by omega, rfl, rfl⟩) | (exfalso; omega)

theorem k_X12_isField (l : Launch) (E : AX) (b : Bool) (I L : Nat → Nat → Int) (x : Int) : Con l E 1 104 [vI x] (MW b I L) 0 0 (fun rt w => ((0 ≤ x ∧ x ≤ 5) ∧ rt = some (vI 1) ∧ w = MW b I L) ∨ ((¬ (0 ≤ x ∧ x ≤ 5)) ∧ rt = some (vI 0) ∧ w = MW b I L)) := by
  refine con_intro (by decide) (Nat.le_of_ble_eq_true rfl) ?_
  show Rch l E 1 104 _ _ _ _ (0, [some (vI x)], [], MW b I L)
  refine rch_run rfl (by decide) 1 (t' := (1, [some (vI x)], [vI x], MW b I L)) (ps := []) rfl trivial ?_
  refine rch_br rfl (cd := x < 0) (t1 := (14, [some (vI x)], [], MW b I L)) (t2 := (4, [some (vI x)], [], MW b I L)) rfl (fun c1_1 => ?_) (fun c1_1 => ?_)
  · refine rch_run rfl (by decide) 1 (t' := (15, [some (vI x)], [vI 0], MW b I L)) (ps := []) rfl trivial ?_
    refine rch_ret rfl (rt := some (vI 0)) rfl (Or.inl rfl) mw_c ?_
    first | exact Or.inl ⟨by omega, rfl, rfl⟩ | exact Or.inr (⟨by omega, rfl, rfl⟩) | (exfalso; omega)
  · refine rch_run rfl (by decide) 2 (t' := (7, [some (vI x)], [vI 6, vI x], MW b I L)) (ps := []) rfl trivial ?_
    refine rch_br rfl (cd := (6 : Int) ≤ x) (t1 := (14, [some (vI x)], [], MW b I L)) (t2 := (10, [some (vI x)], [], MW b I L)) rfl (fun c7_2 => ?_) (fun c7_2 => ?_)
    · refine rch_run rfl (by decide) 1 (t' := (15, [some (vI x)], [vI 0], MW b I L)) (ps := []) rfl trivial ?_
      refine rch_ret rfl (rt := some (vI 0)) rfl (Or.inl rfl) mw_c ?_
      first | exact Or.inl ⟨by omega, rfl, rfl⟩ | exact Or.inr (⟨by omega, rfl, rfl⟩) | (exfalso; omega)
    · refine rch_run rfl (by decide) 2 (t' := (15, [some (vI x)], [vI 1], MW b I L)) (ps := []) rfl trivial ?_
      refine rch_ret rfl (rt := some (vI 1)) rfl (Or.inr rfl) mw_c ?_
      first | exact Or.inl ⟨by omega, rfl, rfl⟩ | exact Or.inr (⟨by omega, rfl, rfl⟩) | (exfalso; omega)

theorem k_X12_isValue (l : Launch) (E : AX) (b : Bool) (I L : Nat → Nat → Int) (x : Int) : Con l E 1 111 [vI x] (MW b I L) 0 0 (fun rt w => ((0 ≤ x ∧ x ≤ 999999) ∧ rt = some (vI 1) ∧ w = MW b I L) ∨ ((¬ (0 ≤ x ∧ x ≤ 999999)) ∧ rt = some (vI 0) ∧ w = MW b I L)) := by
  refine con_intro (by decide) (Nat.le_of_ble_eq_true rfl) ?_
  show Rch l E 1 111 _ _ _ _ (0, [some (vI x)], [], MW b I L)
  refine rch_run rfl (by decide) 1 (t' := (1, [some (vI x)], [vI x], MW b I L)) (ps := []) rfl trivial ?_
  refine rch_br rfl (cd := x < 0) (t1 := (14, [some (vI x)], [], MW b I L)) (t2 := (4, [some (vI x)], [], MW b I L)) rfl (fun c1_1 => ?_) (fun c1_1 => ?_)
  · refine rch_run rfl (by decide) 1 (t' := (15, [some (vI x)], [vI 0], MW b I L)) (ps := []) rfl trivial ?_
    refine rch_ret rfl (rt := some (vI 0)) rfl (Or.inl rfl) mw_c ?_
    first | exact Or.inl ⟨by omega, rfl, rfl⟩ | exact Or.inr (⟨by omega, rfl, rfl⟩) | (exfalso; omega)
  · refine rch_run rfl (by decide) 2 (t' := (7, [some (vI x)], [vI 999999, vI x], MW b I L)) (ps := []) rfl trivial ?_
    refine rch_br rfl (cd := (999999 : Int) < x) (t1 := (14, [some (vI x)], [], MW b I L)) (t2 := (10, [some (vI x)], [], MW b I L)) rfl (fun c7_2 => ?_) (fun c7_2 => ?_)
    · refine rch_run rfl (by decide) 1 (t' := (15, [some (vI x)], [vI 0], MW b I L)) (ps := []) rfl trivial ?_
      refine rch_ret rfl (rt := some (vI 0)) rfl (Or.inl rfl) mw_c ?_
      first | exact Or.inl ⟨by omega, rfl, rfl⟩ | exact Or.inr (⟨by omega, rfl, rfl⟩) | (exfalso; omega)
    · refine rch_run rfl (by decide) 2 (t' := (15, [some (vI x)], [vI 1], MW b I L)) (ps := []) rfl trivial ?_
      refine rch_ret rfl (rt := some (vI 1)) rfl (Or.inr rfl) mw_c ?_
      first | exact Or.inl ⟨by omega, rfl, rfl⟩ | exact Or.inr (⟨by omega, rfl, rfl⟩) | (exfalso; omega)

theorem k_X4_isAlive (l : Launch) (E : AX) (b : Bool) (I L : Nat → Nat → Int) (x : Int) (hn : I 17 0 ≤ 10) : Con l E 1 32 [vR 17, vI x] (MW b I L) 0 0 (fun rt w => ((0 ≤ x ∧ x < I 17 0 ∧ I 20 x.toNat = 0) ∧ rt = some (vI 1) ∧ w = MW b I L) ∨ ((¬ (0 ≤ x ∧ x < I 17 0 ∧ I 20 x.toNat = 0)) ∧ rt = some (vI 0) ∧ w = MW b I L)) := by
  refine con_intro (by decide) (Nat.le_of_ble_eq_true rfl) ?_
  show Rch l E 1 32 _ _ _ _ (0, [some (vR 17), some (vI x)], [], MW b I L)
  refine rch_run rfl (by decide) 1 (t' := (1, [some (vR 17), some (vI x)], [vI x], MW b I L)) (ps := []) rfl trivial ?_
  refine rch_br rfl (cd := x < 0) (t1 := (25, [some (vR 17), some (vI x)], [], MW b I L)) (t2 := (4, [some (vR 17), some (vI x)], [], MW b I L)) rfl (fun c1_1 => ?_) (fun c1_1 => ?_)
  · refine rch_run rfl (by decide) 1 (t' := (26, [some (vR 17), some (vI x)], [vI 0], MW b I L)) (ps := []) rfl trivial ?_
    refine rch_ret rfl (rt := some (vI 0)) rfl (Or.inl rfl) mw_c ?_
    first | exact Or.inl ⟨by omega, rfl, rfl⟩ | exact Or.inr (⟨by omega, rfl, rfl⟩) | (exfalso; omega)
  · refine rch_run rfl (by decide) 3 (t' := (9, [some (vR 17), some (vI x)], [vI (I 17 0), vI x], MW b I L)) (ps := []) rfl trivial ?_
    refine rch_br rfl (cd := I 17 0 ≤ x) (t1 := (25, [some (vR 17), some (vI x)], [], MW b I L)) (t2 := (12, [some (vR 17), some (vI x)], [], MW b I L)) rfl (fun c9_2 => ?_) (fun c9_2 => ?_)
    · refine rch_run rfl (by decide) 1 (t' := (26, [some (vR 17), some (vI x)], [vI 0], MW b I L)) (ps := []) rfl trivial ?_
      refine rch_ret rfl (rt := some (vI 0)) rfl (Or.inl rfl) mw_c ?_
      first | exact Or.inl ⟨by omega, rfl, rfl⟩ | exact Or.inr (⟨by omega, rfl, rfl⟩) | (exfalso; omega)
    · refine rch_run rfl (by decide) 4 (t' := (18, [some (vR 17), some (vI x)], [vI (I 20 x.toNat)], MW b I L)) (ps := [0 ≤ x ∧ x < ((10 : Nat) : Int)]) rfl (by simp only [all_, i32, i64]; first | omega | (simp; done) | (simp; omega)) ?_
      refine rch_br rfl (cd := I 20 x.toNat ≠ 0) (t1 := (25, [some (vR 17), some (vI x)], [], MW b I L)) (t2 := (21, [some (vR 17), some (vI x)], [], MW b I L)) rfl (fun c18_3 => ?_) (fun c18_3 => ?_)
      · refine rch_run rfl (by decide) 1 (t' := (26, [some (vR 17), some (vI x)], [vI 0], MW b I L)) (ps := []) rfl trivial ?_
        refine rch_ret rfl (rt := some (vI 0)) rfl (Or.inl rfl) mw_c ?_
        first | exact Or.inl ⟨by omega, rfl, rfl⟩ | exact Or.inr (⟨by omega, rfl, rfl⟩) | (exfalso; omega)
      · refine rch_run rfl (by decide) 2 (t' := (26, [some (vR 17), some (vI x)], [vI 1], MW b I L)) (ps := []) rfl trivial ?_
        refine rch_ret rfl (rt := some (vI 1)) rfl (Or.inr rfl) mw_c ?_
        first | exact Or.inl ⟨by omega, rfl, rfl⟩ | exact Or.inr (⟨by omega, rfl, rfl⟩) | (exfalso; omega)

theorem k_X12_isRow (l : Launch) (E : AX) (b : Bool) (I L : Nat → Nat → Int) (x : Int) (hn : I 74 4 ≤ 10) : Con l E 1 109 [vR 74, vI x] (MW b I L) 0 0 (fun rt w => ((0 ≤ x ∧ x < I 74 4 ∧ I 80 x.toNat = 0) ∧ rt = some (vI 1) ∧ w = MW b I L) ∨ ((¬ (0 ≤ x ∧ x < I 74 4 ∧ I 80 x.toNat = 0)) ∧ rt = some (vI 0) ∧ w = MW b I L)) := by
  refine con_intro (by decide) (Nat.le_of_ble_eq_true rfl) ?_
  show Rch l E 1 109 _ _ _ _ (0, [some (vR 74), some (vI x)], [], MW b I L)
  refine rch_run rfl (by decide) 1 (t' := (1, [some (vR 74), some (vI x)], [vI x], MW b I L)) (ps := []) rfl trivial ?_
  refine rch_br rfl (cd := x < 0) (t1 := (25, [some (vR 74), some (vI x)], [], MW b I L)) (t2 := (4, [some (vR 74), some (vI x)], [], MW b I L)) rfl (fun c1_1 => ?_) (fun c1_1 => ?_)
  · refine rch_run rfl (by decide) 1 (t' := (26, [some (vR 74), some (vI x)], [vI 0], MW b I L)) (ps := []) rfl trivial ?_
    refine rch_ret rfl (rt := some (vI 0)) rfl (Or.inl rfl) mw_c ?_
    first | exact Or.inl ⟨by omega, rfl, rfl⟩ | exact Or.inr (⟨by omega, rfl, rfl⟩) | (exfalso; omega)
  · refine rch_run rfl (by decide) 3 (t' := (9, [some (vR 74), some (vI x)], [vI (I 74 4), vI x], MW b I L)) (ps := []) rfl trivial ?_
    refine rch_br rfl (cd := I 74 4 ≤ x) (t1 := (25, [some (vR 74), some (vI x)], [], MW b I L)) (t2 := (12, [some (vR 74), some (vI x)], [], MW b I L)) rfl (fun c9_2 => ?_) (fun c9_2 => ?_)
    · refine rch_run rfl (by decide) 1 (t' := (26, [some (vR 74), some (vI x)], [vI 0], MW b I L)) (ps := []) rfl trivial ?_
      refine rch_ret rfl (rt := some (vI 0)) rfl (Or.inl rfl) mw_c ?_
      first | exact Or.inl ⟨by omega, rfl, rfl⟩ | exact Or.inr (⟨by omega, rfl, rfl⟩) | (exfalso; omega)
    · refine rch_run rfl (by decide) 4 (t' := (18, [some (vR 74), some (vI x)], [vI (I 80 x.toNat)], MW b I L)) (ps := [0 ≤ x ∧ x < ((10 : Nat) : Int)]) rfl (by simp only [all_, i32, i64]; first | omega | (simp; done) | (simp; omega)) ?_
      refine rch_br rfl (cd := I 80 x.toNat ≠ 0) (t1 := (25, [some (vR 74), some (vI x)], [], MW b I L)) (t2 := (21, [some (vR 74), some (vI x)], [], MW b I L)) rfl (fun c18_3 => ?_) (fun c18_3 => ?_)
      · refine rch_run rfl (by decide) 1 (t' := (26, [some (vR 74), some (vI x)], [vI 0], MW b I L)) (ps := []) rfl trivial ?_
        refine rch_ret rfl (rt := some (vI 0)) rfl (Or.inl rfl) mw_c ?_
        first | exact Or.inl ⟨by omega, rfl, rfl⟩ | exact Or.inr (⟨by omega, rfl, rfl⟩) | (exfalso; omega)
      · refine rch_run rfl (by decide) 2 (t' := (26, [some (vR 74), some (vI x)], [vI 1], MW b I L)) (ps := []) rfl trivial ?_
        refine rch_ret rfl (rt := some (vI 1)) rfl (Or.inr rfl) mw_c ?_
        first | exact Or.inl ⟨by omega, rfl, rfl⟩ | exact Or.inr (⟨by omega, rfl, rfl⟩) | (exfalso; omega)
end
section
theorem k_X11_trust (l : Launch) (E : AX) (b : Bool) (I L : Nat → Nat → Int) (s : Int) (f : Int) (t : Int) : Con l E 2 62 [vR 0, vI s, vI f, vI t] (MW b I L) 0 0 (fun rt w => (((0 ≤ s ∧ s ≤ 5) ∧ (0 ≤ f ∧ f ≤ 5) ∧ 0 ≤ t ∧ t ≤ 9) ∧ rt = some (vI 1) ∧ w = MW b (upI I 14 ((s * 6) + f).toNat t) L) ∨ ((¬ ((0 ≤ s ∧ s ≤ 5) ∧ (0 ≤ f ∧ f ≤ 5) ∧ 0 ≤ t ∧ t ≤ 9)) ∧ rt = some (vI 0) ∧ w = MW b I L)) := by
  refine con_intro (by decide) (Nat.le_of_ble_eq_true rfl) ?_
  show Rch l E 2 62 _ _ _ _ (0, [some (vR 0), some (vI s), some (vI f), some (vI t)], [], MW b I L)
  refine rch_run rfl (by decide) 1 (t' := (1, [some (vR 0), some (vI s), some (vI f), some (vI t)], [vI s], MW b I L)) (ps := []) rfl trivial ?_
  refine rch_call (h' := 1) (k' := 90) (as := [vI s]) (t1 := (4, [some (vR 0), some (vI s), some (vI f), some (vI t)], [], MW b I L)) rfl rfl (k_X11_isSource l E b I L s ) (by decide) mw_le ?_
  rintro rt9 w9 (⟨k1, rfl, rfl⟩ | ⟨k1, rfl, rfl⟩) _ _
  · show Rch l E 2 62 _ _ _ _ (4, [some (vR 0), some (vI s), some (vI f), some (vI t)], [vI 1], MW b I L)
    have k1 : 0 ≤ s ∧ s ≤ 5 := k1
    refine rch_br rfl (cd := (1 : Int) = 0) (t1 := (24, [some (vR 0), some (vI s), some (vI f), some (vI t)], [], MW b I L)) (t2 := (7, [some (vR 0), some (vI s), some (vI f), some (vI t)], [], MW b I L)) rfl (fun c9 => absurd c9 (by decide)) (fun _ => ?_)
    refine rch_run rfl (by decide) 1 (t' := (8, [some (vR 0), some (vI s), some (vI f), some (vI t)], [vI f], MW b I L)) (ps := []) rfl trivial ?_
    refine rch_call (h' := 1) (k' := 91) (as := [vI f]) (t1 := (11, [some (vR 0), some (vI s), some (vI f), some (vI t)], [], MW b I L)) rfl rfl (k_X11_isField l E b I L f ) (by decide) mw_le ?_
    rintro rt9 w9 (⟨k2, rfl, rfl⟩ | ⟨k2, rfl, rfl⟩) _ _
    · show Rch l E 2 62 _ _ _ _ (11, [some (vR 0), some (vI s), some (vI f), some (vI t)], [vI 1], MW b I L)
      have k2 : 0 ≤ f ∧ f ≤ 5 := k2
      refine rch_br rfl (cd := (1 : Int) = 0) (t1 := (24, [some (vR 0), some (vI s), some (vI f), some (vI t)], [], MW b I L)) (t2 := (14, [some (vR 0), some (vI s), some (vI f), some (vI t)], [], MW b I L)) rfl (fun c9 => absurd c9 (by decide)) (fun _ => ?_)
      refine rch_run rfl (by decide) 1 (t' := (15, [some (vR 0), some (vI s), some (vI f), some (vI t)], [vI t], MW b I L)) (ps := []) rfl trivial ?_
      refine rch_br rfl (cd := t < 0) (t1 := (24, [some (vR 0), some (vI s), some (vI f), some (vI t)], [], MW b I L)) (t2 := (18, [some (vR 0), some (vI s), some (vI f), some (vI t)], [], MW b I L)) rfl (fun c15_3 => ?_) (fun c15_3 => ?_)
      · refine rch_run rfl (by decide) 1 (t' := (25, [some (vR 0), some (vI s), some (vI f), some (vI t)], [vI 0], MW b I L)) (ps := []) rfl trivial ?_
        refine rch_ret rfl (rt := some (vI 0)) rfl (Or.inl rfl) mw_c ?_
        first | exact Or.inl ⟨by omega, rfl, rfl⟩ | exact Or.inr (⟨by omega, rfl, rfl⟩) | (exfalso; omega)
      · refine rch_run rfl (by decide) 2 (t' := (21, [some (vR 0), some (vI s), some (vI f), some (vI t)], [vI 9, vI t], MW b I L)) (ps := []) rfl trivial ?_
        refine rch_br rfl (cd := t ≤ (9 : Int)) (t1 := (26, [some (vR 0), some (vI s), some (vI f), some (vI t)], [], MW b I L)) (t2 := (24, [some (vR 0), some (vI s), some (vI f), some (vI t)], [], MW b I L)) rfl (fun c21_4 => ?_) (fun c21_4 => ?_)
        · refine rch_run rfl (by decide) 11 (t' := (42, [some (vR 0), some (vI s), some (vI f), some (vI t)], [vI 1], MW b (upI I 14 ((s * 6) + f).toNat t) L)) (ps := [i32 (s * 6), i32 ((s * 6) + f), 0 ≤ (s * 6) + f ∧ (s * 6) + f < ((36 : Nat) : Int)]) rfl (by simp only [all_, i32, i64]; first | omega | (simp; done) | (simp; omega)) ?_
          refine rch_ret rfl (rt := some (vI 1)) rfl (Or.inr rfl) mw_c ?_
          first | exact Or.inl ⟨by omega, rfl, rfl⟩ | exact Or.inr (⟨by omega, rfl, rfl⟩) | (exfalso; omega)
        · refine rch_run rfl (by decide) 1 (t' := (25, [some (vR 0), some (vI s), some (vI f), some (vI t)], [vI 0], MW b I L)) (ps := []) rfl trivial ?_
          refine rch_ret rfl (rt := some (vI 0)) rfl (Or.inl rfl) mw_c ?_
          first | exact Or.inl ⟨by omega, rfl, rfl⟩ | exact Or.inr (⟨by omega, rfl, rfl⟩) | (exfalso; omega)
    · show Rch l E 2 62 _ _ _ _ (11, [some (vR 0), some (vI s), some (vI f), some (vI t)], [vI 0], MW b I L)
      have k2 : ¬ (0 ≤ f ∧ f ≤ 5) := k2
      refine rch_br rfl (cd := (0 : Int) = 0) (t1 := (24, [some (vR 0), some (vI s), some (vI f), some (vI t)], [], MW b I L)) (t2 := (14, [some (vR 0), some (vI s), some (vI f), some (vI t)], [], MW b I L)) rfl (fun _ => ?_) (fun c9 => absurd (by decide) c9)
      refine rch_run rfl (by decide) 1 (t' := (25, [some (vR 0), some (vI s), some (vI f), some (vI t)], [vI 0], MW b I L)) (ps := []) rfl trivial ?_
      refine rch_ret rfl (rt := some (vI 0)) rfl (Or.inl rfl) mw_c ?_
      first | exact Or.inl ⟨by omega, rfl, rfl⟩ | exact Or.inr (⟨by omega, rfl, rfl⟩) | (exfalso; omega)
  · show Rch l E 2 62 _ _ _ _ (4, [some (vR 0), some (vI s), some (vI f), some (vI t)], [vI 0], MW b I L)
    have k1 : ¬ (0 ≤ s ∧ s ≤ 5) := k1
    refine rch_br rfl (cd := (0 : Int) = 0) (t1 := (24, [some (vR 0), some (vI s), some (vI f), some (vI t)], [], MW b I L)) (t2 := (7, [some (vR 0), some (vI s), some (vI f), some (vI t)], [], MW b I L)) rfl (fun _ => ?_) (fun c9 => absurd (by decide) c9)
    refine rch_run rfl (by decide) 1 (t' := (25, [some (vR 0), some (vI s), some (vI f), some (vI t)], [vI 0], MW b I L)) (ps := []) rfl trivial ?_
    refine rch_ret rfl (rt := some (vI 0)) rfl (Or.inl rfl) mw_c ?_
    first | exact Or.inl ⟨by omega, rfl, rfl⟩ | exact Or.inr (⟨by omega, rfl, rfl⟩) | (exfalso; omega)

theorem k_X12_trust (l : Launch) (E : AX) (b : Bool) (I L : Nat → Nat → Int) (s : Int) (f : Int) (t : Int) : Con l E 2 105 [vR 74, vI s, vI f, vI t] (MW b I L) 0 0 (fun rt w => (((0 ≤ s ∧ s ≤ 5) ∧ (0 ≤ f ∧ f ≤ 5) ∧ 0 ≤ t ∧ t ≤ 9) ∧ rt = some (vI 1) ∧ w = MW b (upI I 75 ((6 * s) + f).toNat t) L) ∨ ((¬ ((0 ≤ s ∧ s ≤ 5) ∧ (0 ≤ f ∧ f ≤ 5) ∧ 0 ≤ t ∧ t ≤ 9)) ∧ rt = some (vI 0) ∧ w = MW b I L)) := by
  refine con_intro (by decide) (Nat.le_of_ble_eq_true rfl) ?_
  show Rch l E 2 105 _ _ _ _ (0, [some (vR 74), some (vI s), some (vI f), some (vI t)], [], MW b I L)
  refine rch_run rfl (by decide) 1 (t' := (1, [some (vR 74), some (vI s), some (vI f), some (vI t)], [vI s], MW b I L)) (ps := []) rfl trivial ?_
  refine rch_call (h' := 1) (k' := 103) (as := [vI s]) (t1 := (4, [some (vR 74), some (vI s), some (vI f), some (vI t)], [], MW b I L)) rfl rfl (k_X12_isSource l E b I L s ) (by decide) mw_le ?_
  rintro rt9 w9 (⟨k3, rfl, rfl⟩ | ⟨k3, rfl, rfl⟩) _ _
  · show Rch l E 2 105 _ _ _ _ (4, [some (vR 74), some (vI s), some (vI f), some (vI t)], [vI 1], MW b I L)
    have k3 : 0 ≤ s ∧ s ≤ 5 := k3
    refine rch_br rfl (cd := (1 : Int) = 0) (t1 := (24, [some (vR 74), some (vI s), some (vI f), some (vI t)], [], MW b I L)) (t2 := (7, [some (vR 74), some (vI s), some (vI f), some (vI t)], [], MW b I L)) rfl (fun c9 => absurd c9 (by decide)) (fun _ => ?_)
    refine rch_run rfl (by decide) 1 (t' := (8, [some (vR 74), some (vI s), some (vI f), some (vI t)], [vI f], MW b I L)) (ps := []) rfl trivial ?_
    refine rch_call (h' := 1) (k' := 104) (as := [vI f]) (t1 := (11, [some (vR 74), some (vI s), some (vI f), some (vI t)], [], MW b I L)) rfl rfl (k_X12_isField l E b I L f ) (by decide) mw_le ?_
    rintro rt9 w9 (⟨k4, rfl, rfl⟩ | ⟨k4, rfl, rfl⟩) _ _
    · show Rch l E 2 105 _ _ _ _ (11, [some (vR 74), some (vI s), some (vI f), some (vI t)], [vI 1], MW b I L)
      have k4 : 0 ≤ f ∧ f ≤ 5 := k4
      refine rch_br rfl (cd := (1 : Int) = 0) (t1 := (24, [some (vR 74), some (vI s), some (vI f), some (vI t)], [], MW b I L)) (t2 := (14, [some (vR 74), some (vI s), some (vI f), some (vI t)], [], MW b I L)) rfl (fun c9 => absurd c9 (by decide)) (fun _ => ?_)
      refine rch_run rfl (by decide) 1 (t' := (15, [some (vR 74), some (vI s), some (vI f), some (vI t)], [vI t], MW b I L)) (ps := []) rfl trivial ?_
      refine rch_br rfl (cd := t < 0) (t1 := (24, [some (vR 74), some (vI s), some (vI f), some (vI t)], [], MW b I L)) (t2 := (18, [some (vR 74), some (vI s), some (vI f), some (vI t)], [], MW b I L)) rfl (fun c15_3 => ?_) (fun c15_3 => ?_)
      · refine rch_run rfl (by decide) 1 (t' := (25, [some (vR 74), some (vI s), some (vI f), some (vI t)], [vI 0], MW b I L)) (ps := []) rfl trivial ?_
        refine rch_ret rfl (rt := some (vI 0)) rfl (Or.inl rfl) mw_c ?_
        first | exact Or.inl ⟨by omega, rfl, rfl⟩ | exact Or.inr (⟨by omega, rfl, rfl⟩) | (exfalso; omega)
      · refine rch_run rfl (by decide) 2 (t' := (21, [some (vR 74), some (vI s), some (vI f), some (vI t)], [vI 9, vI t], MW b I L)) (ps := []) rfl trivial ?_
        refine rch_br rfl (cd := t ≤ (9 : Int)) (t1 := (26, [some (vR 74), some (vI s), some (vI f), some (vI t)], [], MW b I L)) (t2 := (24, [some (vR 74), some (vI s), some (vI f), some (vI t)], [], MW b I L)) rfl (fun c21_4 => ?_) (fun c21_4 => ?_)
        · refine rch_run rfl (by decide) 10 (t' := (39, [some (vR 74), some (vI s), some (vI f), some (vI t)], [vI 1], MW b (upI I 75 ((6 * s) + f).toNat t) L)) (ps := [i32 (6 * s), i32 ((6 * s) + f), 0 ≤ (6 * s) + f ∧ (6 * s) + f < ((36 : Nat) : Int)]) rfl (by simp only [all_, i32, i64]; first | omega | (simp; done) | (simp; omega)) ?_
          refine rch_ret rfl (rt := some (vI 1)) rfl (Or.inr rfl) mw_c ?_
          first | exact Or.inl ⟨by omega, rfl, rfl⟩ | exact Or.inr (⟨by omega, rfl, rfl⟩) | (exfalso; omega)
        · refine rch_run rfl (by decide) 1 (t' := (25, [some (vR 74), some (vI s), some (vI f), some (vI t)], [vI 0], MW b I L)) (ps := []) rfl trivial ?_
          refine rch_ret rfl (rt := some (vI 0)) rfl (Or.inl rfl) mw_c ?_
          first | exact Or.inl ⟨by omega, rfl, rfl⟩ | exact Or.inr (⟨by omega, rfl, rfl⟩) | (exfalso; omega)
    · show Rch l E 2 105 _ _ _ _ (11, [some (vR 74), some (vI s), some (vI f), some (vI t)], [vI 0], MW b I L)
      have k4 : ¬ (0 ≤ f ∧ f ≤ 5) := k4
      refine rch_br rfl (cd := (0 : Int) = 0) (t1 := (24, [some (vR 74), some (vI s), some (vI f), some (vI t)], [], MW b I L)) (t2 := (14, [some (vR 74), some (vI s), some (vI f), some (vI t)], [], MW b I L)) rfl (fun _ => ?_) (fun c9 => absurd (by decide) c9)
      refine rch_run rfl (by decide) 1 (t' := (25, [some (vR 74), some (vI s), some (vI f), some (vI t)], [vI 0], MW b I L)) (ps := []) rfl trivial ?_
      refine rch_ret rfl (rt := some (vI 0)) rfl (Or.inl rfl) mw_c ?_
      first | exact Or.inl ⟨by omega, rfl, rfl⟩ | exact Or.inr (⟨by omega, rfl, rfl⟩) | (exfalso; omega)
  · show Rch l E 2 105 _ _ _ _ (4, [some (vR 74), some (vI s), some (vI f), some (vI t)], [vI 0], MW b I L)
    have k3 : ¬ (0 ≤ s ∧ s ≤ 5) := k3
    refine rch_br rfl (cd := (0 : Int) = 0) (t1 := (24, [some (vR 74), some (vI s), some (vI f), some (vI t)], [], MW b I L)) (t2 := (7, [some (vR 74), some (vI s), some (vI f), some (vI t)], [], MW b I L)) rfl (fun _ => ?_) (fun c9 => absurd (by decide) c9)
    refine rch_run rfl (by decide) 1 (t' := (25, [some (vR 74), some (vI s), some (vI f), some (vI t)], [vI 0], MW b I L)) (ps := []) rfl trivial ?_
    refine rch_ret rfl (rt := some (vI 0)) rfl (Or.inl rfl) mw_c ?_
    first | exact Or.inl ⟨by omega, rfl, rfl⟩ | exact Or.inr (⟨by omega, rfl, rfl⟩) | (exfalso; omega)

theorem k_X11_fade (l : Launch) (E : AX) (b : Bool) (I L : Nat → Nat → Int) (f : Int) (t : Int) : Con l E 2 63 [vR 0, vI f, vI t] (MW b I L) 0 0 (fun rt w => (((0 ≤ f ∧ f ≤ 5) ∧ 0 ≤ t ∧ t ≤ 50) ∧ rt = some (vI 1) ∧ w = MW b (upI I 15 f.toNat t) L) ∨ ((¬ ((0 ≤ f ∧ f ≤ 5) ∧ 0 ≤ t ∧ t ≤ 50)) ∧ rt = some (vI 0) ∧ w = MW b I L)) := by
  refine con_intro (by decide) (Nat.le_of_ble_eq_true rfl) ?_
  show Rch l E 2 63 _ _ _ _ (0, [some (vR 0), some (vI f), some (vI t)], [], MW b I L)
  refine rch_run rfl (by decide) 1 (t' := (1, [some (vR 0), some (vI f), some (vI t)], [vI f], MW b I L)) (ps := []) rfl trivial ?_
  refine rch_call (h' := 1) (k' := 91) (as := [vI f]) (t1 := (4, [some (vR 0), some (vI f), some (vI t)], [], MW b I L)) rfl rfl (k_X11_isField l E b I L f ) (by decide) mw_le ?_
  rintro rt9 w9 (⟨k5, rfl, rfl⟩ | ⟨k5, rfl, rfl⟩) _ _
  · show Rch l E 2 63 _ _ _ _ (4, [some (vR 0), some (vI f), some (vI t)], [vI 1], MW b I L)
    have k5 : 0 ≤ f ∧ f ≤ 5 := k5
    refine rch_br rfl (cd := (1 : Int) = 0) (t1 := (17, [some (vR 0), some (vI f), some (vI t)], [], MW b I L)) (t2 := (7, [some (vR 0), some (vI f), some (vI t)], [], MW b I L)) rfl (fun c9 => absurd c9 (by decide)) (fun _ => ?_)
    refine rch_run rfl (by decide) 1 (t' := (8, [some (vR 0), some (vI f), some (vI t)], [vI t], MW b I L)) (ps := []) rfl trivial ?_
    refine rch_br rfl (cd := t < 0) (t1 := (17, [some (vR 0), some (vI f), some (vI t)], [], MW b I L)) (t2 := (11, [some (vR 0), some (vI f), some (vI t)], [], MW b I L)) rfl (fun c8_2 => ?_) (fun c8_2 => ?_)
    · refine rch_run rfl (by decide) 1 (t' := (18, [some (vR 0), some (vI f), some (vI t)], [vI 0], MW b I L)) (ps := []) rfl trivial ?_
      refine rch_ret rfl (rt := some (vI 0)) rfl (Or.inl rfl) mw_c ?_
      first | exact Or.inl ⟨by omega, rfl, rfl⟩ | exact Or.inr (⟨by omega, rfl, rfl⟩) | (exfalso; omega)
    · refine rch_run rfl (by decide) 2 (t' := (14, [some (vR 0), some (vI f), some (vI t)], [vI 50, vI t], MW b I L)) (ps := []) rfl trivial ?_
      refine rch_br rfl (cd := t ≤ (50 : Int)) (t1 := (19, [some (vR 0), some (vI f), some (vI t)], [], MW b I L)) (t2 := (17, [some (vR 0), some (vI f), some (vI t)], [], MW b I L)) rfl (fun c14_3 => ?_) (fun c14_3 => ?_)
      · refine rch_run rfl (by decide) 7 (t' := (30, [some (vR 0), some (vI f), some (vI t)], [vI 1], MW b (upI I 15 f.toNat t) L)) (ps := [0 ≤ f ∧ f < ((6 : Nat) : Int)]) rfl (by simp only [all_, i32, i64]; first | omega | (simp; done) | (simp; omega)) ?_
        refine rch_ret rfl (rt := some (vI 1)) rfl (Or.inr rfl) mw_c ?_
        first | exact Or.inl ⟨by omega, rfl, rfl⟩ | exact Or.inr (⟨by omega, rfl, rfl⟩) | (exfalso; omega)
      · refine rch_run rfl (by decide) 1 (t' := (18, [some (vR 0), some (vI f), some (vI t)], [vI 0], MW b I L)) (ps := []) rfl trivial ?_
        refine rch_ret rfl (rt := some (vI 0)) rfl (Or.inl rfl) mw_c ?_
        first | exact Or.inl ⟨by omega, rfl, rfl⟩ | exact Or.inr (⟨by omega, rfl, rfl⟩) | (exfalso; omega)
  · show Rch l E 2 63 _ _ _ _ (4, [some (vR 0), some (vI f), some (vI t)], [vI 0], MW b I L)
    have k5 : ¬ (0 ≤ f ∧ f ≤ 5) := k5
    refine rch_br rfl (cd := (0 : Int) = 0) (t1 := (17, [some (vR 0), some (vI f), some (vI t)], [], MW b I L)) (t2 := (7, [some (vR 0), some (vI f), some (vI t)], [], MW b I L)) rfl (fun _ => ?_) (fun c9 => absurd (by decide) c9)
    refine rch_run rfl (by decide) 1 (t' := (18, [some (vR 0), some (vI f), some (vI t)], [vI 0], MW b I L)) (ps := []) rfl trivial ?_
    refine rch_ret rfl (rt := some (vI 0)) rfl (Or.inl rfl) mw_c ?_
    first | exact Or.inl ⟨by omega, rfl, rfl⟩ | exact Or.inr (⟨by omega, rfl, rfl⟩) | (exfalso; omega)

theorem k_X12_fade (l : Launch) (E : AX) (b : Bool) (I L : Nat → Nat → Int) (f : Int) (t : Int) : Con l E 2 106 [vR 74, vI f, vI t] (MW b I L) 0 0 (fun rt w => (((0 ≤ f ∧ f ≤ 5) ∧ 0 ≤ t ∧ t ≤ 50) ∧ rt = some (vI 1) ∧ w = MW b (upI I 76 f.toNat t) L) ∨ ((¬ ((0 ≤ f ∧ f ≤ 5) ∧ 0 ≤ t ∧ t ≤ 50)) ∧ rt = some (vI 0) ∧ w = MW b I L)) := by
  refine con_intro (by decide) (Nat.le_of_ble_eq_true rfl) ?_
  show Rch l E 2 106 _ _ _ _ (0, [some (vR 74), some (vI f), some (vI t)], [], MW b I L)
  refine rch_run rfl (by decide) 1 (t' := (1, [some (vR 74), some (vI f), some (vI t)], [vI f], MW b I L)) (ps := []) rfl trivial ?_
  refine rch_call (h' := 1) (k' := 104) (as := [vI f]) (t1 := (4, [some (vR 74), some (vI f), some (vI t)], [], MW b I L)) rfl rfl (k_X12_isField l E b I L f ) (by decide) mw_le ?_
  rintro rt9 w9 (⟨k6, rfl, rfl⟩ | ⟨k6, rfl, rfl⟩) _ _
  · show Rch l E 2 106 _ _ _ _ (4, [some (vR 74), some (vI f), some (vI t)], [vI 1], MW b I L)
    have k6 : 0 ≤ f ∧ f ≤ 5 := k6
    refine rch_br rfl (cd := (1 : Int) = 0) (t1 := (17, [some (vR 74), some (vI f), some (vI t)], [], MW b I L)) (t2 := (7, [some (vR 74), some (vI f), some (vI t)], [], MW b I L)) rfl (fun c9 => absurd c9 (by decide)) (fun _ => ?_)
    refine rch_run rfl (by decide) 1 (t' := (8, [some (vR 74), some (vI f), some (vI t)], [vI t], MW b I L)) (ps := []) rfl trivial ?_
    refine rch_br rfl (cd := t < 0) (t1 := (17, [some (vR 74), some (vI f), some (vI t)], [], MW b I L)) (t2 := (11, [some (vR 74), some (vI f), some (vI t)], [], MW b I L)) rfl (fun c8_2 => ?_) (fun c8_2 => ?_)
    · refine rch_run rfl (by decide) 1 (t' := (18, [some (vR 74), some (vI f), some (vI t)], [vI 0], MW b I L)) (ps := []) rfl trivial ?_
      refine rch_ret rfl (rt := some (vI 0)) rfl (Or.inl rfl) mw_c ?_
      first | exact Or.inl ⟨by omega, rfl, rfl⟩ | exact Or.inr (⟨by omega, rfl, rfl⟩) | (exfalso; omega)
    · refine rch_run rfl (by decide) 2 (t' := (14, [some (vR 74), some (vI f), some (vI t)], [vI 50, vI t], MW b I L)) (ps := []) rfl trivial ?_
      refine rch_br rfl (cd := t ≤ (50 : Int)) (t1 := (19, [some (vR 74), some (vI f), some (vI t)], [], MW b I L)) (t2 := (17, [some (vR 74), some (vI f), some (vI t)], [], MW b I L)) rfl (fun c14_3 => ?_) (fun c14_3 => ?_)
      · refine rch_run rfl (by decide) 6 (t' := (27, [some (vR 74), some (vI f), some (vI t)], [vI 1], MW b (upI I 76 f.toNat t) L)) (ps := [0 ≤ f ∧ f < ((6 : Nat) : Int)]) rfl (by simp only [all_, i32, i64]; first | omega | (simp; done) | (simp; omega)) ?_
        refine rch_ret rfl (rt := some (vI 1)) rfl (Or.inr rfl) mw_c ?_
        first | exact Or.inl ⟨by omega, rfl, rfl⟩ | exact Or.inr (⟨by omega, rfl, rfl⟩) | (exfalso; omega)
      · refine rch_run rfl (by decide) 1 (t' := (18, [some (vR 74), some (vI f), some (vI t)], [vI 0], MW b I L)) (ps := []) rfl trivial ?_
        refine rch_ret rfl (rt := some (vI 0)) rfl (Or.inl rfl) mw_c ?_
        first | exact Or.inl ⟨by omega, rfl, rfl⟩ | exact Or.inr (⟨by omega, rfl, rfl⟩) | (exfalso; omega)
  · show Rch l E 2 106 _ _ _ _ (4, [some (vR 74), some (vI f), some (vI t)], [vI 0], MW b I L)
    have k6 : ¬ (0 ≤ f ∧ f ≤ 5) := k6
    refine rch_br rfl (cd := (0 : Int) = 0) (t1 := (17, [some (vR 74), some (vI f), some (vI t)], [], MW b I L)) (t2 := (7, [some (vR 74), some (vI f), some (vI t)], [], MW b I L)) rfl (fun _ => ?_) (fun c9 => absurd (by decide) c9)
    refine rch_run rfl (by decide) 1 (t' := (18, [some (vR 74), some (vI f), some (vI t)], [vI 0], MW b I L)) (ps := []) rfl trivial ?_
    refine rch_ret rfl (rt := some (vI 0)) rfl (Or.inl rfl) mw_c ?_
    first | exact Or.inl ⟨by omega, rfl, rfl⟩ | exact Or.inr (⟨by omega, rfl, rfl⟩) | (exfalso; omega)

theorem k_X11_rights (l : Launch) (E : AX) (b : Bool) (I L : Nat → Nat → Int) (f : Int) (t : Int) : Con l E 2 64 [vR 0, vI f, vI t] (MW b I L) 0 0 (fun rt w => (((0 ≤ f ∧ f ≤ 5) ∧ 0 ≤ t ∧ t ≤ 63) ∧ rt = some (vI 1) ∧ w = MW b (upI I 16 f.toNat t) L) ∨ ((¬ ((0 ≤ f ∧ f ≤ 5) ∧ 0 ≤ t ∧ t ≤ 63)) ∧ rt = some (vI 0) ∧ w = MW b I L)) := by
  refine con_intro (by decide) (Nat.le_of_ble_eq_true rfl) ?_
  show Rch l E 2 64 _ _ _ _ (0, [some (vR 0), some (vI f), some (vI t)], [], MW b I L)
  refine rch_run rfl (by decide) 1 (t' := (1, [some (vR 0), some (vI f), some (vI t)], [vI f], MW b I L)) (ps := []) rfl trivial ?_
  refine rch_call (h' := 1) (k' := 90) (as := [vI f]) (t1 := (4, [some (vR 0), some (vI f), some (vI t)], [], MW b I L)) rfl rfl (k_X11_isSource l E b I L f ) (by decide) mw_le ?_
  rintro rt9 w9 (⟨k7, rfl, rfl⟩ | ⟨k7, rfl, rfl⟩) _ _
  · show Rch l E 2 64 _ _ _ _ (4, [some (vR 0), some (vI f), some (vI t)], [vI 1], MW b I L)
    have k7 : 0 ≤ f ∧ f ≤ 5 := k7
    refine rch_br rfl (cd := (1 : Int) = 0) (t1 := (17, [some (vR 0), some (vI f), some (vI t)], [], MW b I L)) (t2 := (7, [some (vR 0), some (vI f), some (vI t)], [], MW b I L)) rfl (fun c9 => absurd c9 (by decide)) (fun _ => ?_)
    refine rch_run rfl (by decide) 1 (t' := (8, [some (vR 0), some (vI f), some (vI t)], [vI t], MW b I L)) (ps := []) rfl trivial ?_
    refine rch_br rfl (cd := t < 0) (t1 := (17, [some (vR 0), some (vI f), some (vI t)], [], MW b I L)) (t2 := (11, [some (vR 0), some (vI f), some (vI t)], [], MW b I L)) rfl (fun c8_2 => ?_) (fun c8_2 => ?_)
    · refine rch_run rfl (by decide) 1 (t' := (18, [some (vR 0), some (vI f), some (vI t)], [vI 0], MW b I L)) (ps := []) rfl trivial ?_
      refine rch_ret rfl (rt := some (vI 0)) rfl (Or.inl rfl) mw_c ?_
      first | exact Or.inl ⟨by omega, rfl, rfl⟩ | exact Or.inr (⟨by omega, rfl, rfl⟩) | (exfalso; omega)
    · refine rch_run rfl (by decide) 2 (t' := (14, [some (vR 0), some (vI f), some (vI t)], [vI 63, vI t], MW b I L)) (ps := []) rfl trivial ?_
      refine rch_br rfl (cd := t ≤ (63 : Int)) (t1 := (19, [some (vR 0), some (vI f), some (vI t)], [], MW b I L)) (t2 := (17, [some (vR 0), some (vI f), some (vI t)], [], MW b I L)) rfl (fun c14_3 => ?_) (fun c14_3 => ?_)
      · refine rch_run rfl (by decide) 6 (t' := (27, [some (vR 0), some (vI f), some (vI t)], [vI 1], MW b (upI I 16 f.toNat t) L)) (ps := [0 ≤ f ∧ f < ((6 : Nat) : Int)]) rfl (by simp only [all_, i32, i64]; first | omega | (simp; done) | (simp; omega)) ?_
        refine rch_ret rfl (rt := some (vI 1)) rfl (Or.inr rfl) mw_c ?_
        first | exact Or.inl ⟨by omega, rfl, rfl⟩ | exact Or.inr (⟨by omega, rfl, rfl⟩) | (exfalso; omega)
      · refine rch_run rfl (by decide) 1 (t' := (18, [some (vR 0), some (vI f), some (vI t)], [vI 0], MW b I L)) (ps := []) rfl trivial ?_
        refine rch_ret rfl (rt := some (vI 0)) rfl (Or.inl rfl) mw_c ?_
        first | exact Or.inl ⟨by omega, rfl, rfl⟩ | exact Or.inr (⟨by omega, rfl, rfl⟩) | (exfalso; omega)
  · show Rch l E 2 64 _ _ _ _ (4, [some (vR 0), some (vI f), some (vI t)], [vI 0], MW b I L)
    have k7 : ¬ (0 ≤ f ∧ f ≤ 5) := k7
    refine rch_br rfl (cd := (0 : Int) = 0) (t1 := (17, [some (vR 0), some (vI f), some (vI t)], [], MW b I L)) (t2 := (7, [some (vR 0), some (vI f), some (vI t)], [], MW b I L)) rfl (fun _ => ?_) (fun c9 => absurd (by decide) c9)
    refine rch_run rfl (by decide) 1 (t' := (18, [some (vR 0), some (vI f), some (vI t)], [vI 0], MW b I L)) (ps := []) rfl trivial ?_
    refine rch_ret rfl (rt := some (vI 0)) rfl (Or.inl rfl) mw_c ?_
    first | exact Or.inl ⟨by omega, rfl, rfl⟩ | exact Or.inr (⟨by omega, rfl, rfl⟩) | (exfalso; omega)

theorem k_X12_rights (l : Launch) (E : AX) (b : Bool) (I L : Nat → Nat → Int) (f : Int) (t : Int) : Con l E 2 107 [vR 74, vI f, vI t] (MW b I L) 0 0 (fun rt w => (((0 ≤ f ∧ f ≤ 5) ∧ 0 ≤ t ∧ t ≤ 63) ∧ rt = some (vI 1) ∧ w = MW b (upI I 77 f.toNat t) L) ∨ ((¬ ((0 ≤ f ∧ f ≤ 5) ∧ 0 ≤ t ∧ t ≤ 63)) ∧ rt = some (vI 0) ∧ w = MW b I L)) := by
  refine con_intro (by decide) (Nat.le_of_ble_eq_true rfl) ?_
  show Rch l E 2 107 _ _ _ _ (0, [some (vR 74), some (vI f), some (vI t)], [], MW b I L)
  refine rch_run rfl (by decide) 1 (t' := (1, [some (vR 74), some (vI f), some (vI t)], [vI f], MW b I L)) (ps := []) rfl trivial ?_
  refine rch_call (h' := 1) (k' := 103) (as := [vI f]) (t1 := (4, [some (vR 74), some (vI f), some (vI t)], [], MW b I L)) rfl rfl (k_X12_isSource l E b I L f ) (by decide) mw_le ?_
  rintro rt9 w9 (⟨k8, rfl, rfl⟩ | ⟨k8, rfl, rfl⟩) _ _
  · show Rch l E 2 107 _ _ _ _ (4, [some (vR 74), some (vI f), some (vI t)], [vI 1], MW b I L)
    have k8 : 0 ≤ f ∧ f ≤ 5 := k8
    refine rch_br rfl (cd := (1 : Int) = 0) (t1 := (17, [some (vR 74), some (vI f), some (vI t)], [], MW b I L)) (t2 := (7, [some (vR 74), some (vI f), some (vI t)], [], MW b I L)) rfl (fun c9 => absurd c9 (by decide)) (fun _ => ?_)
    refine rch_run rfl (by decide) 1 (t' := (8, [some (vR 74), some (vI f), some (vI t)], [vI t], MW b I L)) (ps := []) rfl trivial ?_
    refine rch_br rfl (cd := t < 0) (t1 := (17, [some (vR 74), some (vI f), some (vI t)], [], MW b I L)) (t2 := (11, [some (vR 74), some (vI f), some (vI t)], [], MW b I L)) rfl (fun c8_2 => ?_) (fun c8_2 => ?_)
    · refine rch_run rfl (by decide) 1 (t' := (18, [some (vR 74), some (vI f), some (vI t)], [vI 0], MW b I L)) (ps := []) rfl trivial ?_
      refine rch_ret rfl (rt := some (vI 0)) rfl (Or.inl rfl) mw_c ?_
      first | exact Or.inl ⟨by omega, rfl, rfl⟩ | exact Or.inr (⟨by omega, rfl, rfl⟩) | (exfalso; omega)
    · refine rch_run rfl (by decide) 2 (t' := (14, [some (vR 74), some (vI f), some (vI t)], [vI 63, vI t], MW b I L)) (ps := []) rfl trivial ?_
      refine rch_br rfl (cd := t ≤ (63 : Int)) (t1 := (19, [some (vR 74), some (vI f), some (vI t)], [], MW b I L)) (t2 := (17, [some (vR 74), some (vI f), some (vI t)], [], MW b I L)) rfl (fun c14_3 => ?_) (fun c14_3 => ?_)
      · refine rch_run rfl (by decide) 6 (t' := (27, [some (vR 74), some (vI f), some (vI t)], [vI 1], MW b (upI I 77 f.toNat t) L)) (ps := [0 ≤ f ∧ f < ((6 : Nat) : Int)]) rfl (by simp only [all_, i32, i64]; first | omega | (simp; done) | (simp; omega)) ?_
        refine rch_ret rfl (rt := some (vI 1)) rfl (Or.inr rfl) mw_c ?_
        first | exact Or.inl ⟨by omega, rfl, rfl⟩ | exact Or.inr (⟨by omega, rfl, rfl⟩) | (exfalso; omega)
      · refine rch_run rfl (by decide) 1 (t' := (18, [some (vR 74), some (vI f), some (vI t)], [vI 0], MW b I L)) (ps := []) rfl trivial ?_
        refine rch_ret rfl (rt := some (vI 0)) rfl (Or.inl rfl) mw_c ?_
        first | exact Or.inl ⟨by omega, rfl, rfl⟩ | exact Or.inr (⟨by omega, rfl, rfl⟩) | (exfalso; omega)
  · show Rch l E 2 107 _ _ _ _ (4, [some (vR 74), some (vI f), some (vI t)], [vI 0], MW b I L)
    have k8 : ¬ (0 ≤ f ∧ f ≤ 5) := k8
    refine rch_br rfl (cd := (0 : Int) = 0) (t1 := (17, [some (vR 74), some (vI f), some (vI t)], [], MW b I L)) (t2 := (7, [some (vR 74), some (vI f), some (vI t)], [], MW b I L)) rfl (fun _ => ?_) (fun c9 => absurd (by decide) c9)
    refine rch_run rfl (by decide) 1 (t' := (18, [some (vR 74), some (vI f), some (vI t)], [vI 0], MW b I L)) (ps := []) rfl trivial ?_
    refine rch_ret rfl (rt := some (vI 0)) rfl (Or.inl rfl) mw_c ?_
    first | exact Or.inl ⟨by omega, rfl, rfl⟩ | exact Or.inr (⟨by omega, rfl, rfl⟩) | (exfalso; omega)

theorem k_X11_later (l : Launch) (E : AX) (b : Bool) (I L : Nat → Nat → Int) (d : Int) (hd : 0 ≤ I 0 0 ∧ I 0 0 ≤ 100000) : Con l E 1 69 [vR 0, vI d] (MW b I L) 0 0 (fun rt w => ((0 ≤ d ∧ d ≤ 1000 ∧ I 0 0 + d ≤ 100000) ∧ rt = some (vI ((I 0 0) + d)) ∧ w = MW b (upI I 0 0 ((I 0 0) + d)) L) ∨ ((¬ (0 ≤ d ∧ d ≤ 1000 ∧ I 0 0 + d ≤ 100000)) ∧ rt = some (vI (-1)) ∧ w = MW b I L)) := by
  refine con_intro (by decide) (Nat.le_of_ble_eq_true rfl) ?_
  show Rch l E 1 69 _ _ _ _ (0, [some (vR 0), some (vI d)], [], MW b I L)
  refine rch_run rfl (by decide) 1 (t' := (1, [some (vR 0), some (vI d)], [vI d], MW b I L)) (ps := []) rfl trivial ?_
  refine rch_br rfl (cd := d < 0) (t1 := (22, [some (vR 0), some (vI d)], [], MW b I L)) (t2 := (4, [some (vR 0), some (vI d)], [], MW b I L)) rfl (fun c1_1 => ?_) (fun c1_1 => ?_)
  · refine rch_run rfl (by decide) 1 (t' := (23, [some (vR 0), some (vI d)], [vI (-1)], MW b I L)) (ps := []) rfl trivial ?_
    refine rch_ret rfl (rt := some (vI (-1))) rfl trivial mw_c ?_
    first | exact Or.inl ⟨by omega, rfl, rfl⟩ | exact Or.inr (⟨by omega, rfl, rfl⟩) | (exfalso; omega)
  · refine rch_run rfl (by decide) 2 (t' := (8, [some (vR 0), some (vI d)], [vI 1000, vI d], MW b I L)) (ps := []) rfl trivial ?_
    refine rch_br rfl (cd := (1000 : Int) < d) (t1 := (22, [some (vR 0), some (vI d)], [], MW b I L)) (t2 := (11, [some (vR 0), some (vI d)], [], MW b I L)) rfl (fun c8_2 => ?_) (fun c8_2 => ?_)
    · refine rch_run rfl (by decide) 1 (t' := (23, [some (vR 0), some (vI d)], [vI (-1)], MW b I L)) (ps := []) rfl trivial ?_
      refine rch_ret rfl (rt := some (vI (-1))) rfl trivial mw_c ?_
      first | exact Or.inl ⟨by omega, rfl, rfl⟩ | exact Or.inr (⟨by omega, rfl, rfl⟩) | (exfalso; omega)
    · refine rch_run rfl (by decide) 5 (t' := (19, [some (vR 0), some (vI d)], [vI 100000, vI ((I 0 0) + d)], MW b I L)) (ps := [i32 ((I 0 0) + d)]) rfl (by simp only [all_, i32, i64]; first | omega | (simp; done) | (simp; omega)) ?_
      refine rch_br rfl (cd := (I 0 0) + d ≤ (100000 : Int)) (t1 := (24, [some (vR 0), some (vI d)], [], MW b I L)) (t2 := (22, [some (vR 0), some (vI d)], [], MW b I L)) rfl (fun c19_3 => ?_) (fun c19_3 => ?_)
      · refine rch_run rfl (by decide) 8 (t' := (38, [some (vR 0), some (vI d)], [vI ((I 0 0) + d)], MW b (upI I 0 0 ((I 0 0) + d)) L)) (ps := [i32 ((I 0 0) + d)]) rfl (by simp only [all_, i32, i64]; first | omega | (simp; done) | (simp; omega)) ?_
        refine rch_ret rfl (rt := some (vI ((I 0 0) + d))) rfl trivial mw_c ?_
        first | exact Or.inl ⟨by omega, rfl, rfl⟩ | exact Or.inr (⟨by omega, rfl, rfl⟩) | (exfalso; omega)
      · refine rch_run rfl (by decide) 1 (t' := (23, [some (vR 0), some (vI d)], [vI (-1)], MW b I L)) (ps := []) rfl trivial ?_
        refine rch_ret rfl (rt := some (vI (-1))) rfl trivial mw_c ?_
        first | exact Or.inl ⟨by omega, rfl, rfl⟩ | exact Or.inr (⟨by omega, rfl, rfl⟩) | (exfalso; omega)

theorem k_X12_later (l : Launch) (E : AX) (b : Bool) (I L : Nat → Nat → Int) (d : Int) (hd : 0 ≤ I 74 0 ∧ I 74 0 ≤ 100000) : Con l E 1 118 [vR 74, vI d] (MW b I L) 0 0 (fun rt w => ((0 ≤ d ∧ d ≤ 1000 ∧ I 74 0 + d ≤ 100000) ∧ rt = some (vI ((I 74 0) + d)) ∧ w = MW b (upI I 74 0 ((I 74 0) + d)) L) ∨ ((¬ (0 ≤ d ∧ d ≤ 1000 ∧ I 74 0 + d ≤ 100000)) ∧ rt = some (vI (-1)) ∧ w = MW b I L)) := by
  refine con_intro (by decide) (Nat.le_of_ble_eq_true rfl) ?_
  show Rch l E 1 118 _ _ _ _ (0, [some (vR 74), some (vI d)], [], MW b I L)
  refine rch_run rfl (by decide) 1 (t' := (1, [some (vR 74), some (vI d)], [vI d], MW b I L)) (ps := []) rfl trivial ?_
  refine rch_br rfl (cd := d < 0) (t1 := (22, [some (vR 74), some (vI d)], [], MW b I L)) (t2 := (4, [some (vR 74), some (vI d)], [], MW b I L)) rfl (fun c1_1 => ?_) (fun c1_1 => ?_)
  · refine rch_run rfl (by decide) 1 (t' := (23, [some (vR 74), some (vI d)], [vI (-1)], MW b I L)) (ps := []) rfl trivial ?_
    refine rch_ret rfl (rt := some (vI (-1))) rfl trivial mw_c ?_
    first | exact Or.inl ⟨by omega, rfl, rfl⟩ | exact Or.inr (⟨by omega, rfl, rfl⟩) | (exfalso; omega)
  · refine rch_run rfl (by decide) 2 (t' := (8, [some (vR 74), some (vI d)], [vI 1000, vI d], MW b I L)) (ps := []) rfl trivial ?_
    refine rch_br rfl (cd := (1000 : Int) < d) (t1 := (22, [some (vR 74), some (vI d)], [], MW b I L)) (t2 := (11, [some (vR 74), some (vI d)], [], MW b I L)) rfl (fun c8_2 => ?_) (fun c8_2 => ?_)
    · refine rch_run rfl (by decide) 1 (t' := (23, [some (vR 74), some (vI d)], [vI (-1)], MW b I L)) (ps := []) rfl trivial ?_
      refine rch_ret rfl (rt := some (vI (-1))) rfl trivial mw_c ?_
      first | exact Or.inl ⟨by omega, rfl, rfl⟩ | exact Or.inr (⟨by omega, rfl, rfl⟩) | (exfalso; omega)
    · refine rch_run rfl (by decide) 5 (t' := (19, [some (vR 74), some (vI d)], [vI 100000, vI ((I 74 0) + d)], MW b I L)) (ps := [i32 ((I 74 0) + d)]) rfl (by simp only [all_, i32, i64]; first | omega | (simp; done) | (simp; omega)) ?_
      refine rch_br rfl (cd := (I 74 0) + d ≤ (100000 : Int)) (t1 := (24, [some (vR 74), some (vI d)], [], MW b I L)) (t2 := (22, [some (vR 74), some (vI d)], [], MW b I L)) rfl (fun c19_3 => ?_) (fun c19_3 => ?_)
      · refine rch_run rfl (by decide) 8 (t' := (38, [some (vR 74), some (vI d)], [vI ((I 74 0) + d)], MW b (upI I 74 0 ((I 74 0) + d)) L)) (ps := [i32 ((I 74 0) + d)]) rfl (by simp only [all_, i32, i64]; first | omega | (simp; done) | (simp; omega)) ?_
        refine rch_ret rfl (rt := some (vI ((I 74 0) + d))) rfl trivial mw_c ?_
        first | exact Or.inl ⟨by omega, rfl, rfl⟩ | exact Or.inr (⟨by omega, rfl, rfl⟩) | (exfalso; omega)
      · refine rch_run rfl (by decide) 1 (t' := (23, [some (vR 74), some (vI d)], [vI (-1)], MW b I L)) (ps := []) rfl trivial ?_
        refine rch_ret rfl (rt := some (vI (-1))) rfl trivial mw_c ?_
        first | exact Or.inl ⟨by omega, rfl, rfl⟩ | exact Or.inr (⟨by omega, rfl, rfl⟩) | (exfalso; omega)

theorem k_X11_end (l : Launch) (E : AX) (b : Bool) (I L : Nat → Nat → Int) (n : Int) : Con l E 1 71 [vR 0, vI n] (MW b I L) 0 0 (fun rt w => ((0 ≤ n ∧ n ≤ I 28 0) ∧ rt = some (vI n) ∧ w = MW b (upI I 28 0 n) L) ∨ ((¬ (0 ≤ n ∧ n ≤ I 28 0)) ∧ rt = some (vI (-1)) ∧ w = MW b I L)) := by
  refine con_intro (by decide) (Nat.le_of_ble_eq_true rfl) ?_
  show Rch l E 1 71 _ _ _ _ (0, [some (vR 0), some (vI n)], [], MW b I L)
  refine rch_run rfl (by decide) 1 (t' := (1, [some (vR 0), some (vI n)], [vI n], MW b I L)) (ps := []) rfl trivial ?_
  refine rch_br rfl (cd := n < 0) (t1 := (15, [some (vR 0), some (vI n)], [], MW b I L)) (t2 := (4, [some (vR 0), some (vI n)], [], MW b I L)) rfl (fun c1_1 => ?_) (fun c1_1 => ?_)
  · refine rch_run rfl (by decide) 1 (t' := (16, [some (vR 0), some (vI n)], [vI (-1)], MW b I L)) (ps := []) rfl trivial ?_
    refine rch_ret rfl (rt := some (vI (-1))) rfl trivial mw_c ?_
    first | exact Or.inl ⟨by omega, rfl, rfl⟩ | exact Or.inr (⟨by omega, rfl, rfl⟩) | (exfalso; omega)
  · refine rch_run rfl (by decide) 4 (t' := (12, [some (vR 0), some (vI n)], [vI (I 28 0), vI n], MW b I L)) (ps := []) rfl trivial ?_
    refine rch_br rfl (cd := n ≤ I 28 0) (t1 := (17, [some (vR 0), some (vI n)], [], MW b I L)) (t2 := (15, [some (vR 0), some (vI n)], [], MW b I L)) rfl (fun c12_2 => ?_) (fun c12_2 => ?_)
    · refine rch_run rfl (by decide) 5 (t' := (26, [some (vR 0), some (vI n)], [vI n], MW b (upI I 28 0 n) L)) (ps := []) rfl trivial ?_
      refine rch_ret rfl (rt := some (vI n)) rfl trivial mw_c ?_
      first | exact Or.inl ⟨by omega, rfl, rfl⟩ | exact Or.inr (⟨by omega, rfl, rfl⟩) | (exfalso; omega)
    · refine rch_run rfl (by decide) 1 (t' := (16, [some (vR 0), some (vI n)], [vI (-1)], MW b I L)) (ps := []) rfl trivial ?_
      refine rch_ret rfl (rt := some (vI (-1))) rfl trivial mw_c ?_
      first | exact Or.inl ⟨by omega, rfl, rfl⟩ | exact Or.inr (⟨by omega, rfl, rfl⟩) | (exfalso; omega)

theorem k_X12_end (l : Launch) (E : AX) (b : Bool) (I L : Nat → Nat → Int) (n : Int) : Con l E 1 121 [vR 74, vI n] (MW b I L) 0 0 (fun rt w => ((0 ≤ n ∧ n ≤ I 74 30) ∧ rt = some (vI n) ∧ w = MW b (upI I 74 30 n) L) ∨ ((¬ (0 ≤ n ∧ n ≤ I 74 30)) ∧ rt = some (vI (-1)) ∧ w = MW b I L)) := by
  refine con_intro (by decide) (Nat.le_of_ble_eq_true rfl) ?_
  show Rch l E 1 121 _ _ _ _ (0, [some (vR 74), some (vI n)], [], MW b I L)
  refine rch_run rfl (by decide) 1 (t' := (1, [some (vR 74), some (vI n)], [vI n], MW b I L)) (ps := []) rfl trivial ?_
  refine rch_br rfl (cd := n < 0) (t1 := (12, [some (vR 74), some (vI n)], [], MW b I L)) (t2 := (4, [some (vR 74), some (vI n)], [], MW b I L)) rfl (fun c1_1 => ?_) (fun c1_1 => ?_)
  · refine rch_run rfl (by decide) 1 (t' := (13, [some (vR 74), some (vI n)], [vI (-1)], MW b I L)) (ps := []) rfl trivial ?_
    refine rch_ret rfl (rt := some (vI (-1))) rfl trivial mw_c ?_
    first | exact Or.inl ⟨by omega, rfl, rfl⟩ | exact Or.inr (⟨by omega, rfl, rfl⟩) | (exfalso; omega)
  · refine rch_run rfl (by decide) 3 (t' := (9, [some (vR 74), some (vI n)], [vI (I 74 30), vI n], MW b I L)) (ps := []) rfl trivial ?_
    refine rch_br rfl (cd := n ≤ I 74 30) (t1 := (14, [some (vR 74), some (vI n)], [], MW b I L)) (t2 := (12, [some (vR 74), some (vI n)], [], MW b I L)) rfl (fun c9_2 => ?_) (fun c9_2 => ?_)
    · refine rch_run rfl (by decide) 4 (t' := (20, [some (vR 74), some (vI n)], [vI n], MW b (upI I 74 30 n) L)) (ps := []) rfl trivial ?_
      refine rch_ret rfl (rt := some (vI n)) rfl trivial mw_c ?_
      first | exact Or.inl ⟨by omega, rfl, rfl⟩ | exact Or.inr (⟨by omega, rfl, rfl⟩) | (exfalso; omega)
    · refine rch_run rfl (by decide) 1 (t' := (13, [some (vR 74), some (vI n)], [vI (-1)], MW b I L)) (ps := []) rfl trivial ?_
      refine rch_ret rfl (rt := some (vI (-1))) rfl trivial mw_c ?_
      first | exact Or.inl ⟨by omega, rfl, rfl⟩ | exact Or.inr (⟨by omega, rfl, rfl⟩) | (exfalso; omega)
end
section
theorem k_X4_add (l : Launch) (E : AX) (b : Bool) (I L : Nat → Nat → Int) (s : Int) (d : Int) (hn : 0 ≤ I 17 0 ∧ I 17 0 ≤ 10) : Con l E 1 31 [vR 17, vI s, vI d] (MW b I L) 0 0 (fun rt w => ((I 17 0 < 10) ∧ rt = some (vI (I 17 0)) ∧ w = MW b (upI (upI (upI I 18 (I 17 0).toNat s) 19 (I 17 0).toNat d) 17 0 ((I 17 0) + 1)) L) ∨ ((¬ (I 17 0 < 10)) ∧ rt = some (vI (-1)) ∧ w = MW b I L)) := by
  refine con_intro (by decide) (Nat.le_of_ble_eq_true rfl) ?_
  show Rch l E 1 31 _ _ _ _ (0, [some (vR 17), some (vI s), some (vI d), none], [], MW b I L)
  refine rch_run rfl (by decide) 5 (t' := (8, [some (vR 17), some (vI s), some (vI d), some (vI (I 17 0))], [vI 10, vI (I 17 0)], MW b I L)) (ps := []) rfl trivial ?_
  refine rch_br rfl (cd := I 17 0 < (10 : Int)) (t1 := (13, [some (vR 17), some (vI s), some (vI d), some (vI (I 17 0))], [], MW b I L)) (t2 := (11, [some (vR 17), some (vI s), some (vI d), some (vI (I 17 0))], [], MW b I L)) rfl (fun c8_1 => ?_) (fun c8_1 => ?_)
  · refine rch_run rfl (by decide) 17 (t' := (38, [some (vR 17), some (vI s), some (vI d), some (vI (I 17 0))], [vI (I 17 0)], MW b (upI (upI (upI I 18 (I 17 0).toNat s) 19 (I 17 0).toNat d) 17 0 ((I 17 0) + 1)) L)) (ps := [0 ≤ I 17 0 ∧ I 17 0 < ((10 : Nat) : Int), 0 ≤ I 17 0 ∧ I 17 0 < ((10 : Nat) : Int), i32 ((I 17 0) + 1)]) rfl (by simp only [all_, i32, i64]; first | omega | (simp; done) | (simp; omega)) ?_
    refine rch_ret rfl (rt := some (vI (I 17 0))) rfl trivial mw_c ?_
    first | exact Or.inl ⟨by omega, rfl, rfl⟩ | exact Or.inr (⟨by omega, rfl, rfl⟩) | (exfalso; omega)
  · refine rch_run rfl (by decide) 1 (t' := (12, [some (vR 17), some (vI s), some (vI d), some (vI (I 17 0))], [vI (-1)], MW b I L)) (ps := []) rfl trivial ?_
    refine rch_ret rfl (rt := some (vI (-1))) rfl trivial mw_c ?_
    first | exact Or.inl ⟨by omega, rfl, rfl⟩ | exact Or.inr (⟨by omega, rfl, rfl⟩) | (exfalso; omega)

theorem k_X11_row (l : Launch) (E : AX) (b : Bool) (I L : Nat → Nat → Int) (s : Int) (hn : 0 ≤ I 17 0 ∧ I 17 0 ≤ 10) : Con l E 2 65 [vR 0, vI s] (MW b I L) 0 0 (fun rt w => (((0 ≤ s ∧ s ≤ 5) ∧ I 17 0 < 10) ∧ rt = some (vI (I 17 0)) ∧ w = MW b (upI (upI (upI (upI I 0 1 0) 18 (I 17 0).toNat s) 19 (I 17 0).toNat (I 0 0)) 17 0 ((I 17 0) + 1)) L) ∨ (((0 ≤ s ∧ s ≤ 5) ∧ ¬ I 17 0 < 10) ∧ rt = some (vI (-1)) ∧ w = MW b (upI I 0 1 0) L) ∨ ((¬ (0 ≤ s ∧ s ≤ 5)) ∧ rt = some (vI (-1)) ∧ w = MW b I L)) := by
  refine con_intro (by decide) (Nat.le_of_ble_eq_true rfl) ?_
  show Rch l E 2 65 _ _ _ _ (0, [some (vR 0), some (vI s)], [], MW b I L)
  refine rch_run rfl (by decide) 1 (t' := (1, [some (vR 0), some (vI s)], [vI s], MW b I L)) (ps := []) rfl trivial ?_
  refine rch_call (h' := 1) (k' := 90) (as := [vI s]) (t1 := (4, [some (vR 0), some (vI s)], [], MW b I L)) rfl rfl (k_X11_isSource l E b I L s ) (by decide) mw_le ?_
  rintro rt9 w9 (⟨k9, rfl, rfl⟩ | ⟨k9, rfl, rfl⟩) _ _
  · show Rch l E 2 65 _ _ _ _ (4, [some (vR 0), some (vI s)], [vI 1], MW b I L)
    have k9 : 0 ≤ s ∧ s ≤ 5 := k9
    refine rch_br rfl (cd := (1 : Int) ≠ 0) (t1 := (9, [some (vR 0), some (vI s)], [], MW b I L)) (t2 := (7, [some (vR 0), some (vI s)], [], MW b I L)) rfl (fun _ => ?_) (fun c9 => absurd (by decide) c9)
    refine rch_run rfl (by decide) 8 (t' := (23, [some (vR 0), some (vI s)], [vI (I 0 0), vI s, vR 17], MW b (upI I 0 1 0) L)) (ps := [(0 : Int) = 0 ∨ (0 : Int) = 1]) rfl (by simp only [all_, i32, i64]; first | omega | (simp; done) | (simp; omega)) ?_
    refine rch_call (h' := 1) (k' := 31) (as := [vR 17, vI s, vI (I 0 0)]) (t1 := (26, [some (vR 0), some (vI s)], [], MW b (upI I 0 1 0) L)) rfl rfl (k_X4_add l E b (upI I 0 1 0) L s (I 0 0) (by show 0 ≤ I 17 0 ∧ I 17 0 ≤ 10; omega)) (by decide) mw_le ?_
    rintro rt9 w9 (⟨k10, rfl, rfl⟩ | ⟨k10, rfl, rfl⟩) _ _
    · show Rch l E 2 65 _ _ _ _ (26, [some (vR 0), some (vI s)], [vI (I 17 0)], MW b (upI (upI (upI (upI I 0 1 0) 18 (I 17 0).toNat s) 19 (I 17 0).toNat (I 0 0)) 17 0 ((I 17 0) + 1)) L)
      have k10 : I 17 0 < 10 := k10
      refine rch_ret rfl (rt := some (vI (I 17 0))) rfl trivial mw_c ?_
      first | exact Or.inl ⟨by omega, rfl, rfl⟩ | exact Or.inr (Or.inl ⟨by omega, rfl, rfl⟩) | exact Or.inr (Or.inr (⟨by omega, rfl, rfl⟩)) | (exfalso; omega)
    · show Rch l E 2 65 _ _ _ _ (26, [some (vR 0), some (vI s)], [vI (-1)], MW b (upI I 0 1 0) L)
      have k10 : ¬ (I 17 0 < 10) := k10
      refine rch_ret rfl (rt := some (vI (-1))) rfl trivial mw_c ?_
      first | exact Or.inl ⟨by omega, rfl, rfl⟩ | exact Or.inr (Or.inl ⟨by omega, rfl, rfl⟩) | exact Or.inr (Or.inr (⟨by omega, rfl, rfl⟩)) | (exfalso; omega)
  · show Rch l E 2 65 _ _ _ _ (4, [some (vR 0), some (vI s)], [vI 0], MW b I L)
    have k9 : ¬ (0 ≤ s ∧ s ≤ 5) := k9
    refine rch_br rfl (cd := (0 : Int) ≠ 0) (t1 := (9, [some (vR 0), some (vI s)], [], MW b I L)) (t2 := (7, [some (vR 0), some (vI s)], [], MW b I L)) rfl (fun c9 => absurd c9 (by decide)) (fun _ => ?_)
    refine rch_run rfl (by decide) 1 (t' := (8, [some (vR 0), some (vI s)], [vI (-1)], MW b I L)) (ps := []) rfl trivial ?_
    refine rch_ret rfl (rt := some (vI (-1))) rfl trivial mw_c ?_
    first | exact Or.inl ⟨by omega, rfl, rfl⟩ | exact Or.inr (Or.inl ⟨by omega, rfl, rfl⟩) | exact Or.inr (Or.inr (⟨by omega, rfl, rfl⟩)) | (exfalso; omega)

theorem k_X12_row (l : Launch) (E : AX) (b : Bool) (I L : Nat → Nat → Int) (s : Int) (hn : 0 ≤ I 74 4 ∧ I 74 4 ≤ 10) : Con l E 2 108 [vR 74, vI s] (MW b I L) 0 0 (fun rt w => ((I 74 4 ≠ 10 ∧ 0 ≤ s ∧ s ≤ 5) ∧ rt = some (vI (((I 74 4) + 1) - 1)) ∧ w = MW b (upI (upI (upI I 78 (I 74 4).toNat s) 79 (I 74 4).toNat (I 74 0)) 74 4 ((I 74 4) + 1)) L) ∨ ((¬ (I 74 4 ≠ 10 ∧ 0 ≤ s ∧ s ≤ 5)) ∧ rt = some (vI (-1)) ∧ w = MW b I L)) := by
  refine con_intro (by decide) (Nat.le_of_ble_eq_true rfl) ?_
  show Rch l E 2 108 _ _ _ _ (0, [some (vR 74), some (vI s)], [], MW b I L)
  refine rch_run rfl (by decide) 3 (t' := (6, [some (vR 74), some (vI s)], [vI 10, vI (I 74 4)], MW b I L)) (ps := []) rfl trivial ?_
  refine rch_br rfl (cd := I 74 4 = (10 : Int)) (t1 := (16, [some (vR 74), some (vI s)], [], MW b I L)) (t2 := (9, [some (vR 74), some (vI s)], [], MW b I L)) rfl (fun c6_1 => ?_) (fun c6_1 => ?_)
  · refine rch_run rfl (by decide) 1 (t' := (17, [some (vR 74), some (vI s)], [vI (-1)], MW b I L)) (ps := []) rfl trivial ?_
    refine rch_ret rfl (rt := some (vI (-1))) rfl trivial mw_c ?_
    first | exact Or.inl ⟨by omega, rfl, rfl⟩ | exact Or.inr (⟨by omega, rfl, rfl⟩) | (exfalso; omega)
  · refine rch_run rfl (by decide) 1 (t' := (10, [some (vR 74), some (vI s)], [vI s], MW b I L)) (ps := []) rfl trivial ?_
    refine rch_call (h' := 1) (k' := 103) (as := [vI s]) (t1 := (13, [some (vR 74), some (vI s)], [], MW b I L)) rfl rfl (k_X12_isSource l E b I L s ) (by decide) mw_le ?_
    rintro rt9 w9 (⟨k11, rfl, rfl⟩ | ⟨k11, rfl, rfl⟩) _ _
    · show Rch l E 2 108 _ _ _ _ (13, [some (vR 74), some (vI s)], [vI 1], MW b I L)
      have k11 : 0 ≤ s ∧ s ≤ 5 := k11
      refine rch_br rfl (cd := (1 : Int) ≠ 0) (t1 := (18, [some (vR 74), some (vI s)], [], MW b I L)) (t2 := (16, [some (vR 74), some (vI s)], [], MW b I L)) rfl (fun _ => ?_) (fun c9 => absurd (by decide) c9)
      refine rch_run rfl (by decide) 23 (t' := (57, [some (vR 74), some (vI s)], [vI (((I 74 4) + 1) - 1)], MW b (upI (upI (upI I 78 (I 74 4).toNat s) 79 (I 74 4).toNat (I 74 0)) 74 4 ((I 74 4) + 1)) L)) (ps := [0 ≤ I 74 4 ∧ I 74 4 < ((10 : Nat) : Int), 0 ≤ I 74 4 ∧ I 74 4 < ((10 : Nat) : Int), i32 ((I 74 4) + 1), i32 (((I 74 4) + 1) - 1)]) rfl (by simp only [all_, i32, i64]; first | omega | (simp; done) | (simp; omega)) ?_
      refine rch_ret rfl (rt := some (vI (((I 74 4) + 1) - 1))) rfl trivial mw_c ?_
      first | exact Or.inl ⟨by omega, rfl, rfl⟩ | exact Or.inr (⟨by omega, rfl, rfl⟩) | (exfalso; omega)
    · show Rch l E 2 108 _ _ _ _ (13, [some (vR 74), some (vI s)], [vI 0], MW b I L)
      have k11 : ¬ (0 ≤ s ∧ s ≤ 5) := k11
      refine rch_br rfl (cd := (0 : Int) ≠ 0) (t1 := (18, [some (vR 74), some (vI s)], [], MW b I L)) (t2 := (16, [some (vR 74), some (vI s)], [], MW b I L)) rfl (fun c9 => absurd c9 (by decide)) (fun _ => ?_)
      refine rch_run rfl (by decide) 1 (t' := (17, [some (vR 74), some (vI s)], [vI (-1)], MW b I L)) (ps := []) rfl trivial ?_
      refine rch_ret rfl (rt := some (vI (-1))) rfl trivial mw_c ?_
      first | exact Or.inl ⟨by omega, rfl, rfl⟩ | exact Or.inr (⟨by omega, rfl, rfl⟩) | (exfalso; omega)

theorem k_X7_add (l : Launch) (E : AX) (b : Bool) (I L : Nat → Nat → Int) (r : Int) (f : Int) (x : Int) (d : Int) (t : Int) (e : Int) (hn : 0 ≤ I 21 0 ∧ I 21 0 ≤ 150) (he : e = 0 ∨ e = 1) : Con l E 1 47 [vR 21, vI r, vI f, vI x, vI d, vI t, vI e] (MW b I L) 0 0 (fun rt w => ((I 21 0 < 150) ∧ rt = none ∧ w = MW b (upI (upI (upI (upI (upI (upI (upI I 22 (I 21 0).toNat r) 23 (I 21 0).toNat f) 24 (I 21 0).toNat x) 25 (I 21 0).toNat d) 26 (I 21 0).toNat t) 27 (I 21 0).toNat e) 21 0 ((I 21 0) + 1)) L) ∨ ((¬ (I 21 0 < 150)) ∧ rt = none ∧ w = MW b I L)) := by
  refine con_intro (by decide) (Nat.le_of_ble_eq_true rfl) ?_
  show Rch l E 1 47 _ _ _ _ (0, [some (vR 21), some (vI r), some (vI f), some (vI x), some (vI d), some (vI t), some (vI e)], [], MW b I L)
  refine rch_run rfl (by decide) 3 (t' := (7, [some (vR 21), some (vI r), some (vI f), some (vI x), some (vI d), some (vI t), some (vI e)], [vI 150, vI (I 21 0)], MW b I L)) (ps := []) rfl trivial ?_
  refine rch_br rfl (cd := I 21 0 < (150 : Int)) (t1 := (11, [some (vR 21), some (vI r), some (vI f), some (vI x), some (vI d), some (vI t), some (vI e)], [], MW b I L)) (t2 := (10, [some (vR 21), some (vI r), some (vI f), some (vI x), some (vI d), some (vI t), some (vI e)], [], MW b I L)) rfl (fun c7_1 => ?_) (fun c7_1 => ?_)
  · refine rch_run rfl (by decide) 25 (t' := (53, [some (vR 21), some (vI r), some (vI f), some (vI x), some (vI d), some (vI t), some (vI e)], [vR 21], MW b (upI (upI (upI (upI I 22 (I 21 0).toNat r) 23 (I 21 0).toNat f) 24 (I 21 0).toNat x) 25 (I 21 0).toNat d) L)) (ps := [0 ≤ I 21 0 ∧ I 21 0 < ((150 : Nat) : Int), 0 ≤ I 21 0 ∧ I 21 0 < ((150 : Nat) : Int), 0 ≤ I 21 0 ∧ I 21 0 < ((150 : Nat) : Int), 0 ≤ I 21 0 ∧ I 21 0 < ((150 : Nat) : Int)]) rfl (by simp only [all_, i32, i64]; first | omega | (simp; done) | (simp; omega)) ?_
    refine rch_run rfl (by decide) 17 (t' := (84, [some (vR 21), some (vI r), some (vI f), some (vI x), some (vI d), some (vI t), some (vI e)], [], MW b (upI (upI (upI (upI (upI (upI (upI I 22 (I 21 0).toNat r) 23 (I 21 0).toNat f) 24 (I 21 0).toNat x) 25 (I 21 0).toNat d) 26 (I 21 0).toNat t) 27 (I 21 0).toNat e) 21 0 ((I 21 0) + 1)) L)) (ps := [0 ≤ I 21 0 ∧ I 21 0 < ((150 : Nat) : Int), 0 ≤ I 21 0 ∧ I 21 0 < ((150 : Nat) : Int), e = 0 ∨ e = 1, i32 ((I 21 0) + 1)]) rfl (by simp only [all_, i32, i64]; first | omega | (simp; done) | (simp; omega)) ?_
    refine rch_ret rfl (rt := none) rfl trivial mw_c ?_
    first | exact Or.inl ⟨by omega, rfl, rfl⟩ | exact Or.inr (⟨by omega, rfl, rfl⟩) | (exfalso; omega)
  · refine rch_ret rfl (rt := none) rfl trivial mw_c ?_
    first | exact Or.inl ⟨by omega, rfl, rfl⟩ | exact Or.inr (⟨by omega, rfl, rfl⟩) | (exfalso; omega)

theorem k_X12_tell (l : Launch) (E : AX) (b : Bool) (I L : Nat → Nat → Int) (r : Int) (f : Int) (x : Int) (d : Int) (e : Int) (hn : 0 ≤ I 74 5 ∧ I 74 5 < 150) (he : e = 0 ∨ e = 1) : Con l E 1 112 [vR 74, vI r, vI f, vI x, vI d, vI e] (MW b I L) 0 0 (fun rt w => ((True) ∧ rt = none ∧ w = MW b (upI (upI (upI (upI (upI (upI (upI I 81 (I 74 5).toNat r) 82 (I 74 5).toNat f) 83 (I 74 5).toNat x) 84 (I 74 5).toNat d) 85 (I 74 5).toNat (I 74 0)) 86 (I 74 5).toNat e) 74 5 ((I 74 5) + 1)) L)) := by
  refine con_intro (by decide) (Nat.le_of_ble_eq_true rfl) ?_
  show Rch l E 1 112 _ _ _ _ (0, [some (vR 74), some (vI r), some (vI f), some (vI x), some (vI d), some (vI e)], [], MW b I L)
  refine rch_run rfl (by decide) 25 (t' := (42, [some (vR 74), some (vI r), some (vI f), some (vI x), some (vI d), some (vI e)], [vR 74], MW b (upI (upI (upI (upI I 81 (I 74 5).toNat r) 82 (I 74 5).toNat f) 83 (I 74 5).toNat x) 84 (I 74 5).toNat d) L)) (ps := [0 ≤ I 74 5 ∧ I 74 5 < ((150 : Nat) : Int), 0 ≤ I 74 5 ∧ I 74 5 < ((150 : Nat) : Int), 0 ≤ I 74 5 ∧ I 74 5 < ((150 : Nat) : Int), 0 ≤ I 74 5 ∧ I 74 5 < ((150 : Nat) : Int)]) rfl (by simp only [all_, i32, i64]; first | omega | (simp; done) | (simp; omega)) ?_
  refine rch_run rfl (by decide) 18 (t' := (75, [some (vR 74), some (vI r), some (vI f), some (vI x), some (vI d), some (vI e)], [], MW b (upI (upI (upI (upI (upI (upI (upI I 81 (I 74 5).toNat r) 82 (I 74 5).toNat f) 83 (I 74 5).toNat x) 84 (I 74 5).toNat d) 85 (I 74 5).toNat (I 74 0)) 86 (I 74 5).toNat e) 74 5 ((I 74 5) + 1)) L)) (ps := [0 ≤ I 74 5 ∧ I 74 5 < ((150 : Nat) : Int), 0 ≤ I 74 5 ∧ I 74 5 < ((150 : Nat) : Int), e = 0 ∨ e = 1, i32 ((I 74 5) + 1)]) rfl (by simp only [all_, i32, i64]; first | omega | (simp; done) | (simp; omega)) ?_
  refine rch_ret rfl (rt := none) rfl trivial mw_c ?_
  first | exact ⟨by first | trivial | omega, rfl, rfl⟩ | (exfalso; omega)

theorem k_X11_set (l : Launch) (E : AX) (b : Bool) (I L : Nat → Nat → Int) (r : Int) (f : Int) (x : Int) (d : Int) (hn : I 17 0 ≤ 10) (hv : 0 ≤ I 21 0 ∧ I 21 0 ≤ 150) : Con l E 2 66 [vR 0, vI r, vI f, vI x, vI d] (MW b I L) 0 0 (fun rt w => (((0 ≤ r ∧ r < I 17 0 ∧ I 20 r.toNat = 0) ∧ (0 ≤ f ∧ f ≤ 5) ∧ (0 ≤ x ∧ x ≤ 999999) ∧ 0 ≤ d ∧ d ≤ 100000 ∧ I 21 0 < 150) ∧ rt = some (vI ((I 21 0) + 1)) ∧ w = MW b (upI (upI (upI (upI (upI (upI (upI (upI I 0 1 0) 22 (I 21 0).toNat r) 23 (I 21 0).toNat f) 24 (I 21 0).toNat x) 25 (I 21 0).toNat d) 26 (I 21 0).toNat (I 0 0)) 27 (I 21 0).toNat 0) 21 0 ((I 21 0) + 1)) L) ∨ ((¬ ((0 ≤ r ∧ r < I 17 0 ∧ I 20 r.toNat = 0) ∧ (0 ≤ f ∧ f ≤ 5) ∧ (0 ≤ x ∧ x ≤ 999999) ∧ 0 ≤ d ∧ d ≤ 100000 ∧ I 21 0 < 150)) ∧ rt = some (vI (-1)) ∧ w = MW b I L)) := by
  refine con_intro (by decide) (Nat.le_of_ble_eq_true rfl) ?_
  show Rch l E 2 66 _ _ _ _ (0, [some (vR 0), some (vI r), some (vI f), some (vI x), some (vI d)], [], MW b I L)
  refine rch_run rfl (by decide) 3 (t' := (5, [some (vR 0), some (vI r), some (vI f), some (vI x), some (vI d)], [vI r, vR 17], MW b I L)) (ps := []) rfl trivial ?_
  refine rch_call (h' := 1) (k' := 32) (as := [vR 17, vI r]) (t1 := (8, [some (vR 0), some (vI r), some (vI f), some (vI x), some (vI d)], [], MW b I L)) rfl rfl (k_X4_isAlive l E b I L r (by show I 17 0 ≤ 10; omega)) (by decide) mw_le ?_
  rintro rt9 w9 (⟨k12, rfl, rfl⟩ | ⟨k12, rfl, rfl⟩) _ _
  · show Rch l E 2 66 _ _ _ _ (8, [some (vR 0), some (vI r), some (vI f), some (vI x), some (vI d)], [vI 1], MW b I L)
    have k12 : 0 ≤ r ∧ r < I 17 0 ∧ I 20 r.toNat = 0 := k12
    refine rch_br rfl (cd := (1 : Int) = 0) (t1 := (37, [some (vR 0), some (vI r), some (vI f), some (vI x), some (vI d)], [], MW b I L)) (t2 := (11, [some (vR 0), some (vI r), some (vI f), some (vI x), some (vI d)], [], MW b I L)) rfl (fun c9 => absurd c9 (by decide)) (fun _ => ?_)
    refine rch_run rfl (by decide) 1 (t' := (12, [some (vR 0), some (vI r), some (vI f), some (vI x), some (vI d)], [vI f], MW b I L)) (ps := []) rfl trivial ?_
    refine rch_call (h' := 1) (k' := 91) (as := [vI f]) (t1 := (15, [some (vR 0), some (vI r), some (vI f), some (vI x), some (vI d)], [], MW b I L)) rfl rfl (k_X11_isField l E b I L f ) (by decide) mw_le ?_
    rintro rt9 w9 (⟨k13, rfl, rfl⟩ | ⟨k13, rfl, rfl⟩) _ _
    · show Rch l E 2 66 _ _ _ _ (15, [some (vR 0), some (vI r), some (vI f), some (vI x), some (vI d)], [vI 1], MW b I L)
      have k13 : 0 ≤ f ∧ f ≤ 5 := k13
      refine rch_br rfl (cd := (1 : Int) = 0) (t1 := (37, [some (vR 0), some (vI r), some (vI f), some (vI x), some (vI d)], [], MW b I L)) (t2 := (18, [some (vR 0), some (vI r), some (vI f), some (vI x), some (vI d)], [], MW b I L)) rfl (fun c9 => absurd c9 (by decide)) (fun _ => ?_)
      refine rch_run rfl (by decide) 1 (t' := (19, [some (vR 0), some (vI r), some (vI f), some (vI x), some (vI d)], [vI x], MW b I L)) (ps := []) rfl trivial ?_
      refine rch_call (h' := 1) (k' := 92) (as := [vI x]) (t1 := (22, [some (vR 0), some (vI r), some (vI f), some (vI x), some (vI d)], [], MW b I L)) rfl rfl (k_X11_isValue l E b I L x ) (by decide) mw_le ?_
      rintro rt9 w9 (⟨k14, rfl, rfl⟩ | ⟨k14, rfl, rfl⟩) _ _
      · show Rch l E 2 66 _ _ _ _ (22, [some (vR 0), some (vI r), some (vI f), some (vI x), some (vI d)], [vI 1], MW b I L)
        have k14 : 0 ≤ x ∧ x ≤ 999999 := k14
        refine rch_br rfl (cd := (1 : Int) = 0) (t1 := (37, [some (vR 0), some (vI r), some (vI f), some (vI x), some (vI d)], [], MW b I L)) (t2 := (25, [some (vR 0), some (vI r), some (vI f), some (vI x), some (vI d)], [], MW b I L)) rfl (fun c9 => absurd c9 (by decide)) (fun _ => ?_)
        refine rch_run rfl (by decide) 1 (t' := (27, [some (vR 0), some (vI r), some (vI f), some (vI x), some (vI d)], [vI d], MW b I L)) (ps := []) rfl trivial ?_
        refine rch_br rfl (cd := d < 0) (t1 := (37, [some (vR 0), some (vI r), some (vI f), some (vI x), some (vI d)], [], MW b I L)) (t2 := (30, [some (vR 0), some (vI r), some (vI f), some (vI x), some (vI d)], [], MW b I L)) rfl (fun c27_4 => ?_) (fun c27_4 => ?_)
        · refine rch_run rfl (by decide) 1 (t' := (38, [some (vR 0), some (vI r), some (vI f), some (vI x), some (vI d)], [vI (-1)], MW b I L)) (ps := []) rfl trivial ?_
          refine rch_ret rfl (rt := some (vI (-1))) rfl trivial mw_c ?_
          first | exact Or.inl ⟨by omega, rfl, rfl⟩ | exact Or.inr (⟨by omega, rfl, rfl⟩) | (exfalso; omega)
        · refine rch_run rfl (by decide) 2 (t' := (34, [some (vR 0), some (vI r), some (vI f), some (vI x), some (vI d)], [vI 100000, vI d], MW b I L)) (ps := []) rfl trivial ?_
          refine rch_br rfl (cd := d ≤ (100000 : Int)) (t1 := (39, [some (vR 0), some (vI r), some (vI f), some (vI x), some (vI d)], [], MW b I L)) (t2 := (37, [some (vR 0), some (vI r), some (vI f), some (vI x), some (vI d)], [], MW b I L)) rfl (fun c34_5 => ?_) (fun c34_5 => ?_)
          · refine rch_run rfl (by decide) 4 (t' := (49, [some (vR 0), some (vI r), some (vI f), some (vI x), some (vI d)], [vI 150, vI (I 21 0)], MW b I L)) (ps := []) rfl trivial ?_
            refine rch_br rfl (cd := I 21 0 < (150 : Int)) (t1 := (54, [some (vR 0), some (vI r), some (vI f), some (vI x), some (vI d)], [], MW b I L)) (t2 := (52, [some (vR 0), some (vI r), some (vI f), some (vI x), some (vI d)], [], MW b I L)) rfl (fun c49_6 => ?_) (fun c49_6 => ?_)
            · refine rch_run rfl (by decide) 12 (t' := (73, [some (vR 0), some (vI r), some (vI f), some (vI x), some (vI d)], [vI 0, vI (I 0 0), vI d, vI x, vI f, vI r, vR 21], MW b (upI I 0 1 0) L)) (ps := [(0 : Int) = 0 ∨ (0 : Int) = 1]) rfl (by simp only [all_, i32, i64]; first | omega | (simp; done) | (simp; omega)) ?_
              refine rch_call (h' := 1) (k' := 47) (as := [vR 21, vI r, vI f, vI x, vI d, vI (I 0 0), vI 0]) (t1 := (76, [some (vR 0), some (vI r), some (vI f), some (vI x), some (vI d)], [], MW b (upI I 0 1 0) L)) rfl rfl (k_X7_add l E b (upI I 0 1 0) L r f x d (I 0 0) 0 (by show 0 ≤ I 21 0 ∧ I 21 0 ≤ 150; omega) (by show 0 = 0 ∨ 0 = 1; omega)) (by decide) mw_le ?_
              rintro rt9 w9 (⟨k15, rfl, rfl⟩ | ⟨k15, rfl, rfl⟩) _ _
              · show Rch l E 2 66 _ _ _ _ (76, [some (vR 0), some (vI r), some (vI f), some (vI x), some (vI d)], [], MW b (upI (upI (upI (upI (upI (upI (upI (upI I 0 1 0) 22 (I 21 0).toNat r) 23 (I 21 0).toNat f) 24 (I 21 0).toNat x) 25 (I 21 0).toNat d) 26 (I 21 0).toNat (I 0 0)) 27 (I 21 0).toNat 0) 21 0 ((I 21 0) + 1)) L)
                have k15 : I 21 0 < 150 := k15
                refine rch_run rfl (by decide) 3 (t' := (83, [some (vR 0), some (vI r), some (vI f), some (vI x), some (vI d)], [vI ((I 21 0) + 1)], MW b (upI (upI (upI (upI (upI (upI (upI (upI I 0 1 0) 22 (I 21 0).toNat r) 23 (I 21 0).toNat f) 24 (I 21 0).toNat x) 25 (I 21 0).toNat d) 26 (I 21 0).toNat (I 0 0)) 27 (I 21 0).toNat 0) 21 0 ((I 21 0) + 1)) L)) (ps := []) rfl trivial ?_
                refine rch_ret rfl (rt := some (vI ((I 21 0) + 1))) rfl trivial mw_c ?_
                first | exact Or.inl ⟨by omega, rfl, rfl⟩ | exact Or.inr (⟨by omega, rfl, rfl⟩) | (exfalso; omega)
              · show Rch l E 2 66 _ _ _ _ (76, [some (vR 0), some (vI r), some (vI f), some (vI x), some (vI d)], [], MW b (upI I 0 1 0) L)
                have k15 : ¬ (I 21 0 < 150) := k15
                refine rch_run rfl (by decide) 3 (t' := (83, [some (vR 0), some (vI r), some (vI f), some (vI x), some (vI d)], [vI (I 21 0)], MW b (upI I 0 1 0) L)) (ps := []) rfl trivial ?_
                refine rch_ret rfl (rt := some (vI (I 21 0))) rfl trivial mw_c ?_
                first | exact Or.inl ⟨by omega, rfl, rfl⟩ | exact Or.inr (⟨by omega, rfl, rfl⟩) | (exfalso; omega)
            · refine rch_run rfl (by decide) 1 (t' := (53, [some (vR 0), some (vI r), some (vI f), some (vI x), some (vI d)], [vI (-1)], MW b I L)) (ps := []) rfl trivial ?_
              refine rch_ret rfl (rt := some (vI (-1))) rfl trivial mw_c ?_
              first | exact Or.inl ⟨by omega, rfl, rfl⟩ | exact Or.inr (⟨by omega, rfl, rfl⟩) | (exfalso; omega)
          · refine rch_run rfl (by decide) 1 (t' := (38, [some (vR 0), some (vI r), some (vI f), some (vI x), some (vI d)], [vI (-1)], MW b I L)) (ps := []) rfl trivial ?_
            refine rch_ret rfl (rt := some (vI (-1))) rfl trivial mw_c ?_
            first | exact Or.inl ⟨by omega, rfl, rfl⟩ | exact Or.inr (⟨by omega, rfl, rfl⟩) | (exfalso; omega)
      · show Rch l E 2 66 _ _ _ _ (22, [some (vR 0), some (vI r), some (vI f), some (vI x), some (vI d)], [vI 0], MW b I L)
        have k14 : ¬ (0 ≤ x ∧ x ≤ 999999) := k14
        refine rch_br rfl (cd := (0 : Int) = 0) (t1 := (37, [some (vR 0), some (vI r), some (vI f), some (vI x), some (vI d)], [], MW b I L)) (t2 := (25, [some (vR 0), some (vI r), some (vI f), some (vI x), some (vI d)], [], MW b I L)) rfl (fun _ => ?_) (fun c9 => absurd (by decide) c9)
        refine rch_run rfl (by decide) 1 (t' := (38, [some (vR 0), some (vI r), some (vI f), some (vI x), some (vI d)], [vI (-1)], MW b I L)) (ps := []) rfl trivial ?_
        refine rch_ret rfl (rt := some (vI (-1))) rfl trivial mw_c ?_
        first | exact Or.inl ⟨by omega, rfl, rfl⟩ | exact Or.inr (⟨by omega, rfl, rfl⟩) | (exfalso; omega)
    · show Rch l E 2 66 _ _ _ _ (15, [some (vR 0), some (vI r), some (vI f), some (vI x), some (vI d)], [vI 0], MW b I L)
      have k13 : ¬ (0 ≤ f ∧ f ≤ 5) := k13
      refine rch_br rfl (cd := (0 : Int) = 0) (t1 := (37, [some (vR 0), some (vI r), some (vI f), some (vI x), some (vI d)], [], MW b I L)) (t2 := (18, [some (vR 0), some (vI r), some (vI f), some (vI x), some (vI d)], [], MW b I L)) rfl (fun _ => ?_) (fun c9 => absurd (by decide) c9)
      refine rch_run rfl (by decide) 1 (t' := (38, [some (vR 0), some (vI r), some (vI f), some (vI x), some (vI d)], [vI (-1)], MW b I L)) (ps := []) rfl trivial ?_
      refine rch_ret rfl (rt := some (vI (-1))) rfl trivial mw_c ?_
      first | exact Or.inl ⟨by omega, rfl, rfl⟩ | exact Or.inr (⟨by omega, rfl, rfl⟩) | (exfalso; omega)
  · show Rch l E 2 66 _ _ _ _ (8, [some (vR 0), some (vI r), some (vI f), some (vI x), some (vI d)], [vI 0], MW b I L)
    have k12 : ¬ (0 ≤ r ∧ r < I 17 0 ∧ I 20 r.toNat = 0) := k12
    refine rch_br rfl (cd := (0 : Int) = 0) (t1 := (37, [some (vR 0), some (vI r), some (vI f), some (vI x), some (vI d)], [], MW b I L)) (t2 := (11, [some (vR 0), some (vI r), some (vI f), some (vI x), some (vI d)], [], MW b I L)) rfl (fun _ => ?_) (fun c9 => absurd (by decide) c9)
    refine rch_run rfl (by decide) 1 (t' := (38, [some (vR 0), some (vI r), some (vI f), some (vI x), some (vI d)], [vI (-1)], MW b I L)) (ps := []) rfl trivial ?_
    refine rch_ret rfl (rt := some (vI (-1))) rfl trivial mw_c ?_
    first | exact Or.inl ⟨by omega, rfl, rfl⟩ | exact Or.inr (⟨by omega, rfl, rfl⟩) | (exfalso; omega)

theorem k_X12_set (l : Launch) (E : AX) (b : Bool) (I L : Nat → Nat → Int) (r : Int) (f : Int) (x : Int) (d : Int) (hn : I 74 4 ≤ 10) (hv : 0 ≤ I 74 5 ∧ I 74 5 ≤ 150) : Con l E 2 113 [vR 74, vI r, vI f, vI x, vI d] (MW b I L) 0 0 (fun rt w => ((I 74 5 ≠ 150 ∧ (0 ≤ r ∧ r < I 74 4 ∧ I 80 r.toNat = 0) ∧ (0 ≤ f ∧ f ≤ 5) ∧ (0 ≤ x ∧ x ≤ 999999) ∧ 0 ≤ d ∧ d ≤ 100000) ∧ rt = some (vI ((I 74 5) + 1)) ∧ w = MW b (upI (upI (upI (upI (upI (upI (upI I 81 (I 74 5).toNat r) 82 (I 74 5).toNat f) 83 (I 74 5).toNat x) 84 (I 74 5).toNat d) 85 (I 74 5).toNat (I 74 0)) 86 (I 74 5).toNat 0) 74 5 ((I 74 5) + 1)) L) ∨ ((¬ (I 74 5 ≠ 150 ∧ (0 ≤ r ∧ r < I 74 4 ∧ I 80 r.toNat = 0) ∧ (0 ≤ f ∧ f ≤ 5) ∧ (0 ≤ x ∧ x ≤ 999999) ∧ 0 ≤ d ∧ d ≤ 100000)) ∧ rt = some (vI (-1)) ∧ w = MW b I L)) := by
  refine con_intro (by decide) (Nat.le_of_ble_eq_true rfl) ?_
  show Rch l E 2 113 _ _ _ _ (0, [some (vR 74), some (vI r), some (vI f), some (vI x), some (vI d)], [], MW b I L)
  refine rch_run rfl (by decide) 3 (t' := (7, [some (vR 74), some (vI r), some (vI f), some (vI x), some (vI d)], [vI 150, vI (I 74 5)], MW b I L)) (ps := []) rfl trivial ?_
  refine rch_br rfl (cd := I 74 5 = (150 : Int)) (t1 := (44, [some (vR 74), some (vI r), some (vI f), some (vI x), some (vI d)], [], MW b I L)) (t2 := (10, [some (vR 74), some (vI r), some (vI f), some (vI x), some (vI d)], [], MW b I L)) rfl (fun c7_1 => ?_) (fun c7_1 => ?_)
  · refine rch_run rfl (by decide) 1 (t' := (45, [some (vR 74), some (vI r), some (vI f), some (vI x), some (vI d)], [vI (-1)], MW b I L)) (ps := []) rfl trivial ?_
    refine rch_ret rfl (rt := some (vI (-1))) rfl trivial mw_c ?_
    first | exact Or.inl ⟨by omega, rfl, rfl⟩ | exact Or.inr (⟨by omega, rfl, rfl⟩) | (exfalso; omega)
  · refine rch_run rfl (by decide) 2 (t' := (12, [some (vR 74), some (vI r), some (vI f), some (vI x), some (vI d)], [vI r, vR 74], MW b I L)) (ps := []) rfl trivial ?_
    refine rch_call (h' := 1) (k' := 109) (as := [vR 74, vI r]) (t1 := (15, [some (vR 74), some (vI r), some (vI f), some (vI x), some (vI d)], [], MW b I L)) rfl rfl (k_X12_isRow l E b I L r (by show I 74 4 ≤ 10; omega)) (by decide) mw_le ?_
    rintro rt9 w9 (⟨k16, rfl, rfl⟩ | ⟨k16, rfl, rfl⟩) _ _
    · show Rch l E 2 113 _ _ _ _ (15, [some (vR 74), some (vI r), some (vI f), some (vI x), some (vI d)], [vI 1], MW b I L)
      have k16 : 0 ≤ r ∧ r < I 74 4 ∧ I 80 r.toNat = 0 := k16
      refine rch_br rfl (cd := (1 : Int) = 0) (t1 := (44, [some (vR 74), some (vI r), some (vI f), some (vI x), some (vI d)], [], MW b I L)) (t2 := (18, [some (vR 74), some (vI r), some (vI f), some (vI x), some (vI d)], [], MW b I L)) rfl (fun c9 => absurd c9 (by decide)) (fun _ => ?_)
      refine rch_run rfl (by decide) 1 (t' := (19, [some (vR 74), some (vI r), some (vI f), some (vI x), some (vI d)], [vI f], MW b I L)) (ps := []) rfl trivial ?_
      refine rch_call (h' := 1) (k' := 104) (as := [vI f]) (t1 := (22, [some (vR 74), some (vI r), some (vI f), some (vI x), some (vI d)], [], MW b I L)) rfl rfl (k_X12_isField l E b I L f ) (by decide) mw_le ?_
      rintro rt9 w9 (⟨k17, rfl, rfl⟩ | ⟨k17, rfl, rfl⟩) _ _
      · show Rch l E 2 113 _ _ _ _ (22, [some (vR 74), some (vI r), some (vI f), some (vI x), some (vI d)], [vI 1], MW b I L)
        have k17 : 0 ≤ f ∧ f ≤ 5 := k17
        refine rch_br rfl (cd := (1 : Int) = 0) (t1 := (44, [some (vR 74), some (vI r), some (vI f), some (vI x), some (vI d)], [], MW b I L)) (t2 := (25, [some (vR 74), some (vI r), some (vI f), some (vI x), some (vI d)], [], MW b I L)) rfl (fun c9 => absurd c9 (by decide)) (fun _ => ?_)
        refine rch_run rfl (by decide) 1 (t' := (26, [some (vR 74), some (vI r), some (vI f), some (vI x), some (vI d)], [vI x], MW b I L)) (ps := []) rfl trivial ?_
        refine rch_call (h' := 1) (k' := 111) (as := [vI x]) (t1 := (29, [some (vR 74), some (vI r), some (vI f), some (vI x), some (vI d)], [], MW b I L)) rfl rfl (k_X12_isValue l E b I L x ) (by decide) mw_le ?_
        rintro rt9 w9 (⟨k18, rfl, rfl⟩ | ⟨k18, rfl, rfl⟩) _ _
        · show Rch l E 2 113 _ _ _ _ (29, [some (vR 74), some (vI r), some (vI f), some (vI x), some (vI d)], [vI 1], MW b I L)
          have k18 : 0 ≤ x ∧ x ≤ 999999 := k18
          refine rch_br rfl (cd := (1 : Int) = 0) (t1 := (44, [some (vR 74), some (vI r), some (vI f), some (vI x), some (vI d)], [], MW b I L)) (t2 := (32, [some (vR 74), some (vI r), some (vI f), some (vI x), some (vI d)], [], MW b I L)) rfl (fun c9 => absurd c9 (by decide)) (fun _ => ?_)
          refine rch_run rfl (by decide) 1 (t' := (34, [some (vR 74), some (vI r), some (vI f), some (vI x), some (vI d)], [vI d], MW b I L)) (ps := []) rfl trivial ?_
          refine rch_br rfl (cd := d < 0) (t1 := (44, [some (vR 74), some (vI r), some (vI f), some (vI x), some (vI d)], [], MW b I L)) (t2 := (37, [some (vR 74), some (vI r), some (vI f), some (vI x), some (vI d)], [], MW b I L)) rfl (fun c34_5 => ?_) (fun c34_5 => ?_)
          · refine rch_run rfl (by decide) 1 (t' := (45, [some (vR 74), some (vI r), some (vI f), some (vI x), some (vI d)], [vI (-1)], MW b I L)) (ps := []) rfl trivial ?_
            refine rch_ret rfl (rt := some (vI (-1))) rfl trivial mw_c ?_
            first | exact Or.inl ⟨by omega, rfl, rfl⟩ | exact Or.inr (⟨by omega, rfl, rfl⟩) | (exfalso; omega)
          · refine rch_run rfl (by decide) 2 (t' := (41, [some (vR 74), some (vI r), some (vI f), some (vI x), some (vI d)], [vI 100000, vI d], MW b I L)) (ps := []) rfl trivial ?_
            refine rch_br rfl (cd := d ≤ (100000 : Int)) (t1 := (46, [some (vR 74), some (vI r), some (vI f), some (vI x), some (vI d)], [], MW b I L)) (t2 := (44, [some (vR 74), some (vI r), some (vI f), some (vI x), some (vI d)], [], MW b I L)) rfl (fun c41_6 => ?_) (fun c41_6 => ?_)
            · refine rch_run rfl (by decide) 6 (t' := (53, [some (vR 74), some (vI r), some (vI f), some (vI x), some (vI d)], [vI 0, vI d, vI x, vI f, vI r, vR 74], MW b I L)) (ps := []) rfl trivial ?_
              refine rch_call (h' := 1) (k' := 112) (as := [vR 74, vI r, vI f, vI x, vI d, vI 0]) (t1 := (56, [some (vR 74), some (vI r), some (vI f), some (vI x), some (vI d)], [], MW b I L)) rfl rfl (k_X12_tell l E b I L r f x d 0 (by show 0 ≤ I 74 5 ∧ I 74 5 < 150; omega) (by show 0 = 0 ∨ 0 = 1; omega)) (by decide) mw_le ?_
              rintro rt9 w9 (⟨k19, rfl, rfl⟩) _ _
              show Rch l E 2 113 _ _ _ _ (56, [some (vR 74), some (vI r), some (vI f), some (vI x), some (vI d)], [], MW b (upI (upI (upI (upI (upI (upI (upI I 81 (I 74 5).toNat r) 82 (I 74 5).toNat f) 83 (I 74 5).toNat x) 84 (I 74 5).toNat d) 85 (I 74 5).toNat (I 74 0)) 86 (I 74 5).toNat 0) 74 5 ((I 74 5) + 1)) L)
              refine rch_run rfl (by decide) 2 (t' := (60, [some (vR 74), some (vI r), some (vI f), some (vI x), some (vI d)], [vI ((I 74 5) + 1)], MW b (upI (upI (upI (upI (upI (upI (upI I 81 (I 74 5).toNat r) 82 (I 74 5).toNat f) 83 (I 74 5).toNat x) 84 (I 74 5).toNat d) 85 (I 74 5).toNat (I 74 0)) 86 (I 74 5).toNat 0) 74 5 ((I 74 5) + 1)) L)) (ps := []) rfl trivial ?_
              refine rch_ret rfl (rt := some (vI ((I 74 5) + 1))) rfl trivial mw_c ?_
              first | exact Or.inl ⟨by omega, rfl, rfl⟩ | exact Or.inr (⟨by omega, rfl, rfl⟩) | (exfalso; omega)
            · refine rch_run rfl (by decide) 1 (t' := (45, [some (vR 74), some (vI r), some (vI f), some (vI x), some (vI d)], [vI (-1)], MW b I L)) (ps := []) rfl trivial ?_
              refine rch_ret rfl (rt := some (vI (-1))) rfl trivial mw_c ?_
              first | exact Or.inl ⟨by omega, rfl, rfl⟩ | exact Or.inr (⟨by omega, rfl, rfl⟩) | (exfalso; omega)
        · show Rch l E 2 113 _ _ _ _ (29, [some (vR 74), some (vI r), some (vI f), some (vI x), some (vI d)], [vI 0], MW b I L)
          have k18 : ¬ (0 ≤ x ∧ x ≤ 999999) := k18
          refine rch_br rfl (cd := (0 : Int) = 0) (t1 := (44, [some (vR 74), some (vI r), some (vI f), some (vI x), some (vI d)], [], MW b I L)) (t2 := (32, [some (vR 74), some (vI r), some (vI f), some (vI x), some (vI d)], [], MW b I L)) rfl (fun _ => ?_) (fun c9 => absurd (by decide) c9)
          refine rch_run rfl (by decide) 1 (t' := (45, [some (vR 74), some (vI r), some (vI f), some (vI x), some (vI d)], [vI (-1)], MW b I L)) (ps := []) rfl trivial ?_
          refine rch_ret rfl (rt := some (vI (-1))) rfl trivial mw_c ?_
          first | exact Or.inl ⟨by omega, rfl, rfl⟩ | exact Or.inr (⟨by omega, rfl, rfl⟩) | (exfalso; omega)
      · show Rch l E 2 113 _ _ _ _ (22, [some (vR 74), some (vI r), some (vI f), some (vI x), some (vI d)], [vI 0], MW b I L)
        have k17 : ¬ (0 ≤ f ∧ f ≤ 5) := k17
        refine rch_br rfl (cd := (0 : Int) = 0) (t1 := (44, [some (vR 74), some (vI r), some (vI f), some (vI x), some (vI d)], [], MW b I L)) (t2 := (25, [some (vR 74), some (vI r), some (vI f), some (vI x), some (vI d)], [], MW b I L)) rfl (fun _ => ?_) (fun c9 => absurd (by decide) c9)
        refine rch_run rfl (by decide) 1 (t' := (45, [some (vR 74), some (vI r), some (vI f), some (vI x), some (vI d)], [vI (-1)], MW b I L)) (ps := []) rfl trivial ?_
        refine rch_ret rfl (rt := some (vI (-1))) rfl trivial mw_c ?_
        first | exact Or.inl ⟨by omega, rfl, rfl⟩ | exact Or.inr (⟨by omega, rfl, rfl⟩) | (exfalso; omega)
    · show Rch l E 2 113 _ _ _ _ (15, [some (vR 74), some (vI r), some (vI f), some (vI x), some (vI d)], [vI 0], MW b I L)
      have k16 : ¬ (0 ≤ r ∧ r < I 74 4 ∧ I 80 r.toNat = 0) := k16
      refine rch_br rfl (cd := (0 : Int) = 0) (t1 := (44, [some (vR 74), some (vI r), some (vI f), some (vI x), some (vI d)], [], MW b I L)) (t2 := (18, [some (vR 74), some (vI r), some (vI f), some (vI x), some (vI d)], [], MW b I L)) rfl (fun _ => ?_) (fun c9 => absurd (by decide) c9)
      refine rch_run rfl (by decide) 1 (t' := (45, [some (vR 74), some (vI r), some (vI f), some (vI x), some (vI d)], [vI (-1)], MW b I L)) (ps := []) rfl trivial ?_
      refine rch_ret rfl (rt := some (vI (-1))) rfl trivial mw_c ?_
      first | exact Or.inl ⟨by omega, rfl, rfl⟩ | exact Or.inr (⟨by omega, rfl, rfl⟩) | (exfalso; omega)

theorem k_X11_forget (l : Launch) (E : AX) (b : Bool) (I L : Nat → Nat → Int) (r : Int) (hn : I 17 0 ≤ 10) : Con l E 2 68 [vR 0, vI r] (MW b I L) 0 0 (fun rt w => ((0 ≤ r ∧ r < I 17 0 ∧ I 20 r.toNat = 0) ∧ rt = some (vI 1) ∧ w = MW b (upI (upI I 0 1 0) 20 r.toNat 1) L) ∨ ((¬ (0 ≤ r ∧ r < I 17 0 ∧ I 20 r.toNat = 0)) ∧ rt = some (vI 0) ∧ w = MW b I L)) := by
  refine con_intro (by decide) (Nat.le_of_ble_eq_true rfl) ?_
  show Rch l E 2 68 _ _ _ _ (0, [some (vR 0), some (vI r)], [], MW b I L)
  refine rch_run rfl (by decide) 3 (t' := (5, [some (vR 0), some (vI r)], [vI r, vR 17], MW b I L)) (ps := []) rfl trivial ?_
  refine rch_call (h' := 1) (k' := 32) (as := [vR 17, vI r]) (t1 := (8, [some (vR 0), some (vI r)], [], MW b I L)) rfl rfl (k_X4_isAlive l E b I L r (by show I 17 0 ≤ 10; omega)) (by decide) mw_le ?_
  rintro rt9 w9 (⟨k20, rfl, rfl⟩ | ⟨k20, rfl, rfl⟩) _ _
  · show Rch l E 2 68 _ _ _ _ (8, [some (vR 0), some (vI r)], [vI 1], MW b I L)
    have k20 : 0 ≤ r ∧ r < I 17 0 ∧ I 20 r.toNat = 0 := k20
    refine rch_br rfl (cd := (1 : Int) ≠ 0) (t1 := (13, [some (vR 0), some (vI r)], [], MW b I L)) (t2 := (11, [some (vR 0), some (vI r)], [], MW b I L)) rfl (fun _ => ?_) (fun c9 => absurd (by decide) c9)
    refine rch_run rfl (by decide) 10 (t' := (29, [some (vR 0), some (vI r)], [vI 1], MW b (upI (upI I 0 1 0) 20 r.toNat 1) L)) (ps := [(0 : Int) = 0 ∨ (0 : Int) = 1, 0 ≤ r ∧ r < ((10 : Nat) : Int), (1 : Int) = 0 ∨ (1 : Int) = 1]) rfl (by simp only [all_, i32, i64]; first | omega | (simp; done) | (simp; omega)) ?_
    refine rch_ret rfl (rt := some (vI 1)) rfl (Or.inr rfl) mw_c ?_
    first | exact Or.inl ⟨by omega, rfl, rfl⟩ | exact Or.inr (⟨by omega, rfl, rfl⟩) | (exfalso; omega)
  · show Rch l E 2 68 _ _ _ _ (8, [some (vR 0), some (vI r)], [vI 0], MW b I L)
    have k20 : ¬ (0 ≤ r ∧ r < I 17 0 ∧ I 20 r.toNat = 0) := k20
    refine rch_br rfl (cd := (0 : Int) ≠ 0) (t1 := (13, [some (vR 0), some (vI r)], [], MW b I L)) (t2 := (11, [some (vR 0), some (vI r)], [], MW b I L)) rfl (fun c9 => absurd c9 (by decide)) (fun _ => ?_)
    refine rch_run rfl (by decide) 1 (t' := (12, [some (vR 0), some (vI r)], [vI 0], MW b I L)) (ps := []) rfl trivial ?_
    refine rch_ret rfl (rt := some (vI 0)) rfl (Or.inl rfl) mw_c ?_
    first | exact Or.inl ⟨by omega, rfl, rfl⟩ | exact Or.inr (⟨by omega, rfl, rfl⟩) | (exfalso; omega)

theorem k_X12_forget (l : Launch) (E : AX) (b : Bool) (I L : Nat → Nat → Int) (r : Int) (hn : I 74 4 ≤ 10) : Con l E 2 117 [vR 74, vI r] (MW b I L) 0 0 (fun rt w => ((0 ≤ r ∧ r < I 74 4 ∧ I 80 r.toNat = 0) ∧ rt = some (vI 1) ∧ w = MW b (upI I 80 r.toNat 1) L) ∨ ((¬ (0 ≤ r ∧ r < I 74 4 ∧ I 80 r.toNat = 0)) ∧ rt = some (vI 0) ∧ w = MW b I L)) := by
  refine con_intro (by decide) (Nat.le_of_ble_eq_true rfl) ?_
  show Rch l E 2 117 _ _ _ _ (0, [some (vR 74), some (vI r)], [], MW b I L)
  refine rch_run rfl (by decide) 2 (t' := (2, [some (vR 74), some (vI r)], [vI r, vR 74], MW b I L)) (ps := []) rfl trivial ?_
  refine rch_call (h' := 1) (k' := 109) (as := [vR 74, vI r]) (t1 := (5, [some (vR 74), some (vI r)], [], MW b I L)) rfl rfl (k_X12_isRow l E b I L r (by show I 74 4 ≤ 10; omega)) (by decide) mw_le ?_
  rintro rt9 w9 (⟨k21, rfl, rfl⟩ | ⟨k21, rfl, rfl⟩) _ _
  · show Rch l E 2 117 _ _ _ _ (5, [some (vR 74), some (vI r)], [vI 1], MW b I L)
    have k21 : 0 ≤ r ∧ r < I 74 4 ∧ I 80 r.toNat = 0 := k21
    refine rch_br rfl (cd := (1 : Int) ≠ 0) (t1 := (10, [some (vR 74), some (vI r)], [], MW b I L)) (t2 := (8, [some (vR 74), some (vI r)], [], MW b I L)) rfl (fun _ => ?_) (fun c9 => absurd (by decide) c9)
    refine rch_run rfl (by decide) 6 (t' := (18, [some (vR 74), some (vI r)], [vI 1], MW b (upI I 80 r.toNat 1) L)) (ps := [0 ≤ r ∧ r < ((10 : Nat) : Int), (1 : Int) = 0 ∨ (1 : Int) = 1]) rfl (by simp only [all_, i32, i64]; first | omega | (simp; done) | (simp; omega)) ?_
    refine rch_ret rfl (rt := some (vI 1)) rfl (Or.inr rfl) mw_c ?_
    first | exact Or.inl ⟨by omega, rfl, rfl⟩ | exact Or.inr (⟨by omega, rfl, rfl⟩) | (exfalso; omega)
  · show Rch l E 2 117 _ _ _ _ (5, [some (vR 74), some (vI r)], [vI 0], MW b I L)
    have k21 : ¬ (0 ≤ r ∧ r < I 74 4 ∧ I 80 r.toNat = 0) := k21
    refine rch_br rfl (cd := (0 : Int) ≠ 0) (t1 := (10, [some (vR 74), some (vI r)], [], MW b I L)) (t2 := (8, [some (vR 74), some (vI r)], [], MW b I L)) rfl (fun c9 => absurd c9 (by decide)) (fun _ => ?_)
    refine rch_run rfl (by decide) 1 (t' := (9, [some (vR 74), some (vI r)], [vI 0], MW b I L)) (ps := []) rfl trivial ?_
    refine rch_ret rfl (rt := some (vI 0)) rfl (Or.inl rfl) mw_c ?_
    first | exact Or.inl ⟨by omega, rfl, rfl⟩ | exact Or.inr (⟨by omega, rfl, rfl⟩) | (exfalso; omega)
end
section
theorem k_hands_tell (l : Launch) (E : AX) (b : Bool) (I L : Nat → Nat → Int) (r : Int) (a : Int) (x : Int) (t : Int) (hn : 0 ≤ I 32 0 ∧ I 32 0 ≤ 20) : Con l E 1 8 [vR 32, vI r, vI a, vI x, vI t] (MW b I L) 0 0 (fun rt w => ((I 32 0 < 20) ∧ rt = some (vI (I 32 0)) ∧ w = MW b (upI (upI (upI (upI (upI (upI I 33 (I 32 0).toNat r) 34 (I 32 0).toNat a) 35 (I 32 0).toNat x) 36 (I 32 0).toNat t) 37 (I 32 0).toNat (-1)) 32 0 ((I 32 0) + 1)) L) ∨ ((¬ (I 32 0 < 20)) ∧ rt = some (vI (-1)) ∧ w = MW b I L)) := by
  refine con_intro (by decide) (Nat.le_of_ble_eq_true rfl) ?_
  show Rch l E 1 8 _ _ _ _ (0, [some (vR 32), some (vI r), some (vI a), some (vI x), some (vI t), none], [], MW b I L)
  refine rch_run rfl (by decide) 7 (t' := (13, [some (vR 32), some (vI r), some (vI a), some (vI x), some (vI t), some (vI (I 32 0))], [vI ((20 : Nat) : Int), vI (I 32 0)], MW b I L)) (ps := []) rfl trivial ?_
  refine rch_br rfl (cd := I 32 0 < ((20 : Nat) : Int)) (t1 := (18, [some (vR 32), some (vI r), some (vI a), some (vI x), some (vI t), some (vI (I 32 0))], [], MW b I L)) (t2 := (16, [some (vR 32), some (vI r), some (vI a), some (vI x), some (vI t), some (vI (I 32 0))], [], MW b I L)) rfl (fun c13_1 => ?_) (fun c13_1 => ?_)
  · refine rch_run rfl (by decide) 25 (t' := (59, [some (vR 32), some (vI r), some (vI a), some (vI x), some (vI t), some (vI (I 32 0))], [], MW b (upI (upI (upI (upI (upI I 33 (I 32 0).toNat r) 34 (I 32 0).toNat a) 35 (I 32 0).toNat x) 36 (I 32 0).toNat t) 37 (I 32 0).toNat (-1)) L)) (ps := [0 ≤ I 32 0 ∧ I 32 0 < ((20 : Nat) : Int), 0 ≤ I 32 0 ∧ I 32 0 < ((20 : Nat) : Int), 0 ≤ I 32 0 ∧ I 32 0 < ((20 : Nat) : Int), 0 ≤ I 32 0 ∧ I 32 0 < ((20 : Nat) : Int), 0 ≤ I 32 0 ∧ I 32 0 < ((20 : Nat) : Int)]) rfl (by simp only [all_, i32, i64]; first | omega | (simp; done) | (simp; omega)) ?_
    refine rch_run rfl (by decide) 7 (t' := (71, [some (vR 32), some (vI r), some (vI a), some (vI x), some (vI t), some (vI (I 32 0))], [vI (I 32 0)], MW b (upI (upI (upI (upI (upI (upI I 33 (I 32 0).toNat r) 34 (I 32 0).toNat a) 35 (I 32 0).toNat x) 36 (I 32 0).toNat t) 37 (I 32 0).toNat (-1)) 32 0 ((I 32 0) + 1)) L)) (ps := [i32 ((I 32 0) + 1)]) rfl (by simp only [all_, i32, i64]; first | omega | (simp; done) | (simp; omega)) ?_
    refine rch_ret rfl (rt := some (vI (I 32 0))) rfl trivial mw_c ?_
    first | exact Or.inl ⟨by omega, rfl, rfl⟩ | exact Or.inr (⟨by omega, rfl, rfl⟩) | (exfalso; omega)
  · refine rch_run rfl (by decide) 1 (t' := (17, [some (vR 32), some (vI r), some (vI a), some (vI x), some (vI t), some (vI (I 32 0))], [vI (-1)], MW b I L)) (ps := []) rfl trivial ?_
    refine rch_ret rfl (rt := some (vI (-1))) rfl trivial mw_c ?_
    first | exact Or.inl ⟨by omega, rfl, rfl⟩ | exact Or.inr (⟨by omega, rfl, rfl⟩) | (exfalso; omega)

theorem k_hands_untell (l : Launch) (E : AX) (b : Bool) (I L : Nat → Nat → Int) (i : Int) (t : Int) (hn : 0 ≤ I 32 0 ∧ I 32 0 ≤ 20) : Con l E 1 9 [vR 32, vI i, vI t] (MW b I L) 0 0 (fun rt w => ((0 ≤ i ∧ i < I 32 0 ∧ I 37 i.toNat = -1) ∧ rt = some (vI 1) ∧ w = MW b (upI I 37 i.toNat t) L) ∨ ((¬ (0 ≤ i ∧ i < I 32 0 ∧ I 37 i.toNat = -1)) ∧ rt = some (vI 0) ∧ w = MW b I L)) := by
  refine con_intro (by decide) (Nat.le_of_ble_eq_true rfl) ?_
  show Rch l E 1 9 _ _ _ _ (0, [some (vR 32), some (vI i), some (vI t)], [], MW b I L)
  refine rch_run rfl (by decide) 1 (t' := (1, [some (vR 32), some (vI i), some (vI t)], [vI i], MW b I L)) (ps := []) rfl trivial ?_
  refine rch_br rfl (cd := i < 0) (t1 := (22, [some (vR 32), some (vI i), some (vI t)], [], MW b I L)) (t2 := (4, [some (vR 32), some (vI i), some (vI t)], [], MW b I L)) rfl (fun c1_1 => ?_) (fun c1_1 => ?_)
  · refine rch_run rfl (by decide) 1 (t' := (23, [some (vR 32), some (vI i), some (vI t)], [vI 0], MW b I L)) (ps := []) rfl trivial ?_
    refine rch_ret rfl (rt := some (vI 0)) rfl (Or.inl rfl) mw_c ?_
    first | exact Or.inl ⟨by omega, rfl, rfl⟩ | exact Or.inr (⟨by omega, rfl, rfl⟩) | (exfalso; omega)
  · refine rch_run rfl (by decide) 3 (t' := (9, [some (vR 32), some (vI i), some (vI t)], [vI (I 32 0), vI i], MW b I L)) (ps := []) rfl trivial ?_
    refine rch_br rfl (cd := I 32 0 ≤ i) (t1 := (22, [some (vR 32), some (vI i), some (vI t)], [], MW b I L)) (t2 := (12, [some (vR 32), some (vI i), some (vI t)], [], MW b I L)) rfl (fun c9_2 => ?_) (fun c9_2 => ?_)
    · refine rch_run rfl (by decide) 1 (t' := (23, [some (vR 32), some (vI i), some (vI t)], [vI 0], MW b I L)) (ps := []) rfl trivial ?_
      refine rch_ret rfl (rt := some (vI 0)) rfl (Or.inl rfl) mw_c ?_
      first | exact Or.inl ⟨by omega, rfl, rfl⟩ | exact Or.inr (⟨by omega, rfl, rfl⟩) | (exfalso; omega)
    · refine rch_run rfl (by decide) 5 (t' := (19, [some (vR 32), some (vI i), some (vI t)], [vI (-1), vI (I 37 i.toNat)], MW b I L)) (ps := [0 ≤ i ∧ i < ((20 : Nat) : Int)]) rfl (by simp only [all_, i32, i64]; first | omega | (simp; done) | (simp; omega)) ?_
      refine rch_br rfl (cd := I 37 i.toNat = ((-1) : Int)) (t1 := (24, [some (vR 32), some (vI i), some (vI t)], [], MW b I L)) (t2 := (22, [some (vR 32), some (vI i), some (vI t)], [], MW b I L)) rfl (fun c19_3 => ?_) (fun c19_3 => ?_)
      · refine rch_run rfl (by decide) 6 (t' := (32, [some (vR 32), some (vI i), some (vI t)], [vI 1], MW b (upI I 37 i.toNat t) L)) (ps := [0 ≤ i ∧ i < ((20 : Nat) : Int)]) rfl (by simp only [all_, i32, i64]; first | omega | (simp; done) | (simp; omega)) ?_
        refine rch_ret rfl (rt := some (vI 1)) rfl (Or.inr rfl) mw_c ?_
        first | exact Or.inl ⟨by omega, rfl, rfl⟩ | exact Or.inr (⟨by omega, rfl, rfl⟩) | (exfalso; omega)
      · refine rch_run rfl (by decide) 1 (t' := (23, [some (vR 32), some (vI i), some (vI t)], [vI 0], MW b I L)) (ps := []) rfl trivial ?_
        refine rch_ret rfl (rt := some (vI 0)) rfl (Or.inl rfl) mw_c ?_
        first | exact Or.inl ⟨by omega, rfl, rfl⟩ | exact Or.inr (⟨by omega, rfl, rfl⟩) | (exfalso; omega)

theorem k_hands_isHeld (l : Launch) (E : AX) (b : Bool) (I L : Nat → Nat → Int) (i : Int) (k : Int) (hn : 0 ≤ I 32 0 ∧ I 32 0 ≤ 20) : Con l E 1 10 [vR 32, vI i, vI k] (MW b I L) 0 0 (fun rt w => (((0 ≤ i ∧ i < I 32 0) ∧ I 36 i.toNat ≤ k ∧ (I 37 i.toNat = -1 ∨ k < I 37 i.toNat)) ∧ rt = some (vI 1) ∧ w = MW b I L) ∨ ((¬ ((0 ≤ i ∧ i < I 32 0) ∧ I 36 i.toNat ≤ k ∧ (I 37 i.toNat = -1 ∨ k < I 37 i.toNat))) ∧ rt = some (vI 0) ∧ w = MW b I L)) := by
  refine con_intro (by decide) (Nat.le_of_ble_eq_true rfl) ?_
  show Rch l E 1 10 _ _ _ _ (0, [some (vR 32), some (vI i), some (vI k)], [], MW b I L)
  refine rch_run rfl (by decide) 1 (t' := (1, [some (vR 32), some (vI i), some (vI k)], [vI i], MW b I L)) (ps := []) rfl trivial ?_
  refine rch_br rfl (cd := i < 0) (t1 := (12, [some (vR 32), some (vI i), some (vI k)], [], MW b I L)) (t2 := (4, [some (vR 32), some (vI i), some (vI k)], [], MW b I L)) rfl (fun c1_1 => ?_) (fun c1_1 => ?_)
  · refine rch_run rfl (by decide) 1 (t' := (13, [some (vR 32), some (vI i), some (vI k)], [vI 0], MW b I L)) (ps := []) rfl trivial ?_
    refine rch_ret rfl (rt := some (vI 0)) rfl (Or.inl rfl) mw_c ?_
    first | exact Or.inl ⟨by omega, rfl, rfl⟩ | exact Or.inr (⟨by omega, rfl, rfl⟩) | (exfalso; omega)
  · refine rch_run rfl (by decide) 3 (t' := (9, [some (vR 32), some (vI i), some (vI k)], [vI (I 32 0), vI i], MW b I L)) (ps := []) rfl trivial ?_
    refine rch_br rfl (cd := i < I 32 0) (t1 := (14, [some (vR 32), some (vI i), some (vI k)], [], MW b I L)) (t2 := (12, [some (vR 32), some (vI i), some (vI k)], [], MW b I L)) rfl (fun c9_2 => ?_) (fun c9_2 => ?_)
    · refine rch_run rfl (by decide) 5 (t' := (21, [some (vR 32), some (vI i), some (vI k)], [vI k, vI (I 36 i.toNat)], MW b I L)) (ps := [0 ≤ i ∧ i < ((20 : Nat) : Int)]) rfl (by simp only [all_, i32, i64]; first | omega | (simp; done) | (simp; omega)) ?_
      refine rch_br rfl (cd := k < I 36 i.toNat) (t1 := (48, [some (vR 32), some (vI i), some (vI k)], [], MW b I L)) (t2 := (24, [some (vR 32), some (vI i), some (vI k)], [], MW b I L)) rfl (fun c21_3 => ?_) (fun c21_3 => ?_)
      · refine rch_run rfl (by decide) 1 (t' := (49, [some (vR 32), some (vI i), some (vI k)], [vI 0], MW b I L)) (ps := []) rfl trivial ?_
        refine rch_ret rfl (rt := some (vI 0)) rfl (Or.inl rfl) mw_c ?_
        first | exact Or.inl ⟨by omega, rfl, rfl⟩ | exact Or.inr (⟨by omega, rfl, rfl⟩) | (exfalso; omega)
      · refine rch_run rfl (by decide) 5 (t' := (31, [some (vR 32), some (vI i), some (vI k)], [vI (-1), vI (I 37 i.toNat)], MW b I L)) (ps := [0 ≤ i ∧ i < ((20 : Nat) : Int)]) rfl (by simp only [all_, i32, i64]; first | omega | (simp; done) | (simp; omega)) ?_
        refine rch_br rfl (cd := I 37 i.toNat = ((-1) : Int)) (t1 := (44, [some (vR 32), some (vI i), some (vI k)], [], MW b I L)) (t2 := (34, [some (vR 32), some (vI i), some (vI k)], [], MW b I L)) rfl (fun c31_4 => ?_) (fun c31_4 => ?_)
        · refine rch_run rfl (by decide) 2 (t' := (49, [some (vR 32), some (vI i), some (vI k)], [vI 1], MW b I L)) (ps := []) rfl trivial ?_
          refine rch_ret rfl (rt := some (vI 1)) rfl (Or.inr rfl) mw_c ?_
          first | exact Or.inl ⟨by omega, rfl, rfl⟩ | exact Or.inr (⟨by omega, rfl, rfl⟩) | (exfalso; omega)
        · refine rch_run rfl (by decide) 5 (t' := (41, [some (vR 32), some (vI i), some (vI k)], [vI k, vI (I 37 i.toNat)], MW b I L)) (ps := [0 ≤ i ∧ i < ((20 : Nat) : Int)]) rfl (by simp only [all_, i32, i64]; first | omega | (simp; done) | (simp; omega)) ?_
          refine rch_br rfl (cd := I 37 i.toNat ≤ k) (t1 := (48, [some (vR 32), some (vI i), some (vI k)], [], MW b I L)) (t2 := (44, [some (vR 32), some (vI i), some (vI k)], [], MW b I L)) rfl (fun c41_5 => ?_) (fun c41_5 => ?_)
          · refine rch_run rfl (by decide) 1 (t' := (49, [some (vR 32), some (vI i), some (vI k)], [vI 0], MW b I L)) (ps := []) rfl trivial ?_
            refine rch_ret rfl (rt := some (vI 0)) rfl (Or.inl rfl) mw_c ?_
            first | exact Or.inl ⟨by omega, rfl, rfl⟩ | exact Or.inr (⟨by omega, rfl, rfl⟩) | (exfalso; omega)
          · refine rch_run rfl (by decide) 2 (t' := (49, [some (vR 32), some (vI i), some (vI k)], [vI 1], MW b I L)) (ps := []) rfl trivial ?_
            refine rch_ret rfl (rt := some (vI 1)) rfl (Or.inr rfl) mw_c ?_
            first | exact Or.inl ⟨by omega, rfl, rfl⟩ | exact Or.inr (⟨by omega, rfl, rfl⟩) | (exfalso; omega)
    · refine rch_run rfl (by decide) 1 (t' := (13, [some (vR 32), some (vI i), some (vI k)], [vI 0], MW b I L)) (ps := []) rfl trivial ?_
      refine rch_ret rfl (rt := some (vI 0)) rfl (Or.inl rfl) mw_c ?_
      first | exact Or.inl ⟨by omega, rfl, rfl⟩ | exact Or.inr (⟨by omega, rfl, rfl⟩) | (exfalso; omega)

theorem k_fixes_tell (l : Launch) (E : AX) (b : Bool) (I L : Nat → Nat → Int) (r : Int) (a : Int) (x : Int) (t : Int) (hn : 0 ≤ I 38 0 ∧ I 38 0 ≤ 20) : Con l E 1 8 [vR 38, vI r, vI a, vI x, vI t] (MW b I L) 0 0 (fun rt w => ((I 38 0 < 20) ∧ rt = some (vI (I 38 0)) ∧ w = MW b (upI (upI (upI (upI (upI (upI I 39 (I 38 0).toNat r) 40 (I 38 0).toNat a) 41 (I 38 0).toNat x) 42 (I 38 0).toNat t) 43 (I 38 0).toNat (-1)) 38 0 ((I 38 0) + 1)) L) ∨ ((¬ (I 38 0 < 20)) ∧ rt = some (vI (-1)) ∧ w = MW b I L)) := by
  refine con_intro (by decide) (Nat.le_of_ble_eq_true rfl) ?_
  show Rch l E 1 8 _ _ _ _ (0, [some (vR 38), some (vI r), some (vI a), some (vI x), some (vI t), none], [], MW b I L)
  refine rch_run rfl (by decide) 7 (t' := (13, [some (vR 38), some (vI r), some (vI a), some (vI x), some (vI t), some (vI (I 38 0))], [vI ((20 : Nat) : Int), vI (I 38 0)], MW b I L)) (ps := []) rfl trivial ?_
  refine rch_br rfl (cd := I 38 0 < ((20 : Nat) : Int)) (t1 := (18, [some (vR 38), some (vI r), some (vI a), some (vI x), some (vI t), some (vI (I 38 0))], [], MW b I L)) (t2 := (16, [some (vR 38), some (vI r), some (vI a), some (vI x), some (vI t), some (vI (I 38 0))], [], MW b I L)) rfl (fun c13_1 => ?_) (fun c13_1 => ?_)
  · refine rch_run rfl (by decide) 25 (t' := (59, [some (vR 38), some (vI r), some (vI a), some (vI x), some (vI t), some (vI (I 38 0))], [], MW b (upI (upI (upI (upI (upI I 39 (I 38 0).toNat r) 40 (I 38 0).toNat a) 41 (I 38 0).toNat x) 42 (I 38 0).toNat t) 43 (I 38 0).toNat (-1)) L)) (ps := [0 ≤ I 38 0 ∧ I 38 0 < ((20 : Nat) : Int), 0 ≤ I 38 0 ∧ I 38 0 < ((20 : Nat) : Int), 0 ≤ I 38 0 ∧ I 38 0 < ((20 : Nat) : Int), 0 ≤ I 38 0 ∧ I 38 0 < ((20 : Nat) : Int), 0 ≤ I 38 0 ∧ I 38 0 < ((20 : Nat) : Int)]) rfl (by simp only [all_, i32, i64]; first | omega | (simp; done) | (simp; omega)) ?_
    refine rch_run rfl (by decide) 7 (t' := (71, [some (vR 38), some (vI r), some (vI a), some (vI x), some (vI t), some (vI (I 38 0))], [vI (I 38 0)], MW b (upI (upI (upI (upI (upI (upI I 39 (I 38 0).toNat r) 40 (I 38 0).toNat a) 41 (I 38 0).toNat x) 42 (I 38 0).toNat t) 43 (I 38 0).toNat (-1)) 38 0 ((I 38 0) + 1)) L)) (ps := [i32 ((I 38 0) + 1)]) rfl (by simp only [all_, i32, i64]; first | omega | (simp; done) | (simp; omega)) ?_
    refine rch_ret rfl (rt := some (vI (I 38 0))) rfl trivial mw_c ?_
    first | exact Or.inl ⟨by omega, rfl, rfl⟩ | exact Or.inr (⟨by omega, rfl, rfl⟩) | (exfalso; omega)
  · refine rch_run rfl (by decide) 1 (t' := (17, [some (vR 38), some (vI r), some (vI a), some (vI x), some (vI t), some (vI (I 38 0))], [vI (-1)], MW b I L)) (ps := []) rfl trivial ?_
    refine rch_ret rfl (rt := some (vI (-1))) rfl trivial mw_c ?_
    first | exact Or.inl ⟨by omega, rfl, rfl⟩ | exact Or.inr (⟨by omega, rfl, rfl⟩) | (exfalso; omega)

theorem k_fixes_untell (l : Launch) (E : AX) (b : Bool) (I L : Nat → Nat → Int) (i : Int) (t : Int) (hn : 0 ≤ I 38 0 ∧ I 38 0 ≤ 20) : Con l E 1 9 [vR 38, vI i, vI t] (MW b I L) 0 0 (fun rt w => ((0 ≤ i ∧ i < I 38 0 ∧ I 43 i.toNat = -1) ∧ rt = some (vI 1) ∧ w = MW b (upI I 43 i.toNat t) L) ∨ ((¬ (0 ≤ i ∧ i < I 38 0 ∧ I 43 i.toNat = -1)) ∧ rt = some (vI 0) ∧ w = MW b I L)) := by
  refine con_intro (by decide) (Nat.le_of_ble_eq_true rfl) ?_
  show Rch l E 1 9 _ _ _ _ (0, [some (vR 38), some (vI i), some (vI t)], [], MW b I L)
  refine rch_run rfl (by decide) 1 (t' := (1, [some (vR 38), some (vI i), some (vI t)], [vI i], MW b I L)) (ps := []) rfl trivial ?_
  refine rch_br rfl (cd := i < 0) (t1 := (22, [some (vR 38), some (vI i), some (vI t)], [], MW b I L)) (t2 := (4, [some (vR 38), some (vI i), some (vI t)], [], MW b I L)) rfl (fun c1_1 => ?_) (fun c1_1 => ?_)
  · refine rch_run rfl (by decide) 1 (t' := (23, [some (vR 38), some (vI i), some (vI t)], [vI 0], MW b I L)) (ps := []) rfl trivial ?_
    refine rch_ret rfl (rt := some (vI 0)) rfl (Or.inl rfl) mw_c ?_
    first | exact Or.inl ⟨by omega, rfl, rfl⟩ | exact Or.inr (⟨by omega, rfl, rfl⟩) | (exfalso; omega)
  · refine rch_run rfl (by decide) 3 (t' := (9, [some (vR 38), some (vI i), some (vI t)], [vI (I 38 0), vI i], MW b I L)) (ps := []) rfl trivial ?_
    refine rch_br rfl (cd := I 38 0 ≤ i) (t1 := (22, [some (vR 38), some (vI i), some (vI t)], [], MW b I L)) (t2 := (12, [some (vR 38), some (vI i), some (vI t)], [], MW b I L)) rfl (fun c9_2 => ?_) (fun c9_2 => ?_)
    · refine rch_run rfl (by decide) 1 (t' := (23, [some (vR 38), some (vI i), some (vI t)], [vI 0], MW b I L)) (ps := []) rfl trivial ?_
      refine rch_ret rfl (rt := some (vI 0)) rfl (Or.inl rfl) mw_c ?_
      first | exact Or.inl ⟨by omega, rfl, rfl⟩ | exact Or.inr (⟨by omega, rfl, rfl⟩) | (exfalso; omega)
    · refine rch_run rfl (by decide) 5 (t' := (19, [some (vR 38), some (vI i), some (vI t)], [vI (-1), vI (I 43 i.toNat)], MW b I L)) (ps := [0 ≤ i ∧ i < ((20 : Nat) : Int)]) rfl (by simp only [all_, i32, i64]; first | omega | (simp; done) | (simp; omega)) ?_
      refine rch_br rfl (cd := I 43 i.toNat = ((-1) : Int)) (t1 := (24, [some (vR 38), some (vI i), some (vI t)], [], MW b I L)) (t2 := (22, [some (vR 38), some (vI i), some (vI t)], [], MW b I L)) rfl (fun c19_3 => ?_) (fun c19_3 => ?_)
      · refine rch_run rfl (by decide) 6 (t' := (32, [some (vR 38), some (vI i), some (vI t)], [vI 1], MW b (upI I 43 i.toNat t) L)) (ps := [0 ≤ i ∧ i < ((20 : Nat) : Int)]) rfl (by simp only [all_, i32, i64]; first | omega | (simp; done) | (simp; omega)) ?_
        refine rch_ret rfl (rt := some (vI 1)) rfl (Or.inr rfl) mw_c ?_
        first | exact Or.inl ⟨by omega, rfl, rfl⟩ | exact Or.inr (⟨by omega, rfl, rfl⟩) | (exfalso; omega)
      · refine rch_run rfl (by decide) 1 (t' := (23, [some (vR 38), some (vI i), some (vI t)], [vI 0], MW b I L)) (ps := []) rfl trivial ?_
        refine rch_ret rfl (rt := some (vI 0)) rfl (Or.inl rfl) mw_c ?_
        first | exact Or.inl ⟨by omega, rfl, rfl⟩ | exact Or.inr (⟨by omega, rfl, rfl⟩) | (exfalso; omega)

theorem k_fixes_isHeld (l : Launch) (E : AX) (b : Bool) (I L : Nat → Nat → Int) (i : Int) (k : Int) (hn : 0 ≤ I 38 0 ∧ I 38 0 ≤ 20) : Con l E 1 10 [vR 38, vI i, vI k] (MW b I L) 0 0 (fun rt w => (((0 ≤ i ∧ i < I 38 0) ∧ I 42 i.toNat ≤ k ∧ (I 43 i.toNat = -1 ∨ k < I 43 i.toNat)) ∧ rt = some (vI 1) ∧ w = MW b I L) ∨ ((¬ ((0 ≤ i ∧ i < I 38 0) ∧ I 42 i.toNat ≤ k ∧ (I 43 i.toNat = -1 ∨ k < I 43 i.toNat))) ∧ rt = some (vI 0) ∧ w = MW b I L)) := by
  refine con_intro (by decide) (Nat.le_of_ble_eq_true rfl) ?_
  show Rch l E 1 10 _ _ _ _ (0, [some (vR 38), some (vI i), some (vI k)], [], MW b I L)
  refine rch_run rfl (by decide) 1 (t' := (1, [some (vR 38), some (vI i), some (vI k)], [vI i], MW b I L)) (ps := []) rfl trivial ?_
  refine rch_br rfl (cd := i < 0) (t1 := (12, [some (vR 38), some (vI i), some (vI k)], [], MW b I L)) (t2 := (4, [some (vR 38), some (vI i), some (vI k)], [], MW b I L)) rfl (fun c1_1 => ?_) (fun c1_1 => ?_)
  · refine rch_run rfl (by decide) 1 (t' := (13, [some (vR 38), some (vI i), some (vI k)], [vI 0], MW b I L)) (ps := []) rfl trivial ?_
    refine rch_ret rfl (rt := some (vI 0)) rfl (Or.inl rfl) mw_c ?_
    first | exact Or.inl ⟨by omega, rfl, rfl⟩ | exact Or.inr (⟨by omega, rfl, rfl⟩) | (exfalso; omega)
  · refine rch_run rfl (by decide) 3 (t' := (9, [some (vR 38), some (vI i), some (vI k)], [vI (I 38 0), vI i], MW b I L)) (ps := []) rfl trivial ?_
    refine rch_br rfl (cd := i < I 38 0) (t1 := (14, [some (vR 38), some (vI i), some (vI k)], [], MW b I L)) (t2 := (12, [some (vR 38), some (vI i), some (vI k)], [], MW b I L)) rfl (fun c9_2 => ?_) (fun c9_2 => ?_)
    · refine rch_run rfl (by decide) 5 (t' := (21, [some (vR 38), some (vI i), some (vI k)], [vI k, vI (I 42 i.toNat)], MW b I L)) (ps := [0 ≤ i ∧ i < ((20 : Nat) : Int)]) rfl (by simp only [all_, i32, i64]; first | omega | (simp; done) | (simp; omega)) ?_
      refine rch_br rfl (cd := k < I 42 i.toNat) (t1 := (48, [some (vR 38), some (vI i), some (vI k)], [], MW b I L)) (t2 := (24, [some (vR 38), some (vI i), some (vI k)], [], MW b I L)) rfl (fun c21_3 => ?_) (fun c21_3 => ?_)
      · refine rch_run rfl (by decide) 1 (t' := (49, [some (vR 38), some (vI i), some (vI k)], [vI 0], MW b I L)) (ps := []) rfl trivial ?_
        refine rch_ret rfl (rt := some (vI 0)) rfl (Or.inl rfl) mw_c ?_
        first | exact Or.inl ⟨by omega, rfl, rfl⟩ | exact Or.inr (⟨by omega, rfl, rfl⟩) | (exfalso; omega)
      · refine rch_run rfl (by decide) 5 (t' := (31, [some (vR 38), some (vI i), some (vI k)], [vI (-1), vI (I 43 i.toNat)], MW b I L)) (ps := [0 ≤ i ∧ i < ((20 : Nat) : Int)]) rfl (by simp only [all_, i32, i64]; first | omega | (simp; done) | (simp; omega)) ?_
        refine rch_br rfl (cd := I 43 i.toNat = ((-1) : Int)) (t1 := (44, [some (vR 38), some (vI i), some (vI k)], [], MW b I L)) (t2 := (34, [some (vR 38), some (vI i), some (vI k)], [], MW b I L)) rfl (fun c31_4 => ?_) (fun c31_4 => ?_)
        · refine rch_run rfl (by decide) 2 (t' := (49, [some (vR 38), some (vI i), some (vI k)], [vI 1], MW b I L)) (ps := []) rfl trivial ?_
          refine rch_ret rfl (rt := some (vI 1)) rfl (Or.inr rfl) mw_c ?_
          first | exact Or.inl ⟨by omega, rfl, rfl⟩ | exact Or.inr (⟨by omega, rfl, rfl⟩) | (exfalso; omega)
        · refine rch_run rfl (by decide) 5 (t' := (41, [some (vR 38), some (vI i), some (vI k)], [vI k, vI (I 43 i.toNat)], MW b I L)) (ps := [0 ≤ i ∧ i < ((20 : Nat) : Int)]) rfl (by simp only [all_, i32, i64]; first | omega | (simp; done) | (simp; omega)) ?_
          refine rch_br rfl (cd := I 43 i.toNat ≤ k) (t1 := (48, [some (vR 38), some (vI i), some (vI k)], [], MW b I L)) (t2 := (44, [some (vR 38), some (vI i), some (vI k)], [], MW b I L)) rfl (fun c41_5 => ?_) (fun c41_5 => ?_)
          · refine rch_run rfl (by decide) 1 (t' := (49, [some (vR 38), some (vI i), some (vI k)], [vI 0], MW b I L)) (ps := []) rfl trivial ?_
            refine rch_ret rfl (rt := some (vI 0)) rfl (Or.inl rfl) mw_c ?_
            first | exact Or.inl ⟨by omega, rfl, rfl⟩ | exact Or.inr (⟨by omega, rfl, rfl⟩) | (exfalso; omega)
          · refine rch_run rfl (by decide) 2 (t' := (49, [some (vR 38), some (vI i), some (vI k)], [vI 1], MW b I L)) (ps := []) rfl trivial ?_
            refine rch_ret rfl (rt := some (vI 1)) rfl (Or.inr rfl) mw_c ?_
            first | exact Or.inl ⟨by omega, rfl, rfl⟩ | exact Or.inr (⟨by omega, rfl, rfl⟩) | (exfalso; omega)
    · refine rch_run rfl (by decide) 1 (t' := (13, [some (vR 38), some (vI i), some (vI k)], [vI 0], MW b I L)) (ps := []) rfl trivial ?_
      refine rch_ret rfl (rt := some (vI 0)) rfl (Or.inl rfl) mw_c ?_
      first | exact Or.inl ⟨by omega, rfl, rfl⟩ | exact Or.inr (⟨by omega, rfl, rfl⟩) | (exfalso; omega)

theorem k_X11_hand (l : Launch) (E : AX) (b : Bool) (I L : Nat → Nat → Int) (x : Int) (y : Int) (m : Int) (hn : I 17 0 ≤ 10) (hh : 0 ≤ I 32 0 ∧ I 32 0 ≤ 20) : Con l E 2 75 [vR 0, vI x, vI y, vI m] (MW b I L) 0 0 (fun rt w => (((x ≠ y ∧ (0 ≤ x ∧ x < I 17 0 ∧ I 20 x.toNat = 0) ∧ (0 ≤ y ∧ y < I 17 0 ∧ I 20 y.toNat = 0)) ∧ I 32 0 < 20 ∧ m ≠ 0) ∧ rt = some (vI (I 32 0)) ∧ w = MW b (upI (upI (upI (upI (upI (upI (upI I 0 1 0) 33 (I 32 0).toNat x) 34 (I 32 0).toNat y) 35 (I 32 0).toNat 1) 36 (I 32 0).toNat (I 0 0)) 37 (I 32 0).toNat (-1)) 32 0 ((I 32 0) + 1)) L) ∨ (((x ≠ y ∧ (0 ≤ x ∧ x < I 17 0 ∧ I 20 x.toNat = 0) ∧ (0 ≤ y ∧ y < I 17 0 ∧ I 20 y.toNat = 0)) ∧ I 32 0 < 20 ∧ m = 0) ∧ rt = some (vI (I 32 0)) ∧ w = MW b (upI (upI (upI (upI (upI (upI (upI I 0 1 0) 33 (I 32 0).toNat x) 34 (I 32 0).toNat y) 35 (I 32 0).toNat 0) 36 (I 32 0).toNat (I 0 0)) 37 (I 32 0).toNat (-1)) 32 0 ((I 32 0) + 1)) L) ∨ (((x ≠ y ∧ (0 ≤ x ∧ x < I 17 0 ∧ I 20 x.toNat = 0) ∧ (0 ≤ y ∧ y < I 17 0 ∧ I 20 y.toNat = 0)) ∧ ¬ I 32 0 < 20) ∧ rt = some (vI (-1)) ∧ w = MW b (upI I 0 1 0) L) ∨ ((¬ (x ≠ y ∧ (0 ≤ x ∧ x < I 17 0 ∧ I 20 x.toNat = 0) ∧ (0 ≤ y ∧ y < I 17 0 ∧ I 20 y.toNat = 0))) ∧ rt = some (vI (-1)) ∧ w = MW b I L)) := by
  refine con_intro (by decide) (Nat.le_of_ble_eq_true rfl) ?_
  show Rch l E 2 75 _ _ _ _ (0, [some (vR 0), some (vI x), some (vI y), some (vI m)], [], MW b I L)
  refine rch_run rfl (by decide) 2 (t' := (2, [some (vR 0), some (vI x), some (vI y), some (vI m)], [vI y, vI x], MW b I L)) (ps := []) rfl trivial ?_
  refine rch_br rfl (cd := x = y) (t1 := (27, [some (vR 0), some (vI x), some (vI y), some (vI m)], [], MW b I L)) (t2 := (5, [some (vR 0), some (vI x), some (vI y), some (vI m)], [], MW b I L)) rfl (fun c2_1 => ?_) (fun c2_1 => ?_)
  · refine rch_run rfl (by decide) 1 (t' := (28, [some (vR 0), some (vI x), some (vI y), some (vI m)], [vI (-1)], MW b I L)) (ps := []) rfl trivial ?_
    refine rch_ret rfl (rt := some (vI (-1))) rfl trivial mw_c ?_
    first | exact Or.inl ⟨by omega, rfl, rfl⟩ | exact Or.inr (Or.inl ⟨by omega, rfl, rfl⟩) | exact Or.inr (Or.inr (Or.inl ⟨by omega, rfl, rfl⟩)) | exact Or.inr (Or.inr (Or.inr (⟨by omega, rfl, rfl⟩))) | (exfalso; omega)
  · refine rch_run rfl (by decide) 3 (t' := (10, [some (vR 0), some (vI x), some (vI y), some (vI m)], [vI x, vR 17], MW b I L)) (ps := []) rfl trivial ?_
    refine rch_call (h' := 1) (k' := 32) (as := [vR 17, vI x]) (t1 := (13, [some (vR 0), some (vI x), some (vI y), some (vI m)], [], MW b I L)) rfl rfl (k_X4_isAlive l E b I L x (by show I 17 0 ≤ 10; omega)) (by decide) mw_le ?_
    rintro rt9 w9 (⟨k22, rfl, rfl⟩ | ⟨k22, rfl, rfl⟩) _ _
    · show Rch l E 2 75 _ _ _ _ (13, [some (vR 0), some (vI x), some (vI y), some (vI m)], [vI 1], MW b I L)
      have k22 : 0 ≤ x ∧ x < I 17 0 ∧ I 20 x.toNat = 0 := k22
      refine rch_br rfl (cd := (1 : Int) = 0) (t1 := (27, [some (vR 0), some (vI x), some (vI y), some (vI m)], [], MW b I L)) (t2 := (16, [some (vR 0), some (vI x), some (vI y), some (vI m)], [], MW b I L)) rfl (fun c9 => absurd c9 (by decide)) (fun _ => ?_)
      refine rch_run rfl (by decide) 3 (t' := (21, [some (vR 0), some (vI x), some (vI y), some (vI m)], [vI y, vR 17], MW b I L)) (ps := []) rfl trivial ?_
      refine rch_call (h' := 1) (k' := 32) (as := [vR 17, vI y]) (t1 := (24, [some (vR 0), some (vI x), some (vI y), some (vI m)], [], MW b I L)) rfl rfl (k_X4_isAlive l E b I L y (by show I 17 0 ≤ 10; omega)) (by decide) mw_le ?_
      rintro rt9 w9 (⟨k23, rfl, rfl⟩ | ⟨k23, rfl, rfl⟩) _ _
      · show Rch l E 2 75 _ _ _ _ (24, [some (vR 0), some (vI x), some (vI y), some (vI m)], [vI 1], MW b I L)
        have k23 : 0 ≤ y ∧ y < I 17 0 ∧ I 20 y.toNat = 0 := k23
        refine rch_br rfl (cd := (1 : Int) ≠ 0) (t1 := (29, [some (vR 0), some (vI x), some (vI y), some (vI m)], [], MW b I L)) (t2 := (27, [some (vR 0), some (vI x), some (vI y), some (vI m)], [], MW b I L)) rfl (fun _ => ?_) (fun c9 => absurd (by decide) c9)
        refine rch_run rfl (by decide) 8 (t' := (41, [some (vR 0), some (vI x), some (vI y), some (vI m)], [vI m, vI y, vI x, vR 32], MW b (upI I 0 1 0) L)) (ps := [(0 : Int) = 0 ∨ (0 : Int) = 1]) rfl (by simp only [all_, i32, i64]; first | omega | (simp; done) | (simp; omega)) ?_
        refine rch_br rfl (cd := m = 0) (t1 := (48, [some (vR 0), some (vI x), some (vI y), some (vI m)], [vI y, vI x, vR 32], MW b (upI I 0 1 0) L)) (t2 := (44, [some (vR 0), some (vI x), some (vI y), some (vI m)], [vI y, vI x, vR 32], MW b (upI I 0 1 0) L)) rfl (fun c41_4 => ?_) (fun c41_4 => ?_)
        · refine rch_run rfl (by decide) 3 (t' := (53, [some (vR 0), some (vI x), some (vI y), some (vI m)], [vI (I 0 0), vI 0, vI y, vI x, vR 32], MW b (upI I 0 1 0) L)) (ps := []) rfl trivial ?_
          refine rch_call (h' := 1) (k' := 8) (as := [vR 32, vI x, vI y, vI 0, vI (I 0 0)]) (t1 := (56, [some (vR 0), some (vI x), some (vI y), some (vI m)], [], MW b (upI I 0 1 0) L)) rfl rfl (k_hands_tell l E b (upI I 0 1 0) L x y 0 (I 0 0) (by show 0 ≤ I 32 0 ∧ I 32 0 ≤ 20; omega)) (by decide) mw_le ?_
          rintro rt9 w9 (⟨k24, rfl, rfl⟩ | ⟨k24, rfl, rfl⟩) _ _
          · show Rch l E 2 75 _ _ _ _ (56, [some (vR 0), some (vI x), some (vI y), some (vI m)], [vI (I 32 0)], MW b (upI (upI (upI (upI (upI (upI (upI I 0 1 0) 33 (I 32 0).toNat x) 34 (I 32 0).toNat y) 35 (I 32 0).toNat 0) 36 (I 32 0).toNat (I 0 0)) 37 (I 32 0).toNat (-1)) 32 0 ((I 32 0) + 1)) L)
            have k24 : I 32 0 < 20 := k24
            refine rch_ret rfl (rt := some (vI (I 32 0))) rfl trivial mw_c ?_
            first | exact Or.inl ⟨by omega, rfl, rfl⟩ | exact Or.inr (Or.inl ⟨by omega, rfl, rfl⟩) | exact Or.inr (Or.inr (Or.inl ⟨by omega, rfl, rfl⟩)) | exact Or.inr (Or.inr (Or.inr (⟨by omega, rfl, rfl⟩))) | (exfalso; omega)
          · show Rch l E 2 75 _ _ _ _ (56, [some (vR 0), some (vI x), some (vI y), some (vI m)], [vI (-1)], MW b (upI I 0 1 0) L)
            have k24 : ¬ (I 32 0 < 20) := k24
            refine rch_ret rfl (rt := some (vI (-1))) rfl trivial mw_c ?_
            first | exact Or.inl ⟨by omega, rfl, rfl⟩ | exact Or.inr (Or.inl ⟨by omega, rfl, rfl⟩) | exact Or.inr (Or.inr (Or.inl ⟨by omega, rfl, rfl⟩)) | exact Or.inr (Or.inr (Or.inr (⟨by omega, rfl, rfl⟩))) | (exfalso; omega)
        · refine rch_run rfl (by decide) 4 (t' := (53, [some (vR 0), some (vI x), some (vI y), some (vI m)], [vI (I 0 0), vI 1, vI y, vI x, vR 32], MW b (upI I 0 1 0) L)) (ps := []) rfl trivial ?_
          refine rch_call (h' := 1) (k' := 8) (as := [vR 32, vI x, vI y, vI 1, vI (I 0 0)]) (t1 := (56, [some (vR 0), some (vI x), some (vI y), some (vI m)], [], MW b (upI I 0 1 0) L)) rfl rfl (k_hands_tell l E b (upI I 0 1 0) L x y 1 (I 0 0) (by show 0 ≤ I 32 0 ∧ I 32 0 ≤ 20; omega)) (by decide) mw_le ?_
          rintro rt9 w9 (⟨k25, rfl, rfl⟩ | ⟨k25, rfl, rfl⟩) _ _
          · show Rch l E 2 75 _ _ _ _ (56, [some (vR 0), some (vI x), some (vI y), some (vI m)], [vI (I 32 0)], MW b (upI (upI (upI (upI (upI (upI (upI I 0 1 0) 33 (I 32 0).toNat x) 34 (I 32 0).toNat y) 35 (I 32 0).toNat 1) 36 (I 32 0).toNat (I 0 0)) 37 (I 32 0).toNat (-1)) 32 0 ((I 32 0) + 1)) L)
            have k25 : I 32 0 < 20 := k25
            refine rch_ret rfl (rt := some (vI (I 32 0))) rfl trivial mw_c ?_
            first | exact Or.inl ⟨by omega, rfl, rfl⟩ | exact Or.inr (Or.inl ⟨by omega, rfl, rfl⟩) | exact Or.inr (Or.inr (Or.inl ⟨by omega, rfl, rfl⟩)) | exact Or.inr (Or.inr (Or.inr (⟨by omega, rfl, rfl⟩))) | (exfalso; omega)
          · show Rch l E 2 75 _ _ _ _ (56, [some (vR 0), some (vI x), some (vI y), some (vI m)], [vI (-1)], MW b (upI I 0 1 0) L)
            have k25 : ¬ (I 32 0 < 20) := k25
            refine rch_ret rfl (rt := some (vI (-1))) rfl trivial mw_c ?_
            first | exact Or.inl ⟨by omega, rfl, rfl⟩ | exact Or.inr (Or.inl ⟨by omega, rfl, rfl⟩) | exact Or.inr (Or.inr (Or.inl ⟨by omega, rfl, rfl⟩)) | exact Or.inr (Or.inr (Or.inr (⟨by omega, rfl, rfl⟩))) | (exfalso; omega)
      · show Rch l E 2 75 _ _ _ _ (24, [some (vR 0), some (vI x), some (vI y), some (vI m)], [vI 0], MW b I L)
        have k23 : ¬ (0 ≤ y ∧ y < I 17 0 ∧ I 20 y.toNat = 0) := k23
        refine rch_br rfl (cd := (0 : Int) ≠ 0) (t1 := (29, [some (vR 0), some (vI x), some (vI y), some (vI m)], [], MW b I L)) (t2 := (27, [some (vR 0), some (vI x), some (vI y), some (vI m)], [], MW b I L)) rfl (fun c9 => absurd c9 (by decide)) (fun _ => ?_)
        refine rch_run rfl (by decide) 1 (t' := (28, [some (vR 0), some (vI x), some (vI y), some (vI m)], [vI (-1)], MW b I L)) (ps := []) rfl trivial ?_
        refine rch_ret rfl (rt := some (vI (-1))) rfl trivial mw_c ?_
        first | exact Or.inl ⟨by omega, rfl, rfl⟩ | exact Or.inr (Or.inl ⟨by omega, rfl, rfl⟩) | exact Or.inr (Or.inr (Or.inl ⟨by omega, rfl, rfl⟩)) | exact Or.inr (Or.inr (Or.inr (⟨by omega, rfl, rfl⟩))) | (exfalso; omega)
    · show Rch l E 2 75 _ _ _ _ (13, [some (vR 0), some (vI x), some (vI y), some (vI m)], [vI 0], MW b I L)
      have k22 : ¬ (0 ≤ x ∧ x < I 17 0 ∧ I 20 x.toNat = 0) := k22
      refine rch_br rfl (cd := (0 : Int) = 0) (t1 := (27, [some (vR 0), some (vI x), some (vI y), some (vI m)], [], MW b I L)) (t2 := (16, [some (vR 0), some (vI x), some (vI y), some (vI m)], [], MW b I L)) rfl (fun _ => ?_) (fun c9 => absurd (by decide) c9)
      refine rch_run rfl (by decide) 1 (t' := (28, [some (vR 0), some (vI x), some (vI y), some (vI m)], [vI (-1)], MW b I L)) (ps := []) rfl trivial ?_
      refine rch_ret rfl (rt := some (vI (-1))) rfl trivial mw_c ?_
      first | exact Or.inl ⟨by omega, rfl, rfl⟩ | exact Or.inr (Or.inl ⟨by omega, rfl, rfl⟩) | exact Or.inr (Or.inr (Or.inl ⟨by omega, rfl, rfl⟩)) | exact Or.inr (Or.inr (Or.inr (⟨by omega, rfl, rfl⟩))) | (exfalso; omega)

theorem k_X11_unhand (l : Launch) (E : AX) (b : Bool) (I L : Nat → Nat → Int) (i : Int) (hn : 0 ≤ I 32 0 ∧ I 32 0 ≤ 20) : Con l E 2 76 [vR 0, vI i] (MW b I L) 0 0 (fun rt w => ((0 ≤ i ∧ i < I 32 0 ∧ I 37 i.toNat = -1) ∧ rt = some (vI 1) ∧ w = MW b (upI (upI I 0 1 0) 37 i.toNat (I 0 0)) L) ∨ ((¬ (0 ≤ i ∧ i < I 32 0 ∧ I 37 i.toNat = -1)) ∧ rt = some (vI 0) ∧ w = MW b (upI I 0 1 0) L)) := by
  refine con_intro (by decide) (Nat.le_of_ble_eq_true rfl) ?_
  show Rch l E 2 76 _ _ _ _ (0, [some (vR 0), some (vI i)], [], MW b I L)
  refine rch_run rfl (by decide) 8 (t' := (14, [some (vR 0), some (vI i)], [vI (I 0 0), vI i, vR 32], MW b (upI I 0 1 0) L)) (ps := [(0 : Int) = 0 ∨ (0 : Int) = 1]) rfl (by simp only [all_, i32, i64]; first | omega | (simp; done) | (simp; omega)) ?_
  refine rch_call (h' := 1) (k' := 9) (as := [vR 32, vI i, vI (I 0 0)]) (t1 := (17, [some (vR 0), some (vI i)], [], MW b (upI I 0 1 0) L)) rfl rfl (k_hands_untell l E b (upI I 0 1 0) L i (I 0 0) (by show 0 ≤ I 32 0 ∧ I 32 0 ≤ 20; omega)) (by decide) mw_le ?_
  rintro rt9 w9 (⟨k26, rfl, rfl⟩ | ⟨k26, rfl, rfl⟩) _ _
  · show Rch l E 2 76 _ _ _ _ (17, [some (vR 0), some (vI i)], [vI 1], MW b (upI (upI I 0 1 0) 37 i.toNat (I 0 0)) L)
    have k26 : 0 ≤ i ∧ i < I 32 0 ∧ I 37 i.toNat = -1 := k26
    refine rch_ret rfl (rt := some (vI 1)) rfl (Or.inr rfl) mw_c ?_
    first | exact Or.inl ⟨by omega, rfl, rfl⟩ | exact Or.inr (⟨by omega, rfl, rfl⟩) | (exfalso; omega)
  · show Rch l E 2 76 _ _ _ _ (17, [some (vR 0), some (vI i)], [vI 0], MW b (upI I 0 1 0) L)
    have k26 : ¬ (0 ≤ i ∧ i < I 32 0 ∧ I 37 i.toNat = -1) := k26
    refine rch_ret rfl (rt := some (vI 0)) rfl (Or.inl rfl) mw_c ?_
    first | exact Or.inl ⟨by omega, rfl, rfl⟩ | exact Or.inr (⟨by omega, rfl, rfl⟩) | (exfalso; omega)

theorem k_X11_fix (l : Launch) (E : AX) (b : Bool) (I L : Nat → Nat → Int) (r : Int) (f : Int) (x : Int) (hn : I 17 0 ≤ 10) (hh : 0 ≤ I 38 0 ∧ I 38 0 ≤ 20) : Con l E 2 83 [vR 0, vI r, vI f, vI x] (MW b I L) 0 0 (fun rt w => ((((0 ≤ r ∧ r < I 17 0 ∧ I 20 r.toNat = 0) ∧ (0 ≤ f ∧ f ≤ 5) ∧ 0 ≤ x ∧ x ≤ 999999) ∧ I 38 0 < 20) ∧ rt = some (vI (I 38 0)) ∧ w = MW b (upI (upI (upI (upI (upI (upI I 39 (I 38 0).toNat r) 40 (I 38 0).toNat f) 41 (I 38 0).toNat x) 42 (I 38 0).toNat (I 0 0)) 43 (I 38 0).toNat (-1)) 38 0 ((I 38 0) + 1)) L) ∨ ((¬ (((0 ≤ r ∧ r < I 17 0 ∧ I 20 r.toNat = 0) ∧ (0 ≤ f ∧ f ≤ 5) ∧ 0 ≤ x ∧ x ≤ 999999) ∧ I 38 0 < 20)) ∧ rt = some (vI (-1)) ∧ w = MW b I L)) := by
  refine con_intro (by decide) (Nat.le_of_ble_eq_true rfl) ?_
  show Rch l E 2 83 _ _ _ _ (0, [some (vR 0), some (vI r), some (vI f), some (vI x)], [], MW b I L)
  refine rch_run rfl (by decide) 3 (t' := (5, [some (vR 0), some (vI r), some (vI f), some (vI x)], [vI r, vR 17], MW b I L)) (ps := []) rfl trivial ?_
  refine rch_call (h' := 1) (k' := 32) (as := [vR 17, vI r]) (t1 := (8, [some (vR 0), some (vI r), some (vI f), some (vI x)], [], MW b I L)) rfl rfl (k_X4_isAlive l E b I L r (by show I 17 0 ≤ 10; omega)) (by decide) mw_le ?_
  rintro rt9 w9 (⟨k27, rfl, rfl⟩ | ⟨k27, rfl, rfl⟩) _ _
  · show Rch l E 2 83 _ _ _ _ (8, [some (vR 0), some (vI r), some (vI f), some (vI x)], [vI 1], MW b I L)
    have k27 : 0 ≤ r ∧ r < I 17 0 ∧ I 20 r.toNat = 0 := k27
    refine rch_br rfl (cd := (1 : Int) = 0) (t1 := (25, [some (vR 0), some (vI r), some (vI f), some (vI x)], [], MW b I L)) (t2 := (11, [some (vR 0), some (vI r), some (vI f), some (vI x)], [], MW b I L)) rfl (fun c9 => absurd c9 (by decide)) (fun _ => ?_)
    refine rch_run rfl (by decide) 1 (t' := (12, [some (vR 0), some (vI r), some (vI f), some (vI x)], [vI f], MW b I L)) (ps := []) rfl trivial ?_
    refine rch_call (h' := 1) (k' := 91) (as := [vI f]) (t1 := (15, [some (vR 0), some (vI r), some (vI f), some (vI x)], [], MW b I L)) rfl rfl (k_X11_isField l E b I L f ) (by decide) mw_le ?_
    rintro rt9 w9 (⟨k28, rfl, rfl⟩ | ⟨k28, rfl, rfl⟩) _ _
    · show Rch l E 2 83 _ _ _ _ (15, [some (vR 0), some (vI r), some (vI f), some (vI x)], [vI 1], MW b I L)
      have k28 : 0 ≤ f ∧ f ≤ 5 := k28
      refine rch_br rfl (cd := (1 : Int) = 0) (t1 := (25, [some (vR 0), some (vI r), some (vI f), some (vI x)], [], MW b I L)) (t2 := (18, [some (vR 0), some (vI r), some (vI f), some (vI x)], [], MW b I L)) rfl (fun c9 => absurd c9 (by decide)) (fun _ => ?_)
      refine rch_run rfl (by decide) 1 (t' := (19, [some (vR 0), some (vI r), some (vI f), some (vI x)], [vI x], MW b I L)) (ps := []) rfl trivial ?_
      refine rch_call (h' := 1) (k' := 92) (as := [vI x]) (t1 := (22, [some (vR 0), some (vI r), some (vI f), some (vI x)], [], MW b I L)) rfl rfl (k_X11_isValue l E b I L x ) (by decide) mw_le ?_
      rintro rt9 w9 (⟨k29, rfl, rfl⟩ | ⟨k29, rfl, rfl⟩) _ _
      · show Rch l E 2 83 _ _ _ _ (22, [some (vR 0), some (vI r), some (vI f), some (vI x)], [vI 1], MW b I L)
        have k29 : 0 ≤ x ∧ x ≤ 999999 := k29
        refine rch_br rfl (cd := (1 : Int) ≠ 0) (t1 := (27, [some (vR 0), some (vI r), some (vI f), some (vI x)], [], MW b I L)) (t2 := (25, [some (vR 0), some (vI r), some (vI f), some (vI x)], [], MW b I L)) rfl (fun _ => ?_) (fun c9 => absurd (by decide) c9)
        refine rch_run rfl (by decide) 7 (t' := (38, [some (vR 0), some (vI r), some (vI f), some (vI x)], [vI (I 0 0), vI x, vI f, vI r, vR 38], MW b I L)) (ps := []) rfl trivial ?_
        refine rch_call (h' := 1) (k' := 8) (as := [vR 38, vI r, vI f, vI x, vI (I 0 0)]) (t1 := (41, [some (vR 0), some (vI r), some (vI f), some (vI x)], [], MW b I L)) rfl rfl (k_fixes_tell l E b I L r f x (I 0 0) (by show 0 ≤ I 38 0 ∧ I 38 0 ≤ 20; omega)) (by decide) mw_le ?_
        rintro rt9 w9 (⟨k30, rfl, rfl⟩ | ⟨k30, rfl, rfl⟩) _ _
        · show Rch l E 2 83 _ _ _ _ (41, [some (vR 0), some (vI r), some (vI f), some (vI x)], [vI (I 38 0)], MW b (upI (upI (upI (upI (upI (upI I 39 (I 38 0).toNat r) 40 (I 38 0).toNat f) 41 (I 38 0).toNat x) 42 (I 38 0).toNat (I 0 0)) 43 (I 38 0).toNat (-1)) 38 0 ((I 38 0) + 1)) L)
          have k30 : I 38 0 < 20 := k30
          refine rch_ret rfl (rt := some (vI (I 38 0))) rfl trivial mw_c ?_
          first | exact Or.inl ⟨by omega, rfl, rfl⟩ | exact Or.inr (⟨by omega, rfl, rfl⟩) | (exfalso; omega)
        · show Rch l E 2 83 _ _ _ _ (41, [some (vR 0), some (vI r), some (vI f), some (vI x)], [vI (-1)], MW b I L)
          have k30 : ¬ (I 38 0 < 20) := k30
          refine rch_ret rfl (rt := some (vI (-1))) rfl trivial mw_c ?_
          first | exact Or.inl ⟨by omega, rfl, rfl⟩ | exact Or.inr (⟨by omega, rfl, rfl⟩) | (exfalso; omega)
      · show Rch l E 2 83 _ _ _ _ (22, [some (vR 0), some (vI r), some (vI f), some (vI x)], [vI 0], MW b I L)
        have k29 : ¬ (0 ≤ x ∧ x ≤ 999999) := k29
        refine rch_br rfl (cd := (0 : Int) ≠ 0) (t1 := (27, [some (vR 0), some (vI r), some (vI f), some (vI x)], [], MW b I L)) (t2 := (25, [some (vR 0), some (vI r), some (vI f), some (vI x)], [], MW b I L)) rfl (fun c9 => absurd c9 (by decide)) (fun _ => ?_)
        refine rch_run rfl (by decide) 1 (t' := (26, [some (vR 0), some (vI r), some (vI f), some (vI x)], [vI (-1)], MW b I L)) (ps := []) rfl trivial ?_
        refine rch_ret rfl (rt := some (vI (-1))) rfl trivial mw_c ?_
        first | exact Or.inl ⟨by omega, rfl, rfl⟩ | exact Or.inr (⟨by omega, rfl, rfl⟩) | (exfalso; omega)
    · show Rch l E 2 83 _ _ _ _ (15, [some (vR 0), some (vI r), some (vI f), some (vI x)], [vI 0], MW b I L)
      have k28 : ¬ (0 ≤ f ∧ f ≤ 5) := k28
      refine rch_br rfl (cd := (0 : Int) = 0) (t1 := (25, [some (vR 0), some (vI r), some (vI f), some (vI x)], [], MW b I L)) (t2 := (18, [some (vR 0), some (vI r), some (vI f), some (vI x)], [], MW b I L)) rfl (fun _ => ?_) (fun c9 => absurd (by decide) c9)
      refine rch_run rfl (by decide) 1 (t' := (26, [some (vR 0), some (vI r), some (vI f), some (vI x)], [vI (-1)], MW b I L)) (ps := []) rfl trivial ?_
      refine rch_ret rfl (rt := some (vI (-1))) rfl trivial mw_c ?_
      first | exact Or.inl ⟨by omega, rfl, rfl⟩ | exact Or.inr (⟨by omega, rfl, rfl⟩) | (exfalso; omega)
  · show Rch l E 2 83 _ _ _ _ (8, [some (vR 0), some (vI r), some (vI f), some (vI x)], [vI 0], MW b I L)
    have k27 : ¬ (0 ≤ r ∧ r < I 17 0 ∧ I 20 r.toNat = 0) := k27
    refine rch_br rfl (cd := (0 : Int) = 0) (t1 := (25, [some (vR 0), some (vI r), some (vI f), some (vI x)], [], MW b I L)) (t2 := (11, [some (vR 0), some (vI r), some (vI f), some (vI x)], [], MW b I L)) rfl (fun _ => ?_) (fun c9 => absurd (by decide) c9)
    refine rch_run rfl (by decide) 1 (t' := (26, [some (vR 0), some (vI r), some (vI f), some (vI x)], [vI (-1)], MW b I L)) (ps := []) rfl trivial ?_
    refine rch_ret rfl (rt := some (vI (-1))) rfl trivial mw_c ?_
    first | exact Or.inl ⟨by omega, rfl, rfl⟩ | exact Or.inr (⟨by omega, rfl, rfl⟩) | (exfalso; omega)

theorem k_X11_unfix (l : Launch) (E : AX) (b : Bool) (I L : Nat → Nat → Int) (i : Int) (hn : 0 ≤ I 38 0 ∧ I 38 0 ≤ 20) : Con l E 2 84 [vR 0, vI i] (MW b I L) 0 0 (fun rt w => ((0 ≤ i ∧ i < I 38 0 ∧ I 43 i.toNat = -1) ∧ rt = some (vI 1) ∧ w = MW b (upI I 43 i.toNat (I 0 0)) L) ∨ ((¬ (0 ≤ i ∧ i < I 38 0 ∧ I 43 i.toNat = -1)) ∧ rt = some (vI 0) ∧ w = MW b I L)) := by
  refine con_intro (by decide) (Nat.le_of_ble_eq_true rfl) ?_
  show Rch l E 2 84 _ _ _ _ (0, [some (vR 0), some (vI i)], [], MW b I L)
  refine rch_run rfl (by decide) 5 (t' := (9, [some (vR 0), some (vI i)], [vI (I 0 0), vI i, vR 38], MW b I L)) (ps := []) rfl trivial ?_
  refine rch_call (h' := 1) (k' := 9) (as := [vR 38, vI i, vI (I 0 0)]) (t1 := (12, [some (vR 0), some (vI i)], [], MW b I L)) rfl rfl (k_fixes_untell l E b I L i (I 0 0) (by show 0 ≤ I 38 0 ∧ I 38 0 ≤ 20; omega)) (by decide) mw_le ?_
  rintro rt9 w9 (⟨k31, rfl, rfl⟩ | ⟨k31, rfl, rfl⟩) _ _
  · show Rch l E 2 84 _ _ _ _ (12, [some (vR 0), some (vI i)], [vI 1], MW b (upI I 43 i.toNat (I 0 0)) L)
    have k31 : 0 ≤ i ∧ i < I 38 0 ∧ I 43 i.toNat = -1 := k31
    refine rch_ret rfl (rt := some (vI 1)) rfl (Or.inr rfl) mw_c ?_
    first | exact Or.inl ⟨by omega, rfl, rfl⟩ | exact Or.inr (⟨by omega, rfl, rfl⟩) | (exfalso; omega)
  · show Rch l E 2 84 _ _ _ _ (12, [some (vR 0), some (vI i)], [vI 0], MW b I L)
    have k31 : ¬ (0 ≤ i ∧ i < I 38 0 ∧ I 43 i.toNat = -1) := k31
    refine rch_ret rfl (rt := some (vI 0)) rfl (Or.inl rfl) mw_c ?_
    first | exact Or.inl ⟨by omega, rfl, rfl⟩ | exact Or.inr (⟨by omega, rfl, rfl⟩) | (exfalso; omega)

theorem k_X12_hand (l : Launch) (E : AX) (b : Bool) (I L : Nat → Nat → Int) (x : Int) (y : Int) (m : Int) (hn : I 74 4 ≤ 10) (hh : 0 ≤ I 74 43 ∧ I 74 43 ≤ 20) (hm : m = 0 ∨ m = 1) : Con l E 2 143 [vR 74, vI x, vI y, vI m] (MW b I L) 0 0 (fun rt w => ((I 74 43 ≠ 20 ∧ (0 ≤ x ∧ x < I 74 4 ∧ I 80 x.toNat = 0) ∧ (0 ≤ y ∧ y < I 74 4 ∧ I 80 y.toNat = 0) ∧ x ≠ y) ∧ rt = some (vI (((I 74 43) + 1) - 1)) ∧ w = MW b (upI (upI (upI (upI (upI (upI I 100 (I 74 43).toNat x) 101 (I 74 43).toNat y) 104 (I 74 43).toNat m) 102 (I 74 43).toNat (I 74 0)) 103 (I 74 43).toNat (-1)) 74 43 ((I 74 43) + 1)) L) ∨ ((¬ (I 74 43 ≠ 20 ∧ (0 ≤ x ∧ x < I 74 4 ∧ I 80 x.toNat = 0) ∧ (0 ≤ y ∧ y < I 74 4 ∧ I 80 y.toNat = 0) ∧ x ≠ y)) ∧ rt = some (vI (-1)) ∧ w = MW b I L)) := by
  refine con_intro (by decide) (Nat.le_of_ble_eq_true rfl) ?_
  show Rch l E 2 143 _ _ _ _ (0, [some (vR 74), some (vI x), some (vI y), some (vI m)], [], MW b I L)
  refine rch_run rfl (by decide) 3 (t' := (6, [some (vR 74), some (vI x), some (vI y), some (vI m)], [vI 20, vI (I 74 43)], MW b I L)) (ps := []) rfl trivial ?_
  refine rch_br rfl (cd := I 74 43 = (20 : Int)) (t1 := (30, [some (vR 74), some (vI x), some (vI y), some (vI m)], [], MW b I L)) (t2 := (9, [some (vR 74), some (vI x), some (vI y), some (vI m)], [], MW b I L)) rfl (fun c6_1 => ?_) (fun c6_1 => ?_)
  · refine rch_run rfl (by decide) 1 (t' := (31, [some (vR 74), some (vI x), some (vI y), some (vI m)], [vI (-1)], MW b I L)) (ps := []) rfl trivial ?_
    refine rch_ret rfl (rt := some (vI (-1))) rfl trivial mw_c ?_
    first | exact Or.inl ⟨by omega, rfl, rfl⟩ | exact Or.inr (⟨by omega, rfl, rfl⟩) | (exfalso; omega)
  · refine rch_run rfl (by decide) 2 (t' := (11, [some (vR 74), some (vI x), some (vI y), some (vI m)], [vI x, vR 74], MW b I L)) (ps := []) rfl trivial ?_
    refine rch_call (h' := 1) (k' := 109) (as := [vR 74, vI x]) (t1 := (14, [some (vR 74), some (vI x), some (vI y), some (vI m)], [], MW b I L)) rfl rfl (k_X12_isRow l E b I L x (by show I 74 4 ≤ 10; omega)) (by decide) mw_le ?_
    rintro rt9 w9 (⟨k32, rfl, rfl⟩ | ⟨k32, rfl, rfl⟩) _ _
    · show Rch l E 2 143 _ _ _ _ (14, [some (vR 74), some (vI x), some (vI y), some (vI m)], [vI 1], MW b I L)
      have k32 : 0 ≤ x ∧ x < I 74 4 ∧ I 80 x.toNat = 0 := k32
      refine rch_br rfl (cd := (1 : Int) = 0) (t1 := (30, [some (vR 74), some (vI x), some (vI y), some (vI m)], [], MW b I L)) (t2 := (17, [some (vR 74), some (vI x), some (vI y), some (vI m)], [], MW b I L)) rfl (fun c9 => absurd c9 (by decide)) (fun _ => ?_)
      refine rch_run rfl (by decide) 2 (t' := (19, [some (vR 74), some (vI x), some (vI y), some (vI m)], [vI y, vR 74], MW b I L)) (ps := []) rfl trivial ?_
      refine rch_call (h' := 1) (k' := 109) (as := [vR 74, vI y]) (t1 := (22, [some (vR 74), some (vI x), some (vI y), some (vI m)], [], MW b I L)) rfl rfl (k_X12_isRow l E b I L y (by show I 74 4 ≤ 10; omega)) (by decide) mw_le ?_
      rintro rt9 w9 (⟨k33, rfl, rfl⟩ | ⟨k33, rfl, rfl⟩) _ _
      · show Rch l E 2 143 _ _ _ _ (22, [some (vR 74), some (vI x), some (vI y), some (vI m)], [vI 1], MW b I L)
        have k33 : 0 ≤ y ∧ y < I 74 4 ∧ I 80 y.toNat = 0 := k33
        refine rch_br rfl (cd := (1 : Int) = 0) (t1 := (30, [some (vR 74), some (vI x), some (vI y), some (vI m)], [], MW b I L)) (t2 := (25, [some (vR 74), some (vI x), some (vI y), some (vI m)], [], MW b I L)) rfl (fun c9 => absurd c9 (by decide)) (fun _ => ?_)
        refine rch_run rfl (by decide) 2 (t' := (27, [some (vR 74), some (vI x), some (vI y), some (vI m)], [vI y, vI x], MW b I L)) (ps := []) rfl trivial ?_
        refine rch_br rfl (cd := x ≠ y) (t1 := (32, [some (vR 74), some (vI x), some (vI y), some (vI m)], [], MW b I L)) (t2 := (30, [some (vR 74), some (vI x), some (vI y), some (vI m)], [], MW b I L)) rfl (fun c27_4 => ?_) (fun c27_4 => ?_)
        · refine rch_run rfl (by decide) 25 (t' := (75, [some (vR 74), some (vI x), some (vI y), some (vI m)], [], MW b (upI (upI (upI (upI I 100 (I 74 43).toNat x) 101 (I 74 43).toNat y) 104 (I 74 43).toNat m) 102 (I 74 43).toNat (I 74 0)) L)) (ps := [0 ≤ I 74 43 ∧ I 74 43 < ((20 : Nat) : Int), 0 ≤ I 74 43 ∧ I 74 43 < ((20 : Nat) : Int), 0 ≤ I 74 43 ∧ I 74 43 < ((20 : Nat) : Int), m = 0 ∨ m = 1, 0 ≤ I 74 43 ∧ I 74 43 < ((20 : Nat) : Int)]) rfl (by simp only [all_, i32, i64]; first | omega | (simp; done) | (simp; omega)) ?_
          refine rch_run rfl (by decide) 16 (t' := (101, [some (vR 74), some (vI x), some (vI y), some (vI m)], [vI (((I 74 43) + 1) - 1)], MW b (upI (upI (upI (upI (upI (upI I 100 (I 74 43).toNat x) 101 (I 74 43).toNat y) 104 (I 74 43).toNat m) 102 (I 74 43).toNat (I 74 0)) 103 (I 74 43).toNat (-1)) 74 43 ((I 74 43) + 1)) L)) (ps := [0 ≤ I 74 43 ∧ I 74 43 < ((20 : Nat) : Int), i32 ((I 74 43) + 1), i32 (((I 74 43) + 1) - 1)]) rfl (by simp only [all_, i32, i64]; first | omega | (simp; done) | (simp; omega)) ?_
          refine rch_ret rfl (rt := some (vI (((I 74 43) + 1) - 1))) rfl trivial mw_c ?_
          first | exact Or.inl ⟨by omega, rfl, rfl⟩ | exact Or.inr (⟨by omega, rfl, rfl⟩) | (exfalso; omega)
        · refine rch_run rfl (by decide) 1 (t' := (31, [some (vR 74), some (vI x), some (vI y), some (vI m)], [vI (-1)], MW b I L)) (ps := []) rfl trivial ?_
          refine rch_ret rfl (rt := some (vI (-1))) rfl trivial mw_c ?_
          first | exact Or.inl ⟨by omega, rfl, rfl⟩ | exact Or.inr (⟨by omega, rfl, rfl⟩) | (exfalso; omega)
      · show Rch l E 2 143 _ _ _ _ (22, [some (vR 74), some (vI x), some (vI y), some (vI m)], [vI 0], MW b I L)
        have k33 : ¬ (0 ≤ y ∧ y < I 74 4 ∧ I 80 y.toNat = 0) := k33
        refine rch_br rfl (cd := (0 : Int) = 0) (t1 := (30, [some (vR 74), some (vI x), some (vI y), some (vI m)], [], MW b I L)) (t2 := (25, [some (vR 74), some (vI x), some (vI y), some (vI m)], [], MW b I L)) rfl (fun _ => ?_) (fun c9 => absurd (by decide) c9)
        refine rch_run rfl (by decide) 1 (t' := (31, [some (vR 74), some (vI x), some (vI y), some (vI m)], [vI (-1)], MW b I L)) (ps := []) rfl trivial ?_
        refine rch_ret rfl (rt := some (vI (-1))) rfl trivial mw_c ?_
        first | exact Or.inl ⟨by omega, rfl, rfl⟩ | exact Or.inr (⟨by omega, rfl, rfl⟩) | (exfalso; omega)
    · show Rch l E 2 143 _ _ _ _ (14, [some (vR 74), some (vI x), some (vI y), some (vI m)], [vI 0], MW b I L)
      have k32 : ¬ (0 ≤ x ∧ x < I 74 4 ∧ I 80 x.toNat = 0) := k32
      refine rch_br rfl (cd := (0 : Int) = 0) (t1 := (30, [some (vR 74), some (vI x), some (vI y), some (vI m)], [], MW b I L)) (t2 := (17, [some (vR 74), some (vI x), some (vI y), some (vI m)], [], MW b I L)) rfl (fun _ => ?_) (fun c9 => absurd (by decide) c9)
      refine rch_run rfl (by decide) 1 (t' := (31, [some (vR 74), some (vI x), some (vI y), some (vI m)], [vI (-1)], MW b I L)) (ps := []) rfl trivial ?_
      refine rch_ret rfl (rt := some (vI (-1))) rfl trivial mw_c ?_
      first | exact Or.inl ⟨by omega, rfl, rfl⟩ | exact Or.inr (⟨by omega, rfl, rfl⟩) | (exfalso; omega)

theorem k_X12_unhand (l : Launch) (E : AX) (b : Bool) (I L : Nat → Nat → Int) (i : Int) (hn : 0 ≤ I 74 43 ∧ I 74 43 ≤ 20) : Con l E 1 144 [vR 74, vI i] (MW b I L) 0 0 (fun rt w => ((0 ≤ i ∧ i < I 74 43 ∧ I 103 i.toNat < 0) ∧ rt = some (vI 1) ∧ w = MW b (upI I 103 i.toNat (I 74 0)) L) ∨ ((¬ (0 ≤ i ∧ i < I 74 43 ∧ I 103 i.toNat < 0)) ∧ rt = some (vI 0) ∧ w = MW b I L)) := by
  refine con_intro (by decide) (Nat.le_of_ble_eq_true rfl) ?_
  show Rch l E 1 144 _ _ _ _ (0, [some (vR 74), some (vI i)], [], MW b I L)
  refine rch_run rfl (by decide) 1 (t' := (1, [some (vR 74), some (vI i)], [vI i], MW b I L)) (ps := []) rfl trivial ?_
  refine rch_br rfl (cd := i < 0) (t1 := (21, [some (vR 74), some (vI i)], [], MW b I L)) (t2 := (4, [some (vR 74), some (vI i)], [], MW b I L)) rfl (fun c1_1 => ?_) (fun c1_1 => ?_)
  · refine rch_run rfl (by decide) 1 (t' := (22, [some (vR 74), some (vI i)], [vI 0], MW b I L)) (ps := []) rfl trivial ?_
    refine rch_ret rfl (rt := some (vI 0)) rfl (Or.inl rfl) mw_c ?_
    first | exact Or.inl ⟨by omega, rfl, rfl⟩ | exact Or.inr (⟨by omega, rfl, rfl⟩) | (exfalso; omega)
  · refine rch_run rfl (by decide) 3 (t' := (9, [some (vR 74), some (vI i)], [vI (I 74 43), vI i], MW b I L)) (ps := []) rfl trivial ?_
    refine rch_br rfl (cd := I 74 43 ≤ i) (t1 := (21, [some (vR 74), some (vI i)], [], MW b I L)) (t2 := (12, [some (vR 74), some (vI i)], [], MW b I L)) rfl (fun c9_2 => ?_) (fun c9_2 => ?_)
    · refine rch_run rfl (by decide) 1 (t' := (22, [some (vR 74), some (vI i)], [vI 0], MW b I L)) (ps := []) rfl trivial ?_
      refine rch_ret rfl (rt := some (vI 0)) rfl (Or.inl rfl) mw_c ?_
      first | exact Or.inl ⟨by omega, rfl, rfl⟩ | exact Or.inr (⟨by omega, rfl, rfl⟩) | (exfalso; omega)
    · refine rch_run rfl (by decide) 4 (t' := (18, [some (vR 74), some (vI i)], [vI (I 103 i.toNat)], MW b I L)) (ps := [0 ≤ i ∧ i < ((20 : Nat) : Int)]) rfl (by simp only [all_, i32, i64]; first | omega | (simp; done) | (simp; omega)) ?_
      refine rch_br rfl (cd := I 103 i.toNat < 0) (t1 := (23, [some (vR 74), some (vI i)], [], MW b I L)) (t2 := (21, [some (vR 74), some (vI i)], [], MW b I L)) rfl (fun c18_3 => ?_) (fun c18_3 => ?_)
      · refine rch_run rfl (by decide) 7 (t' := (34, [some (vR 74), some (vI i)], [vI 1], MW b (upI I 103 i.toNat (I 74 0)) L)) (ps := [0 ≤ i ∧ i < ((20 : Nat) : Int)]) rfl (by simp only [all_, i32, i64]; first | omega | (simp; done) | (simp; omega)) ?_
        refine rch_ret rfl (rt := some (vI 1)) rfl (Or.inr rfl) mw_c ?_
        first | exact Or.inl ⟨by omega, rfl, rfl⟩ | exact Or.inr (⟨by omega, rfl, rfl⟩) | (exfalso; omega)
      · refine rch_run rfl (by decide) 1 (t' := (22, [some (vR 74), some (vI i)], [vI 0], MW b I L)) (ps := []) rfl trivial ?_
        refine rch_ret rfl (rt := some (vI 0)) rfl (Or.inl rfl) mw_c ?_
        first | exact Or.inl ⟨by omega, rfl, rfl⟩ | exact Or.inr (⟨by omega, rfl, rfl⟩) | (exfalso; omega)

theorem k_X12_unfix (l : Launch) (E : AX) (b : Bool) (I L : Nat → Nat → Int) (i : Int) (hn : 0 ≤ I 74 44 ∧ I 74 44 ≤ 20) : Con l E 1 146 [vR 74, vI i] (MW b I L) 0 0 (fun rt w => ((0 ≤ i ∧ i < I 74 44 ∧ I 109 i.toNat < 0) ∧ rt = some (vI 1) ∧ w = MW b (upI I 109 i.toNat (I 74 0)) L) ∨ ((¬ (0 ≤ i ∧ i < I 74 44 ∧ I 109 i.toNat < 0)) ∧ rt = some (vI 0) ∧ w = MW b I L)) := by
  refine con_intro (by decide) (Nat.le_of_ble_eq_true rfl) ?_
  show Rch l E 1 146 _ _ _ _ (0, [some (vR 74), some (vI i)], [], MW b I L)
  refine rch_run rfl (by decide) 1 (t' := (1, [some (vR 74), some (vI i)], [vI i], MW b I L)) (ps := []) rfl trivial ?_
  refine rch_br rfl (cd := i < 0) (t1 := (21, [some (vR 74), some (vI i)], [], MW b I L)) (t2 := (4, [some (vR 74), some (vI i)], [], MW b I L)) rfl (fun c1_1 => ?_) (fun c1_1 => ?_)
  · refine rch_run rfl (by decide) 1 (t' := (22, [some (vR 74), some (vI i)], [vI 0], MW b I L)) (ps := []) rfl trivial ?_
    refine rch_ret rfl (rt := some (vI 0)) rfl (Or.inl rfl) mw_c ?_
    first | exact Or.inl ⟨by omega, rfl, rfl⟩ | exact Or.inr (⟨by omega, rfl, rfl⟩) | (exfalso; omega)
  · refine rch_run rfl (by decide) 3 (t' := (9, [some (vR 74), some (vI i)], [vI (I 74 44), vI i], MW b I L)) (ps := []) rfl trivial ?_
    refine rch_br rfl (cd := I 74 44 ≤ i) (t1 := (21, [some (vR 74), some (vI i)], [], MW b I L)) (t2 := (12, [some (vR 74), some (vI i)], [], MW b I L)) rfl (fun c9_2 => ?_) (fun c9_2 => ?_)
    · refine rch_run rfl (by decide) 1 (t' := (22, [some (vR 74), some (vI i)], [vI 0], MW b I L)) (ps := []) rfl trivial ?_
      refine rch_ret rfl (rt := some (vI 0)) rfl (Or.inl rfl) mw_c ?_
      first | exact Or.inl ⟨by omega, rfl, rfl⟩ | exact Or.inr (⟨by omega, rfl, rfl⟩) | (exfalso; omega)
    · refine rch_run rfl (by decide) 4 (t' := (18, [some (vR 74), some (vI i)], [vI (I 109 i.toNat)], MW b I L)) (ps := [0 ≤ i ∧ i < ((20 : Nat) : Int)]) rfl (by simp only [all_, i32, i64]; first | omega | (simp; done) | (simp; omega)) ?_
      refine rch_br rfl (cd := I 109 i.toNat < 0) (t1 := (23, [some (vR 74), some (vI i)], [], MW b I L)) (t2 := (21, [some (vR 74), some (vI i)], [], MW b I L)) rfl (fun c18_3 => ?_) (fun c18_3 => ?_)
      · refine rch_run rfl (by decide) 7 (t' := (34, [some (vR 74), some (vI i)], [vI 1], MW b (upI I 109 i.toNat (I 74 0)) L)) (ps := [0 ≤ i ∧ i < ((20 : Nat) : Int)]) rfl (by simp only [all_, i32, i64]; first | omega | (simp; done) | (simp; omega)) ?_
        refine rch_ret rfl (rt := some (vI 1)) rfl (Or.inr rfl) mw_c ?_
        first | exact Or.inl ⟨by omega, rfl, rfl⟩ | exact Or.inr (⟨by omega, rfl, rfl⟩) | (exfalso; omega)
      · refine rch_run rfl (by decide) 1 (t' := (22, [some (vR 74), some (vI i)], [vI 0], MW b I L)) (ps := []) rfl trivial ?_
        refine rch_ret rfl (rt := some (vI 0)) rfl (Or.inl rfl) mw_c ?_
        first | exact Or.inl ⟨by omega, rfl, rfl⟩ | exact Or.inr (⟨by omega, rfl, rfl⟩) | (exfalso; omega)

theorem k_X12_fix (l : Launch) (E : AX) (b : Bool) (I L : Nat → Nat → Int) (r : Int) (f : Int) (x : Int) (hn : I 74 4 ≤ 10) (hh : 0 ≤ I 74 44 ∧ I 74 44 ≤ 20) : Con l E 2 145 [vR 74, vI r, vI f, vI x] (MW b I L) 0 0 (fun rt w => ((I 74 44 ≠ 20 ∧ (0 ≤ r ∧ r < I 74 4 ∧ I 80 r.toNat = 0) ∧ (0 ≤ f ∧ f ≤ 5) ∧ 0 ≤ x ∧ x ≤ 999999) ∧ rt = some (vI (((I 74 44) + 1) - 1)) ∧ w = MW b (upI (upI (upI (upI (upI (upI I 105 (I 74 44).toNat r) 106 (I 74 44).toNat f) 107 (I 74 44).toNat x) 108 (I 74 44).toNat (I 74 0)) 109 (I 74 44).toNat (-1)) 74 44 ((I 74 44) + 1)) L) ∨ ((¬ (I 74 44 ≠ 20 ∧ (0 ≤ r ∧ r < I 74 4 ∧ I 80 r.toNat = 0) ∧ (0 ≤ f ∧ f ≤ 5) ∧ 0 ≤ x ∧ x ≤ 999999)) ∧ rt = some (vI (-1)) ∧ w = MW b I L)) := by
  refine con_intro (by decide) (Nat.le_of_ble_eq_true rfl) ?_
  show Rch l E 2 145 _ _ _ _ (0, [some (vR 74), some (vI r), some (vI f), some (vI x)], [], MW b I L)
  refine rch_run rfl (by decide) 3 (t' := (6, [some (vR 74), some (vI r), some (vI f), some (vI x)], [vI 20, vI (I 74 44)], MW b I L)) (ps := []) rfl trivial ?_
  refine rch_br rfl (cd := I 74 44 = (20 : Int)) (t1 := (31, [some (vR 74), some (vI r), some (vI f), some (vI x)], [], MW b I L)) (t2 := (9, [some (vR 74), some (vI r), some (vI f), some (vI x)], [], MW b I L)) rfl (fun c6_1 => ?_) (fun c6_1 => ?_)
  · refine rch_run rfl (by decide) 1 (t' := (32, [some (vR 74), some (vI r), some (vI f), some (vI x)], [vI (-1)], MW b I L)) (ps := []) rfl trivial ?_
    refine rch_ret rfl (rt := some (vI (-1))) rfl trivial mw_c ?_
    first | exact Or.inl ⟨by omega, rfl, rfl⟩ | exact Or.inr (⟨by omega, rfl, rfl⟩) | (exfalso; omega)
  · refine rch_run rfl (by decide) 2 (t' := (11, [some (vR 74), some (vI r), some (vI f), some (vI x)], [vI r, vR 74], MW b I L)) (ps := []) rfl trivial ?_
    refine rch_call (h' := 1) (k' := 109) (as := [vR 74, vI r]) (t1 := (14, [some (vR 74), some (vI r), some (vI f), some (vI x)], [], MW b I L)) rfl rfl (k_X12_isRow l E b I L r (by show I 74 4 ≤ 10; omega)) (by decide) mw_le ?_
    rintro rt9 w9 (⟨k34, rfl, rfl⟩ | ⟨k34, rfl, rfl⟩) _ _
    · show Rch l E 2 145 _ _ _ _ (14, [some (vR 74), some (vI r), some (vI f), some (vI x)], [vI 1], MW b I L)
      have k34 : 0 ≤ r ∧ r < I 74 4 ∧ I 80 r.toNat = 0 := k34
      refine rch_br rfl (cd := (1 : Int) = 0) (t1 := (31, [some (vR 74), some (vI r), some (vI f), some (vI x)], [], MW b I L)) (t2 := (17, [some (vR 74), some (vI r), some (vI f), some (vI x)], [], MW b I L)) rfl (fun c9 => absurd c9 (by decide)) (fun _ => ?_)
      refine rch_run rfl (by decide) 1 (t' := (18, [some (vR 74), some (vI r), some (vI f), some (vI x)], [vI f], MW b I L)) (ps := []) rfl trivial ?_
      refine rch_call (h' := 1) (k' := 104) (as := [vI f]) (t1 := (21, [some (vR 74), some (vI r), some (vI f), some (vI x)], [], MW b I L)) rfl rfl (k_X12_isField l E b I L f ) (by decide) mw_le ?_
      rintro rt9 w9 (⟨k35, rfl, rfl⟩ | ⟨k35, rfl, rfl⟩) _ _
      · show Rch l E 2 145 _ _ _ _ (21, [some (vR 74), some (vI r), some (vI f), some (vI x)], [vI 1], MW b I L)
        have k35 : 0 ≤ f ∧ f ≤ 5 := k35
        refine rch_br rfl (cd := (1 : Int) = 0) (t1 := (31, [some (vR 74), some (vI r), some (vI f), some (vI x)], [], MW b I L)) (t2 := (24, [some (vR 74), some (vI r), some (vI f), some (vI x)], [], MW b I L)) rfl (fun c9 => absurd c9 (by decide)) (fun _ => ?_)
        refine rch_run rfl (by decide) 1 (t' := (25, [some (vR 74), some (vI r), some (vI f), some (vI x)], [vI x], MW b I L)) (ps := []) rfl trivial ?_
        refine rch_call (h' := 1) (k' := 111) (as := [vI x]) (t1 := (28, [some (vR 74), some (vI r), some (vI f), some (vI x)], [], MW b I L)) rfl rfl (k_X12_isValue l E b I L x ) (by decide) mw_le ?_
        rintro rt9 w9 (⟨k36, rfl, rfl⟩ | ⟨k36, rfl, rfl⟩) _ _
        · show Rch l E 2 145 _ _ _ _ (28, [some (vR 74), some (vI r), some (vI f), some (vI x)], [vI 1], MW b I L)
          have k36 : 0 ≤ x ∧ x ≤ 999999 := k36
          refine rch_br rfl (cd := (1 : Int) ≠ 0) (t1 := (33, [some (vR 74), some (vI r), some (vI f), some (vI x)], [], MW b I L)) (t2 := (31, [some (vR 74), some (vI r), some (vI f), some (vI x)], [], MW b I L)) rfl (fun _ => ?_) (fun c9 => absurd (by decide) c9)
          refine rch_run rfl (by decide) 25 (t' := (76, [some (vR 74), some (vI r), some (vI f), some (vI x)], [], MW b (upI (upI (upI (upI I 105 (I 74 44).toNat r) 106 (I 74 44).toNat f) 107 (I 74 44).toNat x) 108 (I 74 44).toNat (I 74 0)) L)) (ps := [0 ≤ I 74 44 ∧ I 74 44 < ((20 : Nat) : Int), 0 ≤ I 74 44 ∧ I 74 44 < ((20 : Nat) : Int), 0 ≤ I 74 44 ∧ I 74 44 < ((20 : Nat) : Int), 0 ≤ I 74 44 ∧ I 74 44 < ((20 : Nat) : Int)]) rfl (by simp only [all_, i32, i64]; first | omega | (simp; done) | (simp; omega)) ?_
          refine rch_run rfl (by decide) 16 (t' := (102, [some (vR 74), some (vI r), some (vI f), some (vI x)], [vI (((I 74 44) + 1) - 1)], MW b (upI (upI (upI (upI (upI (upI I 105 (I 74 44).toNat r) 106 (I 74 44).toNat f) 107 (I 74 44).toNat x) 108 (I 74 44).toNat (I 74 0)) 109 (I 74 44).toNat (-1)) 74 44 ((I 74 44) + 1)) L)) (ps := [0 ≤ I 74 44 ∧ I 74 44 < ((20 : Nat) : Int), i32 ((I 74 44) + 1), i32 (((I 74 44) + 1) - 1)]) rfl (by simp only [all_, i32, i64]; first | omega | (simp; done) | (simp; omega)) ?_
          refine rch_ret rfl (rt := some (vI (((I 74 44) + 1) - 1))) rfl trivial mw_c ?_
          first | exact Or.inl ⟨by omega, rfl, rfl⟩ | exact Or.inr (⟨by omega, rfl, rfl⟩) | (exfalso; omega)
        · show Rch l E 2 145 _ _ _ _ (28, [some (vR 74), some (vI r), some (vI f), some (vI x)], [vI 0], MW b I L)
          have k36 : ¬ (0 ≤ x ∧ x ≤ 999999) := k36
          refine rch_br rfl (cd := (0 : Int) ≠ 0) (t1 := (33, [some (vR 74), some (vI r), some (vI f), some (vI x)], [], MW b I L)) (t2 := (31, [some (vR 74), some (vI r), some (vI f), some (vI x)], [], MW b I L)) rfl (fun c9 => absurd c9 (by decide)) (fun _ => ?_)
          refine rch_run rfl (by decide) 1 (t' := (32, [some (vR 74), some (vI r), some (vI f), some (vI x)], [vI (-1)], MW b I L)) (ps := []) rfl trivial ?_
          refine rch_ret rfl (rt := some (vI (-1))) rfl trivial mw_c ?_
          first | exact Or.inl ⟨by omega, rfl, rfl⟩ | exact Or.inr (⟨by omega, rfl, rfl⟩) | (exfalso; omega)
      · show Rch l E 2 145 _ _ _ _ (21, [some (vR 74), some (vI r), some (vI f), some (vI x)], [vI 0], MW b I L)
        have k35 : ¬ (0 ≤ f ∧ f ≤ 5) := k35
        refine rch_br rfl (cd := (0 : Int) = 0) (t1 := (31, [some (vR 74), some (vI r), some (vI f), some (vI x)], [], MW b I L)) (t2 := (24, [some (vR 74), some (vI r), some (vI f), some (vI x)], [], MW b I L)) rfl (fun _ => ?_) (fun c9 => absurd (by decide) c9)
        refine rch_run rfl (by decide) 1 (t' := (32, [some (vR 74), some (vI r), some (vI f), some (vI x)], [vI (-1)], MW b I L)) (ps := []) rfl trivial ?_
        refine rch_ret rfl (rt := some (vI (-1))) rfl trivial mw_c ?_
        first | exact Or.inl ⟨by omega, rfl, rfl⟩ | exact Or.inr (⟨by omega, rfl, rfl⟩) | (exfalso; omega)
    · show Rch l E 2 145 _ _ _ _ (14, [some (vR 74), some (vI r), some (vI f), some (vI x)], [vI 0], MW b I L)
      have k34 : ¬ (0 ≤ r ∧ r < I 74 4 ∧ I 80 r.toNat = 0) := k34
      refine rch_br rfl (cd := (0 : Int) = 0) (t1 := (31, [some (vR 74), some (vI r), some (vI f), some (vI x)], [], MW b I L)) (t2 := (17, [some (vR 74), some (vI r), some (vI f), some (vI x)], [], MW b I L)) rfl (fun _ => ?_) (fun c9 => absurd (by decide) c9)
      refine rch_run rfl (by decide) 1 (t' := (32, [some (vR 74), some (vI r), some (vI f), some (vI x)], [vI (-1)], MW b I L)) (ps := []) rfl trivial ?_
      refine rch_ret rfl (rt := some (vI (-1))) rfl trivial mw_c ?_
      first | exact Or.inl ⟨by omega, rfl, rfl⟩ | exact Or.inr (⟨by omega, rfl, rfl⟩) | (exfalso; omega)

theorem k_X12_isKnown (l : Launch) (E : AX) (b : Bool) (I L : Nat → Nat → Int) (t : Int) (u : Int) (k : Int) : Con l E 1 142 [vI t, vI u, vI k] (MW b I L) 0 0 (fun rt w => ((t ≤ k ∧ ¬ (0 ≤ u ∧ u ≤ k)) ∧ rt = some (vI 1) ∧ w = MW b I L) ∨ ((¬ (t ≤ k ∧ ¬ (0 ≤ u ∧ u ≤ k))) ∧ rt = some (vI 0) ∧ w = MW b I L)) := by
  refine con_intro (by decide) (Nat.le_of_ble_eq_true rfl) ?_
  show Rch l E 1 142 _ _ _ _ (0, [some (vI t), some (vI u), some (vI k)], [], MW b I L)
  refine rch_run rfl (by decide) 2 (t' := (2, [some (vI t), some (vI u), some (vI k)], [vI k, vI t], MW b I L)) (ps := []) rfl trivial ?_
  refine rch_br rfl (cd := k < t) (t1 := (18, [some (vI t), some (vI u), some (vI k)], [], MW b I L)) (t2 := (5, [some (vI t), some (vI u), some (vI k)], [], MW b I L)) rfl (fun c2_1 => ?_) (fun c2_1 => ?_)
  · refine rch_run rfl (by decide) 1 (t' := (19, [some (vI t), some (vI u), some (vI k)], [vI 0], MW b I L)) (ps := []) rfl trivial ?_
    refine rch_ret rfl (rt := some (vI 0)) rfl (Or.inl rfl) mw_c ?_
    first | exact Or.inl ⟨by omega, rfl, rfl⟩ | exact Or.inr (⟨by omega, rfl, rfl⟩) | (exfalso; omega)
  · refine rch_run rfl (by decide) 1 (t' := (6, [some (vI t), some (vI u), some (vI k)], [vI u], MW b I L)) (ps := []) rfl trivial ?_
    refine rch_br rfl (cd := u < 0) (t1 := (14, [some (vI t), some (vI u), some (vI k)], [], MW b I L)) (t2 := (9, [some (vI t), some (vI u), some (vI k)], [], MW b I L)) rfl (fun c6_2 => ?_) (fun c6_2 => ?_)
    · refine rch_run rfl (by decide) 2 (t' := (19, [some (vI t), some (vI u), some (vI k)], [vI 1], MW b I L)) (ps := []) rfl trivial ?_
      refine rch_ret rfl (rt := some (vI 1)) rfl (Or.inr rfl) mw_c ?_
      first | exact Or.inl ⟨by omega, rfl, rfl⟩ | exact Or.inr (⟨by omega, rfl, rfl⟩) | (exfalso; omega)
    · refine rch_run rfl (by decide) 2 (t' := (11, [some (vI t), some (vI u), some (vI k)], [vI k, vI u], MW b I L)) (ps := []) rfl trivial ?_
      refine rch_br rfl (cd := u ≤ k) (t1 := (18, [some (vI t), some (vI u), some (vI k)], [], MW b I L)) (t2 := (14, [some (vI t), some (vI u), some (vI k)], [], MW b I L)) rfl (fun c11_3 => ?_) (fun c11_3 => ?_)
      · refine rch_run rfl (by decide) 1 (t' := (19, [some (vI t), some (vI u), some (vI k)], [vI 0], MW b I L)) (ps := []) rfl trivial ?_
        refine rch_ret rfl (rt := some (vI 0)) rfl (Or.inl rfl) mw_c ?_
        first | exact Or.inl ⟨by omega, rfl, rfl⟩ | exact Or.inr (⟨by omega, rfl, rfl⟩) | (exfalso; omega)
      · refine rch_run rfl (by decide) 2 (t' := (19, [some (vI t), some (vI u), some (vI k)], [vI 1], MW b I L)) (ps := []) rfl trivial ?_
        refine rch_ret rfl (rt := some (vI 1)) rfl (Or.inr rfl) mw_c ?_
        first | exact Or.inl ⟨by omega, rfl, rfl⟩ | exact Or.inr (⟨by omega, rfl, rfl⟩) | (exfalso; omega)

theorem k_X12_isThere (l : Launch) (E : AX) (b : Bool) (I L : Nat → Nat → Int) (r : Int) (k : Int) (hn : I 74 4 ≤ 10) : Con l E 2 110 [vR 74, vI r, vI k] (MW b I L) 0 0 (fun rt w => (((0 ≤ r ∧ r < I 74 4 ∧ I 80 r.toNat = 0) ∧ I 79 r.toNat ≤ k) ∧ rt = some (vI 1) ∧ w = MW b I L) ∨ ((¬ ((0 ≤ r ∧ r < I 74 4 ∧ I 80 r.toNat = 0) ∧ I 79 r.toNat ≤ k)) ∧ rt = some (vI 0) ∧ w = MW b I L)) := by
  refine con_intro (by decide) (Nat.le_of_ble_eq_true rfl) ?_
  show Rch l E 2 110 _ _ _ _ (0, [some (vR 74), some (vI r), some (vI k)], [], MW b I L)
  refine rch_run rfl (by decide) 2 (t' := (2, [some (vR 74), some (vI r), some (vI k)], [vI r, vR 74], MW b I L)) (ps := []) rfl trivial ?_
  refine rch_call (h' := 1) (k' := 109) (as := [vR 74, vI r]) (t1 := (5, [some (vR 74), some (vI r), some (vI k)], [], MW b I L)) rfl rfl (k_X12_isRow l E b I L r (by show I 74 4 ≤ 10; omega)) (by decide) mw_le ?_
  rintro rt9 w9 (⟨k37, rfl, rfl⟩ | ⟨k37, rfl, rfl⟩) _ _
  · show Rch l E 2 110 _ _ _ _ (5, [some (vR 74), some (vI r), some (vI k)], [vI 1], MW b I L)
    have k37 : 0 ≤ r ∧ r < I 74 4 ∧ I 80 r.toNat = 0 := k37
    refine rch_br rfl (cd := (1 : Int) = 0) (t1 := (22, [some (vR 74), some (vI r), some (vI k)], [], MW b I L)) (t2 := (8, [some (vR 74), some (vI r), some (vI k)], [], MW b I L)) rfl (fun c9 => absurd c9 (by decide)) (fun _ => ?_)
    refine rch_run rfl (by decide) 5 (t' := (15, [some (vR 74), some (vI r), some (vI k)], [vI k, vI (I 79 r.toNat)], MW b I L)) (ps := [0 ≤ r ∧ r < ((10 : Nat) : Int)]) rfl (by simp only [all_, i32, i64]; first | omega | (simp; done) | (simp; omega)) ?_
    refine rch_br rfl (cd := k < I 79 r.toNat) (t1 := (22, [some (vR 74), some (vI r), some (vI k)], [], MW b I L)) (t2 := (18, [some (vR 74), some (vI r), some (vI k)], [], MW b I L)) rfl (fun c15_2 => ?_) (fun c15_2 => ?_)
    · refine rch_run rfl (by decide) 1 (t' := (23, [some (vR 74), some (vI r), some (vI k)], [vI 0], MW b I L)) (ps := []) rfl trivial ?_
      refine rch_ret rfl (rt := some (vI 0)) rfl (Or.inl rfl) mw_c ?_
      first | exact Or.inl ⟨by omega, rfl, rfl⟩ | exact Or.inr (⟨by omega, rfl, rfl⟩) | (exfalso; omega)
    · refine rch_run rfl (by decide) 2 (t' := (23, [some (vR 74), some (vI r), some (vI k)], [vI 1], MW b I L)) (ps := []) rfl trivial ?_
      refine rch_ret rfl (rt := some (vI 1)) rfl (Or.inr rfl) mw_c ?_
      first | exact Or.inl ⟨by omega, rfl, rfl⟩ | exact Or.inr (⟨by omega, rfl, rfl⟩) | (exfalso; omega)
  · show Rch l E 2 110 _ _ _ _ (5, [some (vR 74), some (vI r), some (vI k)], [vI 0], MW b I L)
    have k37 : ¬ (0 ≤ r ∧ r < I 74 4 ∧ I 80 r.toNat = 0) := k37
    refine rch_br rfl (cd := (0 : Int) = 0) (t1 := (22, [some (vR 74), some (vI r), some (vI k)], [], MW b I L)) (t2 := (8, [some (vR 74), some (vI r), some (vI k)], [], MW b I L)) rfl (fun _ => ?_) (fun c9 => absurd (by decide) c9)
    refine rch_run rfl (by decide) 1 (t' := (23, [some (vR 74), some (vI r), some (vI k)], [vI 0], MW b I L)) (ps := []) rfl trivial ?_
    refine rch_ret rfl (rt := some (vI 0)) rfl (Or.inl rfl) mw_c ?_
    first | exact Or.inl ⟨by omega, rfl, rfl⟩ | exact Or.inr (⟨by omega, rfl, rfl⟩) | (exfalso; omega)

theorem k_X5_isThere (l : Launch) (E : AX) (b : Bool) (I L : Nat → Nat → Int) (r : Int) : Con l E 1 36 [vR 44, vI r] (MW b I L) 0 0 (fun rt w => ((0 ≤ r ∧ r < 10 ∧ I 45 r.toNat ≠ 0) ∧ rt = some (vI 1) ∧ w = MW b I L) ∨ ((¬ (0 ≤ r ∧ r < 10 ∧ I 45 r.toNat ≠ 0)) ∧ rt = some (vI 0) ∧ w = MW b I L)) := by
  refine con_intro (by decide) (Nat.le_of_ble_eq_true rfl) ?_
  show Rch l E 1 36 _ _ _ _ (0, [some (vR 44), some (vI r)], [], MW b I L)
  refine rch_run rfl (by decide) 1 (t' := (1, [some (vR 44), some (vI r)], [vI r], MW b I L)) (ps := []) rfl trivial ?_
  refine rch_br rfl (cd := r < 0) (t1 := (23, [some (vR 44), some (vI r)], [], MW b I L)) (t2 := (4, [some (vR 44), some (vI r)], [], MW b I L)) rfl (fun c1_1 => ?_) (fun c1_1 => ?_)
  · refine rch_run rfl (by decide) 1 (t' := (24, [some (vR 44), some (vI r)], [vI 0], MW b I L)) (ps := []) rfl trivial ?_
    refine rch_ret rfl (rt := some (vI 0)) rfl (Or.inl rfl) mw_c ?_
    first | exact Or.inl ⟨by omega, rfl, rfl⟩ | exact Or.inr (⟨by omega, rfl, rfl⟩) | (exfalso; omega)
  · refine rch_run rfl (by decide) 2 (t' := (7, [some (vR 44), some (vI r)], [vI 10, vI r], MW b I L)) (ps := []) rfl trivial ?_
    refine rch_br rfl (cd := (10 : Int) ≤ r) (t1 := (23, [some (vR 44), some (vI r)], [], MW b I L)) (t2 := (10, [some (vR 44), some (vI r)], [], MW b I L)) rfl (fun c7_2 => ?_) (fun c7_2 => ?_)
    · refine rch_run rfl (by decide) 1 (t' := (24, [some (vR 44), some (vI r)], [vI 0], MW b I L)) (ps := []) rfl trivial ?_
      refine rch_ret rfl (rt := some (vI 0)) rfl (Or.inl rfl) mw_c ?_
      first | exact Or.inl ⟨by omega, rfl, rfl⟩ | exact Or.inr (⟨by omega, rfl, rfl⟩) | (exfalso; omega)
    · refine rch_run rfl (by decide) 4 (t' := (16, [some (vR 44), some (vI r)], [vI (I 45 r.toNat)], MW b I L)) (ps := [0 ≤ r ∧ r < ((10 : Nat) : Int)]) rfl (by simp only [all_, i32, i64]; first | omega | (simp; done) | (simp; omega)) ?_
      refine rch_br rfl (cd := I 45 r.toNat = 0) (t1 := (23, [some (vR 44), some (vI r)], [], MW b I L)) (t2 := (19, [some (vR 44), some (vI r)], [], MW b I L)) rfl (fun c16_3 => ?_) (fun c16_3 => ?_)
      · refine rch_run rfl (by decide) 1 (t' := (24, [some (vR 44), some (vI r)], [vI 0], MW b I L)) (ps := []) rfl trivial ?_
        refine rch_ret rfl (rt := some (vI 0)) rfl (Or.inl rfl) mw_c ?_
        first | exact Or.inl ⟨by omega, rfl, rfl⟩ | exact Or.inr (⟨by omega, rfl, rfl⟩) | (exfalso; omega)
      · refine rch_run rfl (by decide) 2 (t' := (24, [some (vR 44), some (vI r)], [vI 1], MW b I L)) (ps := []) rfl trivial ?_
        refine rch_ret rfl (rt := some (vI 1)) rfl (Or.inr rfl) mw_c ?_
        first | exact Or.inl ⟨by omega, rfl, rfl⟩ | exact Or.inr (⟨by omega, rfl, rfl⟩) | (exfalso; omega)

theorem k_X5_valueOf (l : Launch) (E : AX) (b : Bool) (I L : Nat → Nat → Int) (r : Int) (f : Int) : Con l E 2 37 [vR 44, vI r, vI f] (MW b I L) 0 0 (fun rt w => (((0 ≤ r ∧ r < 10 ∧ I 45 r.toNat ≠ 0) ∧ 0 ≤ f ∧ f ≤ 5) ∧ rt = some (vI (I 46 ((r * 6) + f).toNat)) ∧ w = MW b I L) ∨ ((¬ ((0 ≤ r ∧ r < 10 ∧ I 45 r.toNat ≠ 0) ∧ 0 ≤ f ∧ f ≤ 5)) ∧ rt = some (vI (-1)) ∧ w = MW b I L)) := by
  refine con_intro (by decide) (Nat.le_of_ble_eq_true rfl) ?_
  show Rch l E 2 37 _ _ _ _ (0, [some (vR 44), some (vI r), some (vI f)], [], MW b I L)
  refine rch_run rfl (by decide) 2 (t' := (2, [some (vR 44), some (vI r), some (vI f)], [vI r, vR 44], MW b I L)) (ps := []) rfl trivial ?_
  refine rch_call (h' := 1) (k' := 36) (as := [vR 44, vI r]) (t1 := (5, [some (vR 44), some (vI r), some (vI f)], [], MW b I L)) rfl rfl (k_X5_isThere l E b I L r ) (by decide) mw_le ?_
  rintro rt9 w9 (⟨k38, rfl, rfl⟩ | ⟨k38, rfl, rfl⟩) _ _
  · show Rch l E 2 37 _ _ _ _ (5, [some (vR 44), some (vI r), some (vI f)], [vI 1], MW b I L)
    have k38 : 0 ≤ r ∧ r < 10 ∧ I 45 r.toNat ≠ 0 := k38
    refine rch_br rfl (cd := (1 : Int) = 0) (t1 := (29, [some (vR 44), some (vI r), some (vI f)], [], MW b I L)) (t2 := (8, [some (vR 44), some (vI r), some (vI f)], [], MW b I L)) rfl (fun c9 => absurd c9 (by decide)) (fun _ => ?_)
    refine rch_run rfl (by decide) 1 (t' := (9, [some (vR 44), some (vI r), some (vI f)], [vI f], MW b I L)) (ps := []) rfl trivial ?_
    refine rch_call (h' := 1) (k' := 91) (as := [vI f]) (t1 := (12, [some (vR 44), some (vI r), some (vI f)], [], MW b I L)) rfl rfl (k_X11_isField l E b I L f ) (by decide) mw_le ?_
    rintro rt9 w9 (⟨k39, rfl, rfl⟩ | ⟨k39, rfl, rfl⟩) _ _
    · show Rch l E 2 37 _ _ _ _ (12, [some (vR 44), some (vI r), some (vI f)], [vI 1], MW b I L)
      have k39 : 0 ≤ f ∧ f ≤ 5 := k39
      refine rch_br rfl (cd := (1 : Int) = 0) (t1 := (29, [some (vR 44), some (vI r), some (vI f)], [], MW b I L)) (t2 := (15, [some (vR 44), some (vI r), some (vI f)], [], MW b I L)) rfl (fun c9 => absurd c9 (by decide)) (fun _ => ?_)
      refine rch_run rfl (by decide) 9 (t' := (30, [some (vR 44), some (vI r), some (vI f)], [vI (I 46 ((r * 6) + f).toNat)], MW b I L)) (ps := [i32 (r * 6), i32 ((r * 6) + f), 0 ≤ (r * 6) + f ∧ (r * 6) + f < ((60 : Nat) : Int)]) rfl (by simp only [all_, i32, i64]; first | omega | (simp; done) | (simp; omega)) ?_
      refine rch_ret rfl (rt := some (vI (I 46 ((r * 6) + f).toNat))) rfl trivial mw_c ?_
      first | exact Or.inl ⟨by omega, rfl, rfl⟩ | exact Or.inr (⟨by omega, rfl, rfl⟩) | (exfalso; omega)
    · show Rch l E 2 37 _ _ _ _ (12, [some (vR 44), some (vI r), some (vI f)], [vI 0], MW b I L)
      have k39 : ¬ (0 ≤ f ∧ f ≤ 5) := k39
      refine rch_br rfl (cd := (0 : Int) = 0) (t1 := (29, [some (vR 44), some (vI r), some (vI f)], [], MW b I L)) (t2 := (15, [some (vR 44), some (vI r), some (vI f)], [], MW b I L)) rfl (fun _ => ?_) (fun c9 => absurd (by decide) c9)
      refine rch_run rfl (by decide) 1 (t' := (30, [some (vR 44), some (vI r), some (vI f)], [vI (-1)], MW b I L)) (ps := []) rfl trivial ?_
      refine rch_ret rfl (rt := some (vI (-1))) rfl trivial mw_c ?_
      first | exact Or.inl ⟨by omega, rfl, rfl⟩ | exact Or.inr (⟨by omega, rfl, rfl⟩) | (exfalso; omega)
  · show Rch l E 2 37 _ _ _ _ (5, [some (vR 44), some (vI r), some (vI f)], [vI 0], MW b I L)
    have k38 : ¬ (0 ≤ r ∧ r < 10 ∧ I 45 r.toNat ≠ 0) := k38
    refine rch_br rfl (cd := (0 : Int) = 0) (t1 := (29, [some (vR 44), some (vI r), some (vI f)], [], MW b I L)) (t2 := (8, [some (vR 44), some (vI r), some (vI f)], [], MW b I L)) rfl (fun _ => ?_) (fun c9 => absurd (by decide) c9)
    refine rch_run rfl (by decide) 1 (t' := (30, [some (vR 44), some (vI r), some (vI f)], [vI (-1)], MW b I L)) (ps := []) rfl trivial ?_
    refine rch_ret rfl (rt := some (vI (-1))) rfl trivial mw_c ?_
    first | exact Or.inl ⟨by omega, rfl, rfl⟩ | exact Or.inr (⟨by omega, rfl, rfl⟩) | (exfalso; omega)

theorem k_X3_personOf (l : Launch) (E : AX) (b : Bool) (I L : Nat → Nat → Int) (r : Int) : Con l E 1 20 [vR 49, vI r] (MW b I L) 0 0 (fun rt w => ((0 ≤ r ∧ r < 10) ∧ rt = some (vI (I 50 r.toNat)) ∧ w = MW b I L) ∨ ((¬ (0 ≤ r ∧ r < 10)) ∧ rt = some (vI (-1)) ∧ w = MW b I L)) := by
  refine con_intro (by decide) (Nat.le_of_ble_eq_true rfl) ?_
  show Rch l E 1 20 _ _ _ _ (0, [some (vR 49), some (vI r)], [], MW b I L)
  refine rch_run rfl (by decide) 1 (t' := (1, [some (vR 49), some (vI r)], [vI r], MW b I L)) (ps := []) rfl trivial ?_
  refine rch_br rfl (cd := r < 0) (t1 := (19, [some (vR 49), some (vI r)], [], MW b I L)) (t2 := (4, [some (vR 49), some (vI r)], [], MW b I L)) rfl (fun c1_1 => ?_) (fun c1_1 => ?_)
  · refine rch_run rfl (by decide) 1 (t' := (20, [some (vR 49), some (vI r)], [vI (-1)], MW b I L)) (ps := []) rfl trivial ?_
    refine rch_ret rfl (rt := some (vI (-1))) rfl trivial mw_c ?_
    first | exact Or.inl ⟨by omega, rfl, rfl⟩ | exact Or.inr (⟨by omega, rfl, rfl⟩) | (exfalso; omega)
  · refine rch_run rfl (by decide) 2 (t' := (7, [some (vR 49), some (vI r)], [vI 10, vI r], MW b I L)) (ps := []) rfl trivial ?_
    refine rch_br rfl (cd := (10 : Int) ≤ r) (t1 := (19, [some (vR 49), some (vI r)], [], MW b I L)) (t2 := (10, [some (vR 49), some (vI r)], [], MW b I L)) rfl (fun c7_2 => ?_) (fun c7_2 => ?_)
    · refine rch_run rfl (by decide) 1 (t' := (20, [some (vR 49), some (vI r)], [vI (-1)], MW b I L)) (ps := []) rfl trivial ?_
      refine rch_ret rfl (rt := some (vI (-1))) rfl trivial mw_c ?_
      first | exact Or.inl ⟨by omega, rfl, rfl⟩ | exact Or.inr (⟨by omega, rfl, rfl⟩) | (exfalso; omega)
    · refine rch_run rfl (by decide) 5 (t' := (20, [some (vR 49), some (vI r)], [vI (I 50 r.toNat)], MW b I L)) (ps := [0 ≤ r ∧ r < ((10 : Nat) : Int)]) rfl (by simp only [all_, i32, i64]; first | omega | (simp; done) | (simp; omega)) ?_
      refine rch_ret rfl (rt := some (vI (I 50 r.toNat))) rfl trivial mw_c ?_
      first | exact Or.inl ⟨by omega, rfl, rfl⟩ | exact Or.inr (⟨by omega, rfl, rfl⟩) | (exfalso; omega)

theorem k_refused_add (l : Launch) (E : AX) (b : Bool) (I L : Nat → Nat → Int) (r : Int) (f : Int) (x : Int) (hn : 0 ≤ I 66 0 ∧ I 66 0 ≤ 60) : Con l E 1 59 [vR 66, vI r, vI f, vI x] (MW b I L) 0 0 (fun rt w => ((I 66 0 < 60) ∧ rt = none ∧ w = MW b (upI (upI (upI (upI I 67 (I 66 0).toNat r) 68 (I 66 0).toNat f) 69 (I 66 0).toNat x) 66 0 ((I 66 0) + 1)) L) ∨ ((¬ (I 66 0 < 60)) ∧ rt = none ∧ w = MW b I L)) := by
  refine con_intro (by decide) (Nat.le_of_ble_eq_true rfl) ?_
  show Rch l E 1 59 _ _ _ _ (0, [some (vR 66), some (vI r), some (vI f), some (vI x)], [], MW b I L)
  refine rch_run rfl (by decide) 5 (t' := (9, [some (vR 66), some (vI r), some (vI f), some (vI x)], [vI ((60 : Nat) : Int), vI (I 66 0)], MW b I L)) (ps := []) rfl trivial ?_
  refine rch_br rfl (cd := I 66 0 < ((60 : Nat) : Int)) (t1 := (13, [some (vR 66), some (vI r), some (vI f), some (vI x)], [], MW b I L)) (t2 := (12, [some (vR 66), some (vI r), some (vI f), some (vI x)], [], MW b I L)) rfl (fun c9_1 => ?_) (fun c9_1 => ?_)
  · refine rch_run rfl (by decide) 24 (t' := (53, [some (vR 66), some (vI r), some (vI f), some (vI x)], [], MW b (upI (upI (upI (upI I 67 (I 66 0).toNat r) 68 (I 66 0).toNat f) 69 (I 66 0).toNat x) 66 0 ((I 66 0) + 1)) L)) (ps := [0 ≤ I 66 0 ∧ I 66 0 < ((60 : Nat) : Int), 0 ≤ I 66 0 ∧ I 66 0 < ((60 : Nat) : Int), 0 ≤ I 66 0 ∧ I 66 0 < ((60 : Nat) : Int), i32 ((I 66 0) + 1)]) rfl (by simp only [all_, i32, i64]; first | omega | (simp; done) | (simp; omega)) ?_
    refine rch_ret rfl (rt := none) rfl trivial mw_c ?_
    first | exact Or.inl ⟨by omega, rfl, rfl⟩ | exact Or.inr (⟨by omega, rfl, rfl⟩) | (exfalso; omega)
  · refine rch_ret rfl (rt := none) rfl trivial mw_c ?_
    first | exact Or.inl ⟨by omega, rfl, rfl⟩ | exact Or.inr (⟨by omega, rfl, rfl⟩) | (exfalso; omega)

theorem k_wishes_add (l : Launch) (E : AX) (b : Bool) (I L : Nat → Nat → Int) (r : Int) (f : Int) (x : Int) (hn : 0 ≤ I 70 0 ∧ I 70 0 ≤ 60) : Con l E 1 59 [vR 70, vI r, vI f, vI x] (MW b I L) 0 0 (fun rt w => ((I 70 0 < 60) ∧ rt = none ∧ w = MW b (upI (upI (upI (upI I 71 (I 70 0).toNat r) 72 (I 70 0).toNat f) 73 (I 70 0).toNat x) 70 0 ((I 70 0) + 1)) L) ∨ ((¬ (I 70 0 < 60)) ∧ rt = none ∧ w = MW b I L)) := by
  refine con_intro (by decide) (Nat.le_of_ble_eq_true rfl) ?_
  show Rch l E 1 59 _ _ _ _ (0, [some (vR 70), some (vI r), some (vI f), some (vI x)], [], MW b I L)
  refine rch_run rfl (by decide) 5 (t' := (9, [some (vR 70), some (vI r), some (vI f), some (vI x)], [vI ((60 : Nat) : Int), vI (I 70 0)], MW b I L)) (ps := []) rfl trivial ?_
  refine rch_br rfl (cd := I 70 0 < ((60 : Nat) : Int)) (t1 := (13, [some (vR 70), some (vI r), some (vI f), some (vI x)], [], MW b I L)) (t2 := (12, [some (vR 70), some (vI r), some (vI f), some (vI x)], [], MW b I L)) rfl (fun c9_1 => ?_) (fun c9_1 => ?_)
  · refine rch_run rfl (by decide) 24 (t' := (53, [some (vR 70), some (vI r), some (vI f), some (vI x)], [], MW b (upI (upI (upI (upI I 71 (I 70 0).toNat r) 72 (I 70 0).toNat f) 73 (I 70 0).toNat x) 70 0 ((I 70 0) + 1)) L)) (ps := [0 ≤ I 70 0 ∧ I 70 0 < ((60 : Nat) : Int), 0 ≤ I 70 0 ∧ I 70 0 < ((60 : Nat) : Int), 0 ≤ I 70 0 ∧ I 70 0 < ((60 : Nat) : Int), i32 ((I 70 0) + 1)]) rfl (by simp only [all_, i32, i64]; first | omega | (simp; done) | (simp; omega)) ?_
    refine rch_ret rfl (rt := none) rfl trivial mw_c ?_
    first | exact Or.inl ⟨by omega, rfl, rfl⟩ | exact Or.inr (⟨by omega, rfl, rfl⟩) | (exfalso; omega)
  · refine rch_ret rfl (rt := none) rfl trivial mw_c ?_
    first | exact Or.inl ⟨by omega, rfl, rfl⟩ | exact Or.inr (⟨by omega, rfl, rfl⟩) | (exfalso; omega)
end
section
theorem k_X12_about (l : Launch) (E : AX) (b : Bool) (I L : Nat → Nat → Int) (x : Int) : Con l E 1 165 [vR 74, vI x] (MW b I L) 0 0 (fun rt w => ((x = 0) ∧ rt = some (vI (I 74 0)) ∧ w = MW b I L) ∨ ((x = 1) ∧ rt = some (vI (I 74 4)) ∧ w = MW b I L) ∨ ((x = 2) ∧ rt = some (vI (I 74 5)) ∧ w = MW b I L) ∨ ((x = 3) ∧ rt = some (vI (I 74 43)) ∧ w = MW b I L) ∨ ((x = 4) ∧ rt = some (vI (I 74 44)) ∧ w = MW b I L) ∨ ((x = 5) ∧ rt = some (vI (I 74 20)) ∧ w = MW b I L) ∨ ((x = 6) ∧ rt = some (vI (I 74 75)) ∧ w = MW b I L) ∨ ((x = 7) ∧ rt = some (vI (I 74 30)) ∧ w = MW b I L) ∨ ((x < 0 ∨ 7 < x) ∧ rt = some (vI (-1)) ∧ w = MW b I L)) := by
  refine con_intro (by decide) (Nat.le_of_ble_eq_true rfl) ?_
  show Rch l E 1 165 _ _ _ _ (0, [some (vR 74), some (vI x)], [], MW b I L)
  refine rch_run rfl (by decide) 1 (t' := (1, [some (vR 74), some (vI x)], [vI x], MW b I L)) (ps := []) rfl trivial ?_
  refine rch_tsw (e := (1, .tableswitch 87 0 7 #[47, 52, 57, 62, 67, 72, 77, 82], 47, 0, 0, 0)) (d := 87) (lo := 0) (hi := 7) (offs := #[47, 52, 57, 62, 67, 72, 77, 82]) rfl rfl rfl (by decide) (by decide) (fun c1_1 => ?_) (fun n9 off9 c1_1 ho9 => ?_)
  · show Rch l E 1 165 _ _ _ _ (88, [some (vR 74), some (vI x)], [], MW b I L)
    refine rch_run rfl (by decide) 1 (t' := (89, [some (vR 74), some (vI x)], [vI (-1)], MW b I L)) (ps := []) rfl trivial ?_
    refine rch_ret rfl (rt := some (vI (-1))) rfl trivial mw_c ?_
    first | exact Or.inl ⟨by omega, rfl, rfl⟩ | exact Or.inr (Or.inl ⟨by omega, rfl, rfl⟩) | exact Or.inr (Or.inr (Or.inl ⟨by omega, rfl, rfl⟩)) | exact Or.inr (Or.inr (Or.inr (Or.inl ⟨by omega, rfl, rfl⟩))) | exact Or.inr (Or.inr (Or.inr (Or.inr (Or.inl ⟨by omega, rfl, rfl⟩)))) | exact Or.inr (Or.inr (Or.inr (Or.inr (Or.inr (Or.inl ⟨by omega, rfl, rfl⟩))))) | exact Or.inr (Or.inr (Or.inr (Or.inr (Or.inr (Or.inr (Or.inl ⟨by omega, rfl, rfl⟩)))))) | exact Or.inr (Or.inr (Or.inr (Or.inr (Or.inr (Or.inr (Or.inr (Or.inl ⟨by omega, rfl, rfl⟩))))))) | exact Or.inr (Or.inr (Or.inr (Or.inr (Or.inr (Or.inr (Or.inr (Or.inr (⟨by omega, rfl, rfl⟩)))))))) | (exfalso; omega)
  · match n9, c1_1, ho9 with
    | 0, c1_1, ho9 =>
      have c1_1 : x = 0 := by simpa using c1_1
      have ho9 : some (47 : Int) = some off9 := ho9
      cases ho9
      refine ⟨by decide, ?_⟩
      show Rch l E 1 165 _ _ _ _ (48, [some (vR 74), some (vI x)], [], MW b I L)
      refine rch_run rfl (by decide) 2 (t' := (52, [some (vR 74), some (vI x)], [vI (I 74 0)], MW b I L)) (ps := []) rfl trivial ?_
      refine rch_ret rfl (rt := some (vI (I 74 0))) rfl trivial mw_c ?_
      first | exact Or.inl ⟨by omega, rfl, rfl⟩ | exact Or.inr (Or.inl ⟨by omega, rfl, rfl⟩) | exact Or.inr (Or.inr (Or.inl ⟨by omega, rfl, rfl⟩)) | exact Or.inr (Or.inr (Or.inr (Or.inl ⟨by omega, rfl, rfl⟩))) | exact Or.inr (Or.inr (Or.inr (Or.inr (Or.inl ⟨by omega, rfl, rfl⟩)))) | exact Or.inr (Or.inr (Or.inr (Or.inr (Or.inr (Or.inl ⟨by omega, rfl, rfl⟩))))) | exact Or.inr (Or.inr (Or.inr (Or.inr (Or.inr (Or.inr (Or.inl ⟨by omega, rfl, rfl⟩)))))) | exact Or.inr (Or.inr (Or.inr (Or.inr (Or.inr (Or.inr (Or.inr (Or.inl ⟨by omega, rfl, rfl⟩))))))) | exact Or.inr (Or.inr (Or.inr (Or.inr (Or.inr (Or.inr (Or.inr (Or.inr (⟨by omega, rfl, rfl⟩)))))))) | (exfalso; omega)
    | 1, c1_1, ho9 =>
      have c1_1 : x = 1 := by simpa using c1_1
      have ho9 : some (52 : Int) = some off9 := ho9
      cases ho9
      refine ⟨by decide, ?_⟩
      show Rch l E 1 165 _ _ _ _ (53, [some (vR 74), some (vI x)], [], MW b I L)
      refine rch_run rfl (by decide) 2 (t' := (57, [some (vR 74), some (vI x)], [vI (I 74 4)], MW b I L)) (ps := []) rfl trivial ?_
      refine rch_ret rfl (rt := some (vI (I 74 4))) rfl trivial mw_c ?_
      first | exact Or.inl ⟨by omega, rfl, rfl⟩ | exact Or.inr (Or.inl ⟨by omega, rfl, rfl⟩) | exact Or.inr (Or.inr (Or.inl ⟨by omega, rfl, rfl⟩)) | exact Or.inr (Or.inr (Or.inr (Or.inl ⟨by omega, rfl, rfl⟩))) | exact Or.inr (Or.inr (Or.inr (Or.inr (Or.inl ⟨by omega, rfl, rfl⟩)))) | exact Or.inr (Or.inr (Or.inr (Or.inr (Or.inr (Or.inl ⟨by omega, rfl, rfl⟩))))) | exact Or.inr (Or.inr (Or.inr (Or.inr (Or.inr (Or.inr (Or.inl ⟨by omega, rfl, rfl⟩)))))) | exact Or.inr (Or.inr (Or.inr (Or.inr (Or.inr (Or.inr (Or.inr (Or.inl ⟨by omega, rfl, rfl⟩))))))) | exact Or.inr (Or.inr (Or.inr (Or.inr (Or.inr (Or.inr (Or.inr (Or.inr (⟨by omega, rfl, rfl⟩)))))))) | (exfalso; omega)
    | 2, c1_1, ho9 =>
      have c1_1 : x = 2 := by simpa using c1_1
      have ho9 : some (57 : Int) = some off9 := ho9
      cases ho9
      refine ⟨by decide, ?_⟩
      show Rch l E 1 165 _ _ _ _ (58, [some (vR 74), some (vI x)], [], MW b I L)
      refine rch_run rfl (by decide) 2 (t' := (62, [some (vR 74), some (vI x)], [vI (I 74 5)], MW b I L)) (ps := []) rfl trivial ?_
      refine rch_ret rfl (rt := some (vI (I 74 5))) rfl trivial mw_c ?_
      first | exact Or.inl ⟨by omega, rfl, rfl⟩ | exact Or.inr (Or.inl ⟨by omega, rfl, rfl⟩) | exact Or.inr (Or.inr (Or.inl ⟨by omega, rfl, rfl⟩)) | exact Or.inr (Or.inr (Or.inr (Or.inl ⟨by omega, rfl, rfl⟩))) | exact Or.inr (Or.inr (Or.inr (Or.inr (Or.inl ⟨by omega, rfl, rfl⟩)))) | exact Or.inr (Or.inr (Or.inr (Or.inr (Or.inr (Or.inl ⟨by omega, rfl, rfl⟩))))) | exact Or.inr (Or.inr (Or.inr (Or.inr (Or.inr (Or.inr (Or.inl ⟨by omega, rfl, rfl⟩)))))) | exact Or.inr (Or.inr (Or.inr (Or.inr (Or.inr (Or.inr (Or.inr (Or.inl ⟨by omega, rfl, rfl⟩))))))) | exact Or.inr (Or.inr (Or.inr (Or.inr (Or.inr (Or.inr (Or.inr (Or.inr (⟨by omega, rfl, rfl⟩)))))))) | (exfalso; omega)
    | 3, c1_1, ho9 =>
      have c1_1 : x = 3 := by simpa using c1_1
      have ho9 : some (62 : Int) = some off9 := ho9
      cases ho9
      refine ⟨by decide, ?_⟩
      show Rch l E 1 165 _ _ _ _ (63, [some (vR 74), some (vI x)], [], MW b I L)
      refine rch_run rfl (by decide) 2 (t' := (67, [some (vR 74), some (vI x)], [vI (I 74 43)], MW b I L)) (ps := []) rfl trivial ?_
      refine rch_ret rfl (rt := some (vI (I 74 43))) rfl trivial mw_c ?_
      first | exact Or.inl ⟨by omega, rfl, rfl⟩ | exact Or.inr (Or.inl ⟨by omega, rfl, rfl⟩) | exact Or.inr (Or.inr (Or.inl ⟨by omega, rfl, rfl⟩)) | exact Or.inr (Or.inr (Or.inr (Or.inl ⟨by omega, rfl, rfl⟩))) | exact Or.inr (Or.inr (Or.inr (Or.inr (Or.inl ⟨by omega, rfl, rfl⟩)))) | exact Or.inr (Or.inr (Or.inr (Or.inr (Or.inr (Or.inl ⟨by omega, rfl, rfl⟩))))) | exact Or.inr (Or.inr (Or.inr (Or.inr (Or.inr (Or.inr (Or.inl ⟨by omega, rfl, rfl⟩)))))) | exact Or.inr (Or.inr (Or.inr (Or.inr (Or.inr (Or.inr (Or.inr (Or.inl ⟨by omega, rfl, rfl⟩))))))) | exact Or.inr (Or.inr (Or.inr (Or.inr (Or.inr (Or.inr (Or.inr (Or.inr (⟨by omega, rfl, rfl⟩)))))))) | (exfalso; omega)
    | 4, c1_1, ho9 =>
      have c1_1 : x = 4 := by simpa using c1_1
      have ho9 : some (67 : Int) = some off9 := ho9
      cases ho9
      refine ⟨by decide, ?_⟩
      show Rch l E 1 165 _ _ _ _ (68, [some (vR 74), some (vI x)], [], MW b I L)
      refine rch_run rfl (by decide) 2 (t' := (72, [some (vR 74), some (vI x)], [vI (I 74 44)], MW b I L)) (ps := []) rfl trivial ?_
      refine rch_ret rfl (rt := some (vI (I 74 44))) rfl trivial mw_c ?_
      first | exact Or.inl ⟨by omega, rfl, rfl⟩ | exact Or.inr (Or.inl ⟨by omega, rfl, rfl⟩) | exact Or.inr (Or.inr (Or.inl ⟨by omega, rfl, rfl⟩)) | exact Or.inr (Or.inr (Or.inr (Or.inl ⟨by omega, rfl, rfl⟩))) | exact Or.inr (Or.inr (Or.inr (Or.inr (Or.inl ⟨by omega, rfl, rfl⟩)))) | exact Or.inr (Or.inr (Or.inr (Or.inr (Or.inr (Or.inl ⟨by omega, rfl, rfl⟩))))) | exact Or.inr (Or.inr (Or.inr (Or.inr (Or.inr (Or.inr (Or.inl ⟨by omega, rfl, rfl⟩)))))) | exact Or.inr (Or.inr (Or.inr (Or.inr (Or.inr (Or.inr (Or.inr (Or.inl ⟨by omega, rfl, rfl⟩))))))) | exact Or.inr (Or.inr (Or.inr (Or.inr (Or.inr (Or.inr (Or.inr (Or.inr (⟨by omega, rfl, rfl⟩)))))))) | (exfalso; omega)
    | 5, c1_1, ho9 =>
      have c1_1 : x = 5 := by simpa using c1_1
      have ho9 : some (72 : Int) = some off9 := ho9
      cases ho9
      refine ⟨by decide, ?_⟩
      show Rch l E 1 165 _ _ _ _ (73, [some (vR 74), some (vI x)], [], MW b I L)
      refine rch_run rfl (by decide) 2 (t' := (77, [some (vR 74), some (vI x)], [vI (I 74 20)], MW b I L)) (ps := []) rfl trivial ?_
      refine rch_ret rfl (rt := some (vI (I 74 20))) rfl trivial mw_c ?_
      first | exact Or.inl ⟨by omega, rfl, rfl⟩ | exact Or.inr (Or.inl ⟨by omega, rfl, rfl⟩) | exact Or.inr (Or.inr (Or.inl ⟨by omega, rfl, rfl⟩)) | exact Or.inr (Or.inr (Or.inr (Or.inl ⟨by omega, rfl, rfl⟩))) | exact Or.inr (Or.inr (Or.inr (Or.inr (Or.inl ⟨by omega, rfl, rfl⟩)))) | exact Or.inr (Or.inr (Or.inr (Or.inr (Or.inr (Or.inl ⟨by omega, rfl, rfl⟩))))) | exact Or.inr (Or.inr (Or.inr (Or.inr (Or.inr (Or.inr (Or.inl ⟨by omega, rfl, rfl⟩)))))) | exact Or.inr (Or.inr (Or.inr (Or.inr (Or.inr (Or.inr (Or.inr (Or.inl ⟨by omega, rfl, rfl⟩))))))) | exact Or.inr (Or.inr (Or.inr (Or.inr (Or.inr (Or.inr (Or.inr (Or.inr (⟨by omega, rfl, rfl⟩)))))))) | (exfalso; omega)
    | 6, c1_1, ho9 =>
      have c1_1 : x = 6 := by simpa using c1_1
      have ho9 : some (77 : Int) = some off9 := ho9
      cases ho9
      refine ⟨by decide, ?_⟩
      show Rch l E 1 165 _ _ _ _ (78, [some (vR 74), some (vI x)], [], MW b I L)
      refine rch_run rfl (by decide) 2 (t' := (82, [some (vR 74), some (vI x)], [vI (I 74 75)], MW b I L)) (ps := []) rfl trivial ?_
      refine rch_ret rfl (rt := some (vI (I 74 75))) rfl trivial mw_c ?_
      first | exact Or.inl ⟨by omega, rfl, rfl⟩ | exact Or.inr (Or.inl ⟨by omega, rfl, rfl⟩) | exact Or.inr (Or.inr (Or.inl ⟨by omega, rfl, rfl⟩)) | exact Or.inr (Or.inr (Or.inr (Or.inl ⟨by omega, rfl, rfl⟩))) | exact Or.inr (Or.inr (Or.inr (Or.inr (Or.inl ⟨by omega, rfl, rfl⟩)))) | exact Or.inr (Or.inr (Or.inr (Or.inr (Or.inr (Or.inl ⟨by omega, rfl, rfl⟩))))) | exact Or.inr (Or.inr (Or.inr (Or.inr (Or.inr (Or.inr (Or.inl ⟨by omega, rfl, rfl⟩)))))) | exact Or.inr (Or.inr (Or.inr (Or.inr (Or.inr (Or.inr (Or.inr (Or.inl ⟨by omega, rfl, rfl⟩))))))) | exact Or.inr (Or.inr (Or.inr (Or.inr (Or.inr (Or.inr (Or.inr (Or.inr (⟨by omega, rfl, rfl⟩)))))))) | (exfalso; omega)
    | 7, c1_1, ho9 =>
      have c1_1 : x = 7 := by simpa using c1_1
      have ho9 : some (82 : Int) = some off9 := ho9
      cases ho9
      refine ⟨by decide, ?_⟩
      show Rch l E 1 165 _ _ _ _ (83, [some (vR 74), some (vI x)], [], MW b I L)
      refine rch_run rfl (by decide) 2 (t' := (87, [some (vR 74), some (vI x)], [vI (I 74 30)], MW b I L)) (ps := []) rfl trivial ?_
      refine rch_ret rfl (rt := some (vI (I 74 30))) rfl trivial mw_c ?_
      first | exact Or.inl ⟨by omega, rfl, rfl⟩ | exact Or.inr (Or.inl ⟨by omega, rfl, rfl⟩) | exact Or.inr (Or.inr (Or.inl ⟨by omega, rfl, rfl⟩)) | exact Or.inr (Or.inr (Or.inr (Or.inl ⟨by omega, rfl, rfl⟩))) | exact Or.inr (Or.inr (Or.inr (Or.inr (Or.inl ⟨by omega, rfl, rfl⟩)))) | exact Or.inr (Or.inr (Or.inr (Or.inr (Or.inr (Or.inl ⟨by omega, rfl, rfl⟩))))) | exact Or.inr (Or.inr (Or.inr (Or.inr (Or.inr (Or.inr (Or.inl ⟨by omega, rfl, rfl⟩)))))) | exact Or.inr (Or.inr (Or.inr (Or.inr (Or.inr (Or.inr (Or.inr (Or.inl ⟨by omega, rfl, rfl⟩))))))) | exact Or.inr (Or.inr (Or.inr (Or.inr (Or.inr (Or.inr (Or.inr (Or.inr (⟨by omega, rfl, rfl⟩)))))))) | (exfalso; omega)
    | n9 + 8, _, ho9 => exact absurd ho9 (by simp)

theorem k_X11_about_f (l : Launch) (E : AX) (b : Bool) (I L : Nat → Nat → Int) (x : Int) : Con l E 1 89 [vR 0, vI x] (MW false I L) 0 0 (fun rt w => ((x = 0) ∧ rt = some (vI (I 0 0)) ∧ w = MW false I L) ∨ ((x = 1) ∧ rt = some (vI (I 17 0)) ∧ w = MW false I L) ∨ ((x = 2) ∧ rt = some (vI (I 21 0)) ∧ w = MW false I L) ∨ ((x = 3) ∧ rt = some (vI (I 32 0)) ∧ w = MW false I L) ∨ ((x = 4) ∧ rt = some (vI (I 38 0)) ∧ w = MW false I L) ∨ ((x = 5) ∧ rt = some (vI (I 1 0)) ∧ w = MW false I L) ∨ ((x = 6) ∧ rt = some (vI (I 66 0)) ∧ w = MW false I L) ∨ ((x = 7) ∧ rt = some (vI (I 28 0)) ∧ w = MW false I L) ∨ ((x < 0 ∨ 7 < x) ∧ rt = some (vI (-1)) ∧ w = MW false I L)) := by
  refine con_intro (by decide) (Nat.le_of_ble_eq_true rfl) ?_
  show Rch l E 1 89 _ _ _ _ (0, [some (vR 0), some (vI x)], [], MW false I L)
  refine rch_run rfl (by decide) 1 (t' := (1, [some (vR 0), some (vI x)], [vI x], MW false I L)) (ps := []) rfl trivial ?_
  refine rch_tsw (e := (1, .tableswitch 108 0 7 #[47, 52, 60, 68, 76, 84, 92, 100], 47, 0, 0, 0)) (d := 108) (lo := 0) (hi := 7) (offs := #[47, 52, 60, 68, 76, 84, 92, 100]) rfl rfl rfl (by decide) (by decide) (fun c1_1 => ?_) (fun n9 off9 c1_1 ho9 => ?_)
  · show Rch l E 1 89 _ _ _ _ (109, [some (vR 0), some (vI x)], [], MW false I L)
    refine rch_run rfl (by decide) 1 (t' := (110, [some (vR 0), some (vI x)], [vI (-1)], MW false I L)) (ps := []) rfl trivial ?_
    refine rch_ret rfl (rt := some (vI (-1))) rfl trivial mw_c ?_
    first | exact Or.inl ⟨by omega, rfl, rfl⟩ | exact Or.inr (Or.inl ⟨by omega, rfl, rfl⟩) | exact Or.inr (Or.inr (Or.inl ⟨by omega, rfl, rfl⟩)) | exact Or.inr (Or.inr (Or.inr (Or.inl ⟨by omega, rfl, rfl⟩))) | exact Or.inr (Or.inr (Or.inr (Or.inr (Or.inl ⟨by omega, rfl, rfl⟩)))) | exact Or.inr (Or.inr (Or.inr (Or.inr (Or.inr (Or.inl ⟨by omega, rfl, rfl⟩))))) | exact Or.inr (Or.inr (Or.inr (Or.inr (Or.inr (Or.inr (Or.inl ⟨by omega, rfl, rfl⟩)))))) | exact Or.inr (Or.inr (Or.inr (Or.inr (Or.inr (Or.inr (Or.inr (Or.inl ⟨by omega, rfl, rfl⟩))))))) | exact Or.inr (Or.inr (Or.inr (Or.inr (Or.inr (Or.inr (Or.inr (Or.inr (⟨by omega, rfl, rfl⟩)))))))) | (exfalso; omega)
  · match n9, c1_1, ho9 with
    | 0, c1_1, ho9 =>
      have c1_1 : x = 0 := by simpa using c1_1
      have ho9 : some (47 : Int) = some off9 := ho9
      cases ho9
      refine ⟨by decide, ?_⟩
      show Rch l E 1 89 _ _ _ _ (48, [some (vR 0), some (vI x)], [], MW false I L)
      refine rch_run rfl (by decide) 2 (t' := (52, [some (vR 0), some (vI x)], [vI (I 0 0)], MW false I L)) (ps := []) rfl trivial ?_
      refine rch_ret rfl (rt := some (vI (I 0 0))) rfl trivial mw_c ?_
      first | exact Or.inl ⟨by omega, rfl, rfl⟩ | exact Or.inr (Or.inl ⟨by omega, rfl, rfl⟩) | exact Or.inr (Or.inr (Or.inl ⟨by omega, rfl, rfl⟩)) | exact Or.inr (Or.inr (Or.inr (Or.inl ⟨by omega, rfl, rfl⟩))) | exact Or.inr (Or.inr (Or.inr (Or.inr (Or.inl ⟨by omega, rfl, rfl⟩)))) | exact Or.inr (Or.inr (Or.inr (Or.inr (Or.inr (Or.inl ⟨by omega, rfl, rfl⟩))))) | exact Or.inr (Or.inr (Or.inr (Or.inr (Or.inr (Or.inr (Or.inl ⟨by omega, rfl, rfl⟩)))))) | exact Or.inr (Or.inr (Or.inr (Or.inr (Or.inr (Or.inr (Or.inr (Or.inl ⟨by omega, rfl, rfl⟩))))))) | exact Or.inr (Or.inr (Or.inr (Or.inr (Or.inr (Or.inr (Or.inr (Or.inr (⟨by omega, rfl, rfl⟩)))))))) | (exfalso; omega)
    | 1, c1_1, ho9 =>
      have c1_1 : x = 1 := by simpa using c1_1
      have ho9 : some (52 : Int) = some off9 := ho9
      cases ho9
      refine ⟨by decide, ?_⟩
      show Rch l E 1 89 _ _ _ _ (53, [some (vR 0), some (vI x)], [], MW false I L)
      refine rch_run rfl (by decide) 3 (t' := (60, [some (vR 0), some (vI x)], [vI (I 17 0)], MW false I L)) (ps := []) rfl trivial ?_
      refine rch_ret rfl (rt := some (vI (I 17 0))) rfl trivial mw_c ?_
      first | exact Or.inl ⟨by omega, rfl, rfl⟩ | exact Or.inr (Or.inl ⟨by omega, rfl, rfl⟩) | exact Or.inr (Or.inr (Or.inl ⟨by omega, rfl, rfl⟩)) | exact Or.inr (Or.inr (Or.inr (Or.inl ⟨by omega, rfl, rfl⟩))) | exact Or.inr (Or.inr (Or.inr (Or.inr (Or.inl ⟨by omega, rfl, rfl⟩)))) | exact Or.inr (Or.inr (Or.inr (Or.inr (Or.inr (Or.inl ⟨by omega, rfl, rfl⟩))))) | exact Or.inr (Or.inr (Or.inr (Or.inr (Or.inr (Or.inr (Or.inl ⟨by omega, rfl, rfl⟩)))))) | exact Or.inr (Or.inr (Or.inr (Or.inr (Or.inr (Or.inr (Or.inr (Or.inl ⟨by omega, rfl, rfl⟩))))))) | exact Or.inr (Or.inr (Or.inr (Or.inr (Or.inr (Or.inr (Or.inr (Or.inr (⟨by omega, rfl, rfl⟩)))))))) | (exfalso; omega)
    | 2, c1_1, ho9 =>
      have c1_1 : x = 2 := by simpa using c1_1
      have ho9 : some (60 : Int) = some off9 := ho9
      cases ho9
      refine ⟨by decide, ?_⟩
      show Rch l E 1 89 _ _ _ _ (61, [some (vR 0), some (vI x)], [], MW false I L)
      refine rch_run rfl (by decide) 3 (t' := (68, [some (vR 0), some (vI x)], [vI (I 21 0)], MW false I L)) (ps := []) rfl trivial ?_
      refine rch_ret rfl (rt := some (vI (I 21 0))) rfl trivial mw_c ?_
      first | exact Or.inl ⟨by omega, rfl, rfl⟩ | exact Or.inr (Or.inl ⟨by omega, rfl, rfl⟩) | exact Or.inr (Or.inr (Or.inl ⟨by omega, rfl, rfl⟩)) | exact Or.inr (Or.inr (Or.inr (Or.inl ⟨by omega, rfl, rfl⟩))) | exact Or.inr (Or.inr (Or.inr (Or.inr (Or.inl ⟨by omega, rfl, rfl⟩)))) | exact Or.inr (Or.inr (Or.inr (Or.inr (Or.inr (Or.inl ⟨by omega, rfl, rfl⟩))))) | exact Or.inr (Or.inr (Or.inr (Or.inr (Or.inr (Or.inr (Or.inl ⟨by omega, rfl, rfl⟩)))))) | exact Or.inr (Or.inr (Or.inr (Or.inr (Or.inr (Or.inr (Or.inr (Or.inl ⟨by omega, rfl, rfl⟩))))))) | exact Or.inr (Or.inr (Or.inr (Or.inr (Or.inr (Or.inr (Or.inr (Or.inr (⟨by omega, rfl, rfl⟩)))))))) | (exfalso; omega)
    | 3, c1_1, ho9 =>
      have c1_1 : x = 3 := by simpa using c1_1
      have ho9 : some (68 : Int) = some off9 := ho9
      cases ho9
      refine ⟨by decide, ?_⟩
      show Rch l E 1 89 _ _ _ _ (69, [some (vR 0), some (vI x)], [], MW false I L)
      refine rch_run rfl (by decide) 3 (t' := (76, [some (vR 0), some (vI x)], [vI (I 32 0)], MW false I L)) (ps := []) rfl trivial ?_
      refine rch_ret rfl (rt := some (vI (I 32 0))) rfl trivial mw_c ?_
      first | exact Or.inl ⟨by omega, rfl, rfl⟩ | exact Or.inr (Or.inl ⟨by omega, rfl, rfl⟩) | exact Or.inr (Or.inr (Or.inl ⟨by omega, rfl, rfl⟩)) | exact Or.inr (Or.inr (Or.inr (Or.inl ⟨by omega, rfl, rfl⟩))) | exact Or.inr (Or.inr (Or.inr (Or.inr (Or.inl ⟨by omega, rfl, rfl⟩)))) | exact Or.inr (Or.inr (Or.inr (Or.inr (Or.inr (Or.inl ⟨by omega, rfl, rfl⟩))))) | exact Or.inr (Or.inr (Or.inr (Or.inr (Or.inr (Or.inr (Or.inl ⟨by omega, rfl, rfl⟩)))))) | exact Or.inr (Or.inr (Or.inr (Or.inr (Or.inr (Or.inr (Or.inr (Or.inl ⟨by omega, rfl, rfl⟩))))))) | exact Or.inr (Or.inr (Or.inr (Or.inr (Or.inr (Or.inr (Or.inr (Or.inr (⟨by omega, rfl, rfl⟩)))))))) | (exfalso; omega)
    | 4, c1_1, ho9 =>
      have c1_1 : x = 4 := by simpa using c1_1
      have ho9 : some (76 : Int) = some off9 := ho9
      cases ho9
      refine ⟨by decide, ?_⟩
      show Rch l E 1 89 _ _ _ _ (77, [some (vR 0), some (vI x)], [], MW false I L)
      refine rch_run rfl (by decide) 3 (t' := (84, [some (vR 0), some (vI x)], [vI (I 38 0)], MW false I L)) (ps := []) rfl trivial ?_
      refine rch_ret rfl (rt := some (vI (I 38 0))) rfl trivial mw_c ?_
      first | exact Or.inl ⟨by omega, rfl, rfl⟩ | exact Or.inr (Or.inl ⟨by omega, rfl, rfl⟩) | exact Or.inr (Or.inr (Or.inl ⟨by omega, rfl, rfl⟩)) | exact Or.inr (Or.inr (Or.inr (Or.inl ⟨by omega, rfl, rfl⟩))) | exact Or.inr (Or.inr (Or.inr (Or.inr (Or.inl ⟨by omega, rfl, rfl⟩)))) | exact Or.inr (Or.inr (Or.inr (Or.inr (Or.inr (Or.inl ⟨by omega, rfl, rfl⟩))))) | exact Or.inr (Or.inr (Or.inr (Or.inr (Or.inr (Or.inr (Or.inl ⟨by omega, rfl, rfl⟩)))))) | exact Or.inr (Or.inr (Or.inr (Or.inr (Or.inr (Or.inr (Or.inr (Or.inl ⟨by omega, rfl, rfl⟩))))))) | exact Or.inr (Or.inr (Or.inr (Or.inr (Or.inr (Or.inr (Or.inr (Or.inr (⟨by omega, rfl, rfl⟩)))))))) | (exfalso; omega)
    | 5, c1_1, ho9 =>
      have c1_1 : x = 5 := by simpa using c1_1
      have ho9 : some (84 : Int) = some off9 := ho9
      cases ho9
      refine ⟨by decide, ?_⟩
      show Rch l E 1 89 _ _ _ _ (85, [some (vR 0), some (vI x)], [], MW false I L)
      refine rch_run rfl (by decide) 3 (t' := (92, [some (vR 0), some (vI x)], [vI (I 1 0)], MW false I L)) (ps := []) rfl trivial ?_
      refine rch_ret rfl (rt := some (vI (I 1 0))) rfl trivial mw_c ?_
      first | exact Or.inl ⟨by omega, rfl, rfl⟩ | exact Or.inr (Or.inl ⟨by omega, rfl, rfl⟩) | exact Or.inr (Or.inr (Or.inl ⟨by omega, rfl, rfl⟩)) | exact Or.inr (Or.inr (Or.inr (Or.inl ⟨by omega, rfl, rfl⟩))) | exact Or.inr (Or.inr (Or.inr (Or.inr (Or.inl ⟨by omega, rfl, rfl⟩)))) | exact Or.inr (Or.inr (Or.inr (Or.inr (Or.inr (Or.inl ⟨by omega, rfl, rfl⟩))))) | exact Or.inr (Or.inr (Or.inr (Or.inr (Or.inr (Or.inr (Or.inl ⟨by omega, rfl, rfl⟩)))))) | exact Or.inr (Or.inr (Or.inr (Or.inr (Or.inr (Or.inr (Or.inr (Or.inl ⟨by omega, rfl, rfl⟩))))))) | exact Or.inr (Or.inr (Or.inr (Or.inr (Or.inr (Or.inr (Or.inr (Or.inr (⟨by omega, rfl, rfl⟩)))))))) | (exfalso; omega)
    | 6, c1_1, ho9 =>
      have c1_1 : x = 6 := by simpa using c1_1
      have ho9 : some (92 : Int) = some off9 := ho9
      cases ho9
      refine ⟨by decide, ?_⟩
      show Rch l E 1 89 _ _ _ _ (93, [some (vR 0), some (vI x)], [], MW false I L)
      refine rch_run rfl (by decide) 3 (t' := (100, [some (vR 0), some (vI x)], [vI (I 66 0)], MW false I L)) (ps := []) rfl trivial ?_
      refine rch_ret rfl (rt := some (vI (I 66 0))) rfl trivial mw_c ?_
      first | exact Or.inl ⟨by omega, rfl, rfl⟩ | exact Or.inr (Or.inl ⟨by omega, rfl, rfl⟩) | exact Or.inr (Or.inr (Or.inl ⟨by omega, rfl, rfl⟩)) | exact Or.inr (Or.inr (Or.inr (Or.inl ⟨by omega, rfl, rfl⟩))) | exact Or.inr (Or.inr (Or.inr (Or.inr (Or.inl ⟨by omega, rfl, rfl⟩)))) | exact Or.inr (Or.inr (Or.inr (Or.inr (Or.inr (Or.inl ⟨by omega, rfl, rfl⟩))))) | exact Or.inr (Or.inr (Or.inr (Or.inr (Or.inr (Or.inr (Or.inl ⟨by omega, rfl, rfl⟩)))))) | exact Or.inr (Or.inr (Or.inr (Or.inr (Or.inr (Or.inr (Or.inr (Or.inl ⟨by omega, rfl, rfl⟩))))))) | exact Or.inr (Or.inr (Or.inr (Or.inr (Or.inr (Or.inr (Or.inr (Or.inr (⟨by omega, rfl, rfl⟩)))))))) | (exfalso; omega)
    | 7, c1_1, ho9 =>
      have c1_1 : x = 7 := by simpa using c1_1
      have ho9 : some (100 : Int) = some off9 := ho9
      cases ho9
      refine ⟨by decide, ?_⟩
      show Rch l E 1 89 _ _ _ _ (101, [some (vR 0), some (vI x)], [], MW false I L)
      refine rch_run rfl (by decide) 3 (t' := (108, [some (vR 0), some (vI x)], [vI (I 28 0)], MW false I L)) (ps := []) rfl trivial ?_
      refine rch_ret rfl (rt := some (vI (I 28 0))) rfl trivial mw_c ?_
      first | exact Or.inl ⟨by omega, rfl, rfl⟩ | exact Or.inr (Or.inl ⟨by omega, rfl, rfl⟩) | exact Or.inr (Or.inr (Or.inl ⟨by omega, rfl, rfl⟩)) | exact Or.inr (Or.inr (Or.inr (Or.inl ⟨by omega, rfl, rfl⟩))) | exact Or.inr (Or.inr (Or.inr (Or.inr (Or.inl ⟨by omega, rfl, rfl⟩)))) | exact Or.inr (Or.inr (Or.inr (Or.inr (Or.inr (Or.inl ⟨by omega, rfl, rfl⟩))))) | exact Or.inr (Or.inr (Or.inr (Or.inr (Or.inr (Or.inr (Or.inl ⟨by omega, rfl, rfl⟩)))))) | exact Or.inr (Or.inr (Or.inr (Or.inr (Or.inr (Or.inr (Or.inr (Or.inl ⟨by omega, rfl, rfl⟩))))))) | exact Or.inr (Or.inr (Or.inr (Or.inr (Or.inr (Or.inr (Or.inr (Or.inr (⟨by omega, rfl, rfl⟩)))))))) | (exfalso; omega)
    | n9 + 8, _, ho9 => exact absurd ho9 (by simp)

theorem k_X11_about_t (l : Launch) (E : AX) (b : Bool) (I L : Nat → Nat → Int) (x : Int) : Con l E 1 89 [vR 0, vI x] (MW true I L) 0 0 (fun rt w => ((x = 0) ∧ rt = some (vI (I 0 0)) ∧ w = MW true I L) ∨ ((x = 1) ∧ rt = some (vI (I 17 0)) ∧ w = MW true I L) ∨ ((x = 2) ∧ rt = some (vI (I 21 0)) ∧ w = MW true I L) ∨ ((x = 3) ∧ rt = some (vI (I 32 0)) ∧ w = MW true I L) ∨ ((x = 4) ∧ rt = some (vI (I 38 0)) ∧ w = MW true I L) ∨ ((x = 5) ∧ rt = some (vI (I 7 0)) ∧ w = MW true I L) ∨ ((x = 6) ∧ rt = some (vI (I 66 0)) ∧ w = MW true I L) ∨ ((x = 7) ∧ rt = some (vI (I 28 0)) ∧ w = MW true I L) ∨ ((x < 0 ∨ 7 < x) ∧ rt = some (vI (-1)) ∧ w = MW true I L)) := by
  refine con_intro (by decide) (Nat.le_of_ble_eq_true rfl) ?_
  show Rch l E 1 89 _ _ _ _ (0, [some (vR 0), some (vI x)], [], MW true I L)
  refine rch_run rfl (by decide) 1 (t' := (1, [some (vR 0), some (vI x)], [vI x], MW true I L)) (ps := []) rfl trivial ?_
  refine rch_tsw (e := (1, .tableswitch 108 0 7 #[47, 52, 60, 68, 76, 84, 92, 100], 47, 0, 0, 0)) (d := 108) (lo := 0) (hi := 7) (offs := #[47, 52, 60, 68, 76, 84, 92, 100]) rfl rfl rfl (by decide) (by decide) (fun c1_1 => ?_) (fun n9 off9 c1_1 ho9 => ?_)
  · show Rch l E 1 89 _ _ _ _ (109, [some (vR 0), some (vI x)], [], MW true I L)
    refine rch_run rfl (by decide) 1 (t' := (110, [some (vR 0), some (vI x)], [vI (-1)], MW true I L)) (ps := []) rfl trivial ?_
    refine rch_ret rfl (rt := some (vI (-1))) rfl trivial mw_c ?_
    first | exact Or.inl ⟨by omega, rfl, rfl⟩ | exact Or.inr (Or.inl ⟨by omega, rfl, rfl⟩) | exact Or.inr (Or.inr (Or.inl ⟨by omega, rfl, rfl⟩)) | exact Or.inr (Or.inr (Or.inr (Or.inl ⟨by omega, rfl, rfl⟩))) | exact Or.inr (Or.inr (Or.inr (Or.inr (Or.inl ⟨by omega, rfl, rfl⟩)))) | exact Or.inr (Or.inr (Or.inr (Or.inr (Or.inr (Or.inl ⟨by omega, rfl, rfl⟩))))) | exact Or.inr (Or.inr (Or.inr (Or.inr (Or.inr (Or.inr (Or.inl ⟨by omega, rfl, rfl⟩)))))) | exact Or.inr (Or.inr (Or.inr (Or.inr (Or.inr (Or.inr (Or.inr (Or.inl ⟨by omega, rfl, rfl⟩))))))) | exact Or.inr (Or.inr (Or.inr (Or.inr (Or.inr (Or.inr (Or.inr (Or.inr (⟨by omega, rfl, rfl⟩)))))))) | (exfalso; omega)
  · match n9, c1_1, ho9 with
    | 0, c1_1, ho9 =>
      have c1_1 : x = 0 := by simpa using c1_1
      have ho9 : some (47 : Int) = some off9 := ho9
      cases ho9
      refine ⟨by decide, ?_⟩
      show Rch l E 1 89 _ _ _ _ (48, [some (vR 0), some (vI x)], [], MW true I L)
      refine rch_run rfl (by decide) 2 (t' := (52, [some (vR 0), some (vI x)], [vI (I 0 0)], MW true I L)) (ps := []) rfl trivial ?_
      refine rch_ret rfl (rt := some (vI (I 0 0))) rfl trivial mw_c ?_
      first | exact Or.inl ⟨by omega, rfl, rfl⟩ | exact Or.inr (Or.inl ⟨by omega, rfl, rfl⟩) | exact Or.inr (Or.inr (Or.inl ⟨by omega, rfl, rfl⟩)) | exact Or.inr (Or.inr (Or.inr (Or.inl ⟨by omega, rfl, rfl⟩))) | exact Or.inr (Or.inr (Or.inr (Or.inr (Or.inl ⟨by omega, rfl, rfl⟩)))) | exact Or.inr (Or.inr (Or.inr (Or.inr (Or.inr (Or.inl ⟨by omega, rfl, rfl⟩))))) | exact Or.inr (Or.inr (Or.inr (Or.inr (Or.inr (Or.inr (Or.inl ⟨by omega, rfl, rfl⟩)))))) | exact Or.inr (Or.inr (Or.inr (Or.inr (Or.inr (Or.inr (Or.inr (Or.inl ⟨by omega, rfl, rfl⟩))))))) | exact Or.inr (Or.inr (Or.inr (Or.inr (Or.inr (Or.inr (Or.inr (Or.inr (⟨by omega, rfl, rfl⟩)))))))) | (exfalso; omega)
    | 1, c1_1, ho9 =>
      have c1_1 : x = 1 := by simpa using c1_1
      have ho9 : some (52 : Int) = some off9 := ho9
      cases ho9
      refine ⟨by decide, ?_⟩
      show Rch l E 1 89 _ _ _ _ (53, [some (vR 0), some (vI x)], [], MW true I L)
      refine rch_run rfl (by decide) 3 (t' := (60, [some (vR 0), some (vI x)], [vI (I 17 0)], MW true I L)) (ps := []) rfl trivial ?_
      refine rch_ret rfl (rt := some (vI (I 17 0))) rfl trivial mw_c ?_
      first | exact Or.inl ⟨by omega, rfl, rfl⟩ | exact Or.inr (Or.inl ⟨by omega, rfl, rfl⟩) | exact Or.inr (Or.inr (Or.inl ⟨by omega, rfl, rfl⟩)) | exact Or.inr (Or.inr (Or.inr (Or.inl ⟨by omega, rfl, rfl⟩))) | exact Or.inr (Or.inr (Or.inr (Or.inr (Or.inl ⟨by omega, rfl, rfl⟩)))) | exact Or.inr (Or.inr (Or.inr (Or.inr (Or.inr (Or.inl ⟨by omega, rfl, rfl⟩))))) | exact Or.inr (Or.inr (Or.inr (Or.inr (Or.inr (Or.inr (Or.inl ⟨by omega, rfl, rfl⟩)))))) | exact Or.inr (Or.inr (Or.inr (Or.inr (Or.inr (Or.inr (Or.inr (Or.inl ⟨by omega, rfl, rfl⟩))))))) | exact Or.inr (Or.inr (Or.inr (Or.inr (Or.inr (Or.inr (Or.inr (Or.inr (⟨by omega, rfl, rfl⟩)))))))) | (exfalso; omega)
    | 2, c1_1, ho9 =>
      have c1_1 : x = 2 := by simpa using c1_1
      have ho9 : some (60 : Int) = some off9 := ho9
      cases ho9
      refine ⟨by decide, ?_⟩
      show Rch l E 1 89 _ _ _ _ (61, [some (vR 0), some (vI x)], [], MW true I L)
      refine rch_run rfl (by decide) 3 (t' := (68, [some (vR 0), some (vI x)], [vI (I 21 0)], MW true I L)) (ps := []) rfl trivial ?_
      refine rch_ret rfl (rt := some (vI (I 21 0))) rfl trivial mw_c ?_
      first | exact Or.inl ⟨by omega, rfl, rfl⟩ | exact Or.inr (Or.inl ⟨by omega, rfl, rfl⟩) | exact Or.inr (Or.inr (Or.inl ⟨by omega, rfl, rfl⟩)) | exact Or.inr (Or.inr (Or.inr (Or.inl ⟨by omega, rfl, rfl⟩))) | exact Or.inr (Or.inr (Or.inr (Or.inr (Or.inl ⟨by omega, rfl, rfl⟩)))) | exact Or.inr (Or.inr (Or.inr (Or.inr (Or.inr (Or.inl ⟨by omega, rfl, rfl⟩))))) | exact Or.inr (Or.inr (Or.inr (Or.inr (Or.inr (Or.inr (Or.inl ⟨by omega, rfl, rfl⟩)))))) | exact Or.inr (Or.inr (Or.inr (Or.inr (Or.inr (Or.inr (Or.inr (Or.inl ⟨by omega, rfl, rfl⟩))))))) | exact Or.inr (Or.inr (Or.inr (Or.inr (Or.inr (Or.inr (Or.inr (Or.inr (⟨by omega, rfl, rfl⟩)))))))) | (exfalso; omega)
    | 3, c1_1, ho9 =>
      have c1_1 : x = 3 := by simpa using c1_1
      have ho9 : some (68 : Int) = some off9 := ho9
      cases ho9
      refine ⟨by decide, ?_⟩
      show Rch l E 1 89 _ _ _ _ (69, [some (vR 0), some (vI x)], [], MW true I L)
      refine rch_run rfl (by decide) 3 (t' := (76, [some (vR 0), some (vI x)], [vI (I 32 0)], MW true I L)) (ps := []) rfl trivial ?_
      refine rch_ret rfl (rt := some (vI (I 32 0))) rfl trivial mw_c ?_
      first | exact Or.inl ⟨by omega, rfl, rfl⟩ | exact Or.inr (Or.inl ⟨by omega, rfl, rfl⟩) | exact Or.inr (Or.inr (Or.inl ⟨by omega, rfl, rfl⟩)) | exact Or.inr (Or.inr (Or.inr (Or.inl ⟨by omega, rfl, rfl⟩))) | exact Or.inr (Or.inr (Or.inr (Or.inr (Or.inl ⟨by omega, rfl, rfl⟩)))) | exact Or.inr (Or.inr (Or.inr (Or.inr (Or.inr (Or.inl ⟨by omega, rfl, rfl⟩))))) | exact Or.inr (Or.inr (Or.inr (Or.inr (Or.inr (Or.inr (Or.inl ⟨by omega, rfl, rfl⟩)))))) | exact Or.inr (Or.inr (Or.inr (Or.inr (Or.inr (Or.inr (Or.inr (Or.inl ⟨by omega, rfl, rfl⟩))))))) | exact Or.inr (Or.inr (Or.inr (Or.inr (Or.inr (Or.inr (Or.inr (Or.inr (⟨by omega, rfl, rfl⟩)))))))) | (exfalso; omega)
    | 4, c1_1, ho9 =>
      have c1_1 : x = 4 := by simpa using c1_1
      have ho9 : some (76 : Int) = some off9 := ho9
      cases ho9
      refine ⟨by decide, ?_⟩
      show Rch l E 1 89 _ _ _ _ (77, [some (vR 0), some (vI x)], [], MW true I L)
      refine rch_run rfl (by decide) 3 (t' := (84, [some (vR 0), some (vI x)], [vI (I 38 0)], MW true I L)) (ps := []) rfl trivial ?_
      refine rch_ret rfl (rt := some (vI (I 38 0))) rfl trivial mw_c ?_
      first | exact Or.inl ⟨by omega, rfl, rfl⟩ | exact Or.inr (Or.inl ⟨by omega, rfl, rfl⟩) | exact Or.inr (Or.inr (Or.inl ⟨by omega, rfl, rfl⟩)) | exact Or.inr (Or.inr (Or.inr (Or.inl ⟨by omega, rfl, rfl⟩))) | exact Or.inr (Or.inr (Or.inr (Or.inr (Or.inl ⟨by omega, rfl, rfl⟩)))) | exact Or.inr (Or.inr (Or.inr (Or.inr (Or.inr (Or.inl ⟨by omega, rfl, rfl⟩))))) | exact Or.inr (Or.inr (Or.inr (Or.inr (Or.inr (Or.inr (Or.inl ⟨by omega, rfl, rfl⟩)))))) | exact Or.inr (Or.inr (Or.inr (Or.inr (Or.inr (Or.inr (Or.inr (Or.inl ⟨by omega, rfl, rfl⟩))))))) | exact Or.inr (Or.inr (Or.inr (Or.inr (Or.inr (Or.inr (Or.inr (Or.inr (⟨by omega, rfl, rfl⟩)))))))) | (exfalso; omega)
    | 5, c1_1, ho9 =>
      have c1_1 : x = 5 := by simpa using c1_1
      have ho9 : some (84 : Int) = some off9 := ho9
      cases ho9
      refine ⟨by decide, ?_⟩
      show Rch l E 1 89 _ _ _ _ (85, [some (vR 0), some (vI x)], [], MW true I L)
      refine rch_run rfl (by decide) 3 (t' := (92, [some (vR 0), some (vI x)], [vI (I 7 0)], MW true I L)) (ps := []) rfl trivial ?_
      refine rch_ret rfl (rt := some (vI (I 7 0))) rfl trivial mw_c ?_
      first | exact Or.inl ⟨by omega, rfl, rfl⟩ | exact Or.inr (Or.inl ⟨by omega, rfl, rfl⟩) | exact Or.inr (Or.inr (Or.inl ⟨by omega, rfl, rfl⟩)) | exact Or.inr (Or.inr (Or.inr (Or.inl ⟨by omega, rfl, rfl⟩))) | exact Or.inr (Or.inr (Or.inr (Or.inr (Or.inl ⟨by omega, rfl, rfl⟩)))) | exact Or.inr (Or.inr (Or.inr (Or.inr (Or.inr (Or.inl ⟨by omega, rfl, rfl⟩))))) | exact Or.inr (Or.inr (Or.inr (Or.inr (Or.inr (Or.inr (Or.inl ⟨by omega, rfl, rfl⟩)))))) | exact Or.inr (Or.inr (Or.inr (Or.inr (Or.inr (Or.inr (Or.inr (Or.inl ⟨by omega, rfl, rfl⟩))))))) | exact Or.inr (Or.inr (Or.inr (Or.inr (Or.inr (Or.inr (Or.inr (Or.inr (⟨by omega, rfl, rfl⟩)))))))) | (exfalso; omega)
    | 6, c1_1, ho9 =>
      have c1_1 : x = 6 := by simpa using c1_1
      have ho9 : some (92 : Int) = some off9 := ho9
      cases ho9
      refine ⟨by decide, ?_⟩
      show Rch l E 1 89 _ _ _ _ (93, [some (vR 0), some (vI x)], [], MW true I L)
      refine rch_run rfl (by decide) 3 (t' := (100, [some (vR 0), some (vI x)], [vI (I 66 0)], MW true I L)) (ps := []) rfl trivial ?_
      refine rch_ret rfl (rt := some (vI (I 66 0))) rfl trivial mw_c ?_
      first | exact Or.inl ⟨by omega, rfl, rfl⟩ | exact Or.inr (Or.inl ⟨by omega, rfl, rfl⟩) | exact Or.inr (Or.inr (Or.inl ⟨by omega, rfl, rfl⟩)) | exact Or.inr (Or.inr (Or.inr (Or.inl ⟨by omega, rfl, rfl⟩))) | exact Or.inr (Or.inr (Or.inr (Or.inr (Or.inl ⟨by omega, rfl, rfl⟩)))) | exact Or.inr (Or.inr (Or.inr (Or.inr (Or.inr (Or.inl ⟨by omega, rfl, rfl⟩))))) | exact Or.inr (Or.inr (Or.inr (Or.inr (Or.inr (Or.inr (Or.inl ⟨by omega, rfl, rfl⟩)))))) | exact Or.inr (Or.inr (Or.inr (Or.inr (Or.inr (Or.inr (Or.inr (Or.inl ⟨by omega, rfl, rfl⟩))))))) | exact Or.inr (Or.inr (Or.inr (Or.inr (Or.inr (Or.inr (Or.inr (Or.inr (⟨by omega, rfl, rfl⟩)))))))) | (exfalso; omega)
    | 7, c1_1, ho9 =>
      have c1_1 : x = 7 := by simpa using c1_1
      have ho9 : some (100 : Int) = some off9 := ho9
      cases ho9
      refine ⟨by decide, ?_⟩
      show Rch l E 1 89 _ _ _ _ (101, [some (vR 0), some (vI x)], [], MW true I L)
      refine rch_run rfl (by decide) 3 (t' := (108, [some (vR 0), some (vI x)], [vI (I 28 0)], MW true I L)) (ps := []) rfl trivial ?_
      refine rch_ret rfl (rt := some (vI (I 28 0))) rfl trivial mw_c ?_
      first | exact Or.inl ⟨by omega, rfl, rfl⟩ | exact Or.inr (Or.inl ⟨by omega, rfl, rfl⟩) | exact Or.inr (Or.inr (Or.inl ⟨by omega, rfl, rfl⟩)) | exact Or.inr (Or.inr (Or.inr (Or.inl ⟨by omega, rfl, rfl⟩))) | exact Or.inr (Or.inr (Or.inr (Or.inr (Or.inl ⟨by omega, rfl, rfl⟩)))) | exact Or.inr (Or.inr (Or.inr (Or.inr (Or.inr (Or.inl ⟨by omega, rfl, rfl⟩))))) | exact Or.inr (Or.inr (Or.inr (Or.inr (Or.inr (Or.inr (Or.inl ⟨by omega, rfl, rfl⟩)))))) | exact Or.inr (Or.inr (Or.inr (Or.inr (Or.inr (Or.inr (Or.inr (Or.inl ⟨by omega, rfl, rfl⟩))))))) | exact Or.inr (Or.inr (Or.inr (Or.inr (Or.inr (Or.inr (Or.inr (Or.inr (⟨by omega, rfl, rfl⟩)))))))) | (exfalso; omega)
    | n9 + 8, _, ho9 => exact absurd ho9 (by simp)

theorem k_X12_fault (l : Launch) (E : AX) (b : Bool) (I L : Nat → Nat → Int) (x : Int) : Con l E 1 138 [vR 74, vI x] (MW b I L) 0 0 (fun rt w => ((x = 0) ∧ rt = some (vI (I 74 31)) ∧ w = MW b I L) ∨ ((x = 1) ∧ rt = some (vI (I 74 32)) ∧ w = MW b I L) ∨ ((x ≠ 0 ∧ x ≠ 1) ∧ rt = some (vI (-1)) ∧ w = MW b I L)) := by
  refine con_intro (by decide) (Nat.le_of_ble_eq_true rfl) ?_
  show Rch l E 1 138 _ _ _ _ (0, [some (vR 74), some (vI x)], [], MW b I L)
  refine rch_run rfl (by decide) 1 (t' := (1, [some (vR 74), some (vI x)], [vI x], MW b I L)) (ps := []) rfl trivial ?_
  refine rch_br rfl (cd := x ≠ 0) (t1 := (11, [some (vR 74), some (vI x)], [], MW b I L)) (t2 := (4, [some (vR 74), some (vI x)], [], MW b I L)) rfl (fun c1_1 => ?_) (fun c1_1 => ?_)
  · refine rch_run rfl (by decide) 2 (t' := (13, [some (vR 74), some (vI x)], [vI 1, vI x], MW b I L)) (ps := []) rfl trivial ?_
    refine rch_br rfl (cd := x ≠ (1 : Int)) (t1 := (23, [some (vR 74), some (vI x)], [], MW b I L)) (t2 := (16, [some (vR 74), some (vI x)], [], MW b I L)) rfl (fun c13_2 => ?_) (fun c13_2 => ?_)
    · refine rch_run rfl (by decide) 1 (t' := (24, [some (vR 74), some (vI x)], [vI (-1)], MW b I L)) (ps := []) rfl trivial ?_
      refine rch_ret rfl (rt := some (vI (-1))) rfl trivial mw_c ?_
      first | exact Or.inl ⟨by omega, rfl, rfl⟩ | exact Or.inr (Or.inl ⟨by omega, rfl, rfl⟩) | exact Or.inr (Or.inr (⟨by omega, rfl, rfl⟩)) | (exfalso; omega)
    · refine rch_run rfl (by decide) 3 (t' := (24, [some (vR 74), some (vI x)], [vI (I 74 32)], MW b I L)) (ps := []) rfl trivial ?_
      refine rch_ret rfl (rt := some (vI (I 74 32))) rfl trivial mw_c ?_
      first | exact Or.inl ⟨by omega, rfl, rfl⟩ | exact Or.inr (Or.inl ⟨by omega, rfl, rfl⟩) | exact Or.inr (Or.inr (⟨by omega, rfl, rfl⟩)) | (exfalso; omega)
  · refine rch_run rfl (by decide) 3 (t' := (24, [some (vR 74), some (vI x)], [vI (I 74 31)], MW b I L)) (ps := []) rfl trivial ?_
    refine rch_ret rfl (rt := some (vI (I 74 31))) rfl trivial mw_c ?_
    first | exact Or.inl ⟨by omega, rfl, rfl⟩ | exact Or.inr (Or.inl ⟨by omega, rfl, rfl⟩) | exact Or.inr (Or.inr (⟨by omega, rfl, rfl⟩)) | (exfalso; omega)

theorem k_X11_fault (l : Launch) (E : AX) (b : Bool) (I L : Nat → Nat → Int) (x : Int) : Con l E 1 73 [vR 0, vI x] (MW b I L) 0 0 (fun rt w => ((x = 0) ∧ rt = some (vI (I 31 0)) ∧ w = MW b I L) ∨ ((x = 1) ∧ rt = some (vI (I 31 1)) ∧ w = MW b I L) ∨ ((x ≠ 0 ∧ x ≠ 1) ∧ rt = some (vI (-1)) ∧ w = MW b I L)) := by
  refine con_intro (by decide) (Nat.le_of_ble_eq_true rfl) ?_
  show Rch l E 1 73 _ _ _ _ (0, [some (vR 0), some (vI x)], [], MW b I L)
  refine rch_run rfl (by decide) 1 (t' := (1, [some (vR 0), some (vI x)], [vI x], MW b I L)) (ps := []) rfl trivial ?_
  by_cases c1_1 : x = 0
  · refine rch_lsw (e := (1, .lookupswitch 43 #[(0, 27), (1, 35)], 27, 0, 0, 0)) (d := 43) (ps := #[(0, 27), (1, 35)]) 27 rfl rfl rfl (by decide) (by rw [c1_1]; decide) (by decide) ?_
    show Rch l E 1 73 _ _ _ _ (28, [some (vR 0), some (vI x)], [], MW b I L)
    refine rch_run rfl (by decide) 3 (t' := (35, [some (vR 0), some (vI x)], [vI (I 31 0)], MW b I L)) (ps := []) rfl trivial ?_
    refine rch_ret rfl (rt := some (vI (I 31 0))) rfl trivial mw_c ?_
    first | exact Or.inl ⟨by omega, rfl, rfl⟩ | exact Or.inr (Or.inl ⟨by omega, rfl, rfl⟩) | exact Or.inr (Or.inr (⟨by omega, rfl, rfl⟩)) | (exfalso; omega)
  by_cases c1_2 : x = 1
  · refine rch_lsw (e := (1, .lookupswitch 43 #[(0, 27), (1, 35)], 27, 0, 0, 0)) (d := 43) (ps := #[(0, 27), (1, 35)]) 35 rfl rfl rfl (by decide) (by rw [c1_2]; decide) (by decide) ?_
    show Rch l E 1 73 _ _ _ _ (36, [some (vR 0), some (vI x)], [], MW b I L)
    refine rch_run rfl (by decide) 3 (t' := (43, [some (vR 0), some (vI x)], [vI (I 31 1)], MW b I L)) (ps := []) rfl trivial ?_
    refine rch_ret rfl (rt := some (vI (I 31 1))) rfl trivial mw_c ?_
    first | exact Or.inl ⟨by omega, rfl, rfl⟩ | exact Or.inr (Or.inl ⟨by omega, rfl, rfl⟩) | exact Or.inr (Or.inr (⟨by omega, rfl, rfl⟩)) | (exfalso; omega)
  refine rch_lsw (e := (1, .lookupswitch 43 #[(0, 27), (1, 35)], 27, 0, 0, 0)) (d := 43) (ps := #[(0, 27), (1, 35)]) 43 rfl rfl rfl (by decide) (by simp [Op.lookupswitch.offset]; omega) (by decide) ?_
  show Rch l E 1 73 _ _ _ _ (44, [some (vR 0), some (vI x)], [], MW b I L)
  refine rch_run rfl (by decide) 1 (t' := (45, [some (vR 0), some (vI x)], [vI (-1)], MW b I L)) (ps := []) rfl trivial ?_
  refine rch_ret rfl (rt := some (vI (-1))) rfl trivial mw_c ?_
  first | exact Or.inl ⟨by omega, rfl, rfl⟩ | exact Or.inr (Or.inl ⟨by omega, rfl, rfl⟩) | exact Or.inr (Or.inr (⟨by omega, rfl, rfl⟩)) | (exfalso; omega)
end
section
-- BYTES
def srt (c : Int) : Int := if 97 ≤ c ∧ c ≤ 122 then 2 else if 48 ≤ c ∧ c ≤ 57 then 3 else if c = 59 ∨ c = 40 ∨ c = 41 then 4 else if c = 32 ∨ c = 10 then 1 else 0
/-- the j-th byte of an int, the highest first -/
def by4 (x : Int) (j : Nat) : Int := match j with
  | 0 => x / 16777216 % 256
  | 1 => x / 65536 % 256
  | 2 => x / 256 % 256
  | _ => x % 256
theorem by4_rg (x : Int) (j : Nat) : 0 ≤ by4 x j ∧ by4 x j ≤ 255 := by
  unfold by4
  split <;> omega
theorem tbn {x : Int} (h : i32 x) : ((Int32.ofInt x).toBitVec.toNat : Int) = x % 4294967296 := by
  have h1 : (Int32.ofInt x).toBitVec = BitVec.ofInt 32 x := rfl
  rw [h1, BitVec.toNat_ofInt]
  omega
theorem and255 (y : Int32) : (y &&& 255).toInt = ((y.toBitVec.toNat % 256 : Nat) : Int) := by
  rw [pk_and y (m := 255) 8 (by decide)]
  exact nI_toInt (by omega)
theorem and255_i (z : Int) : bAnd z 255 = (((Int32.ofInt z).toBitVec.toNat % 256 : Nat) : Int) := and255 _
theorem ushr_k (x s : Int) (k : Nat) (hs : (((Int32.ofInt s).toUInt32 &&& Int32.toUInt32 31).toBitVec % 32).toNat = k) (h : i32 x) : bAnd (bUshr x s) 255 = (x % 4294967296) / ((2 ^ k : Nat) : Int) % 256 := by
  unfold bUshr
  rw [and255_i, Int32.ofInt_toInt, pk_ushr _ _ k hs]
  have h1 := tbn h
  rw [← h1, Int.natCast_emod, Int.natCast_ediv]
  rfl
theorem shr_k (x s : Int) (k : Nat) (hs : ((Int32.ofInt s &&& 31).toBitVec.smod 32).toNat = k) (h : i32 x) : bAnd (bShr x s) 255 = x / ((2 ^ k : Nat) : Int) % 256 := by
  unfold bShr
  rw [and255_i, Int32.ofInt_toInt]
  have h1 := pk_shr (Int32.ofInt x) (Int32.ofInt s &&& 31) k hs
  rw [t32 h] at h1
  have h2 : i32 (x >>> k) := by rw [← h1]; exact i32_of _
  have h3 : Int32.ofInt x >>> (Int32.ofInt s &&& 31) = Int32.ofInt (x >>> k) := by rw [← h1, Int32.ofInt_toInt]
  rw [h3]
  have h4 := tbn h2
  rw [Int.shiftRight_eq_div_pow] at h4 h3 ⊢
  omega
theorem ub0 {x : Int} (h : i32 x) : bAnd (bUshr x 24) 255 = by4 x 0 := by rw [ushr_k x 24 24 (by decide) h]; show _ = x / 16777216 % 256; omega
theorem ub1 {x : Int} (h : i32 x) : bAnd (bUshr x 16) 255 = by4 x 1 := by rw [ushr_k x 16 16 (by decide) h]; show _ = x / 65536 % 256; omega
theorem ub2 {x : Int} (h : i32 x) : bAnd (bUshr x 8) 255 = by4 x 2 := by rw [ushr_k x 8 8 (by decide) h]; show _ = x / 256 % 256; omega
theorem ub3 {x : Int} (h : i32 x) : bAnd (bUshr x 0) 255 = by4 x 3 := by rw [ushr_k x 0 0 (by decide) h]; show _ = x % 256; omega
theorem sb0 {x : Int} (h : i32 x) : bAnd (bShr x 24) 255 = by4 x 0 := by rw [shr_k x 24 24 (by decide) h]; show _ = x / 16777216 % 256; omega
theorem sb1 {x : Int} (h : i32 x) : bAnd (bShr x 16) 255 = by4 x 1 := by rw [shr_k x 16 16 (by decide) h]; show _ = x / 65536 % 256; omega
theorem sb2 {x : Int} (h : i32 x) : bAnd (bShr x 8) 255 = by4 x 2 := by rw [shr_k x 8 8 (by decide) h]; show _ = x / 256 % 256; omega
theorem sb3 {x : Int} (h : i32 x) : bAnd (bShr x 0) 255 = by4 x 3 := by rw [shr_k x 0 0 (by decide) h]; show _ = x % 256; omega
end
section
theorem con_ok {l : Launch} {E : AX} {h k : Nat} {args : List AV} {w : AW} {nc ns : Nat} {Φ : Option AV → AW → Prop} (hh : okW w → okS args → Con l E h k args w nc ns Φ) : Con l E h k args w nc ns Φ := fun hw hs => hh hw hs hw hs
theorem upI_ne {I : Nat → Nat → Int} {a j b i : Nat} {x : Int} (h : b ≠ a ∨ i ≠ j) : upI I a j x b i = I b i := by
  unfold upI
  rw [if_neg (by omega)]
theorem upI_eq {I : Nat → Nat → Int} {a j b i : Nat} {x : Int} (h : b = a) (h2 : i = j) : upI I a j x b i = x := by
  unfold upI
  rw [if_pos ⟨h, h2⟩]
/-- four bytes came behind those on the tape (class; reference) -/
def ApC (I I' : Nat → Nat → Int) (x : Int) : Prop := I' 28 0 = I 28 0 + 4 ∧ (∀ j, j < 4 → I' 29 ((I 28 0).toNat + j) = by4 x j ∧ I' 30 ((I 28 0).toNat + j) = srt (by4 x j)) ∧ ∀ a i, ¬ (a = 28 ∧ i = 0) → ¬ ((a = 29 ∨ a = 30) ∧ (I 28 0).toNat ≤ i ∧ i < (I 28 0).toNat + 4) → I' a i = I a i
def ApM (I I' : Nat → Nat → Int) (x : Int) : Prop := I' 74 30 = I 74 30 + 4 ∧ (∀ j, j < 4 → I' 97 ((I 74 30).toNat + j) = by4 x j) ∧ ∀ a i, ¬ (a = 74 ∧ i = 30) → ¬ (a = 97 ∧ (I 74 30).toNat ≤ i ∧ i < (I 74 30).toNat + 4) → I' a i = I a i

theorem k_X6_sortOf (l : Launch) (E : AX) (b : Bool) (I L : Nat → Nat → Int) (x : Int) : Con l E 1 40 [vI x] (MW b I L) 0 0 (fun rt w => rt = some (vI (srt x)) ∧ w = MW b I L) := by
  refine con_ok (fun hw9 hs9 => ?_)
  refine con_intro (by decide) (Nat.le_of_ble_eq_true rfl) ?_
  show Rch l E 1 40 _ _ _ _ (0, [some (vI x)], [], MW b I L)
  refine rch_run rfl (by decide) 2 (t' := (3, [some (vI x)], [vI 97, vI x], MW b I L)) (ps := []) rfl trivial ?_
  refine rch_br rfl (cd := x < (97 : Int)) (t1 := (14, [some (vI x)], [], MW b I L)) (t2 := (6, [some (vI x)], [], MW b I L)) rfl (fun c3_1 => ?_) (fun c3_1 => ?_)
  · refine rch_run rfl (by decide) 2 (t' := (17, [some (vI x)], [vI 48, vI x], MW b I L)) (ps := []) rfl trivial ?_
    refine rch_br rfl (cd := x < (48 : Int)) (t1 := (28, [some (vI x)], [], MW b I L)) (t2 := (20, [some (vI x)], [], MW b I L)) rfl (fun c17_2 => ?_) (fun c17_2 => ?_)
    · refine rch_run rfl (by decide) 2 (t' := (31, [some (vI x)], [vI 59, vI x], MW b I L)) (ps := []) rfl trivial ?_
      refine rch_br rfl (cd := x = (59 : Int)) (t1 := (46, [some (vI x)], [], MW b I L)) (t2 := (34, [some (vI x)], [], MW b I L)) rfl (fun c31_3 => ?_) (fun c31_3 => ?_)
      · refine rch_run rfl (by decide) 1 (t' := (47, [some (vI x)], [vI 4], MW b I L)) (ps := []) rfl trivial ?_
        refine rch_ret rfl (rt := some (vI 4)) rfl trivial mw_c ?_
        have e9 : srt x = 4 := by first | (exfalso; omega) | (unfold srt; repeat (first | rw [if_pos (by omega)] | rw [if_neg (by omega)]))
        exact ⟨by rw [e9], rfl⟩
      · refine rch_run rfl (by decide) 2 (t' := (37, [some (vI x)], [vI 40, vI x], MW b I L)) (ps := []) rfl trivial ?_
        refine rch_br rfl (cd := x = (40 : Int)) (t1 := (46, [some (vI x)], [], MW b I L)) (t2 := (40, [some (vI x)], [], MW b I L)) rfl (fun c37_4 => ?_) (fun c37_4 => ?_)
        · refine rch_run rfl (by decide) 1 (t' := (47, [some (vI x)], [vI 4], MW b I L)) (ps := []) rfl trivial ?_
          refine rch_ret rfl (rt := some (vI 4)) rfl trivial mw_c ?_
          have e9 : srt x = 4 := by first | (exfalso; omega) | (unfold srt; repeat (first | rw [if_pos (by omega)] | rw [if_neg (by omega)]))
          exact ⟨by rw [e9], rfl⟩
        · refine rch_run rfl (by decide) 2 (t' := (43, [some (vI x)], [vI 41, vI x], MW b I L)) (ps := []) rfl trivial ?_
          refine rch_br rfl (cd := x ≠ (41 : Int)) (t1 := (48, [some (vI x)], [], MW b I L)) (t2 := (46, [some (vI x)], [], MW b I L)) rfl (fun c43_5 => ?_) (fun c43_5 => ?_)
          · refine rch_run rfl (by decide) 2 (t' := (51, [some (vI x)], [vI 32, vI x], MW b I L)) (ps := []) rfl trivial ?_
            refine rch_br rfl (cd := x = (32 : Int)) (t1 := (60, [some (vI x)], [], MW b I L)) (t2 := (54, [some (vI x)], [], MW b I L)) rfl (fun c51_6 => ?_) (fun c51_6 => ?_)
            · refine rch_run rfl (by decide) 2 (t' := (65, [some (vI x)], [vI 1], MW b I L)) (ps := []) rfl trivial ?_
              refine rch_ret rfl (rt := some (vI 1)) rfl trivial mw_c ?_
              have e9 : srt x = 1 := by first | (exfalso; omega) | (unfold srt; repeat (first | rw [if_pos (by omega)] | rw [if_neg (by omega)]))
              exact ⟨by rw [e9], rfl⟩
            · refine rch_run rfl (by decide) 2 (t' := (57, [some (vI x)], [vI 10, vI x], MW b I L)) (ps := []) rfl trivial ?_
              refine rch_br rfl (cd := x ≠ (10 : Int)) (t1 := (64, [some (vI x)], [], MW b I L)) (t2 := (60, [some (vI x)], [], MW b I L)) rfl (fun c57_7 => ?_) (fun c57_7 => ?_)
              · refine rch_run rfl (by decide) 1 (t' := (65, [some (vI x)], [vI 0], MW b I L)) (ps := []) rfl trivial ?_
                refine rch_ret rfl (rt := some (vI 0)) rfl trivial mw_c ?_
                have e9 : srt x = 0 := by first | (exfalso; omega) | (unfold srt; repeat (first | rw [if_pos (by omega)] | rw [if_neg (by omega)]))
                exact ⟨by rw [e9], rfl⟩
              · refine rch_run rfl (by decide) 2 (t' := (65, [some (vI x)], [vI 1], MW b I L)) (ps := []) rfl trivial ?_
                refine rch_ret rfl (rt := some (vI 1)) rfl trivial mw_c ?_
                have e9 : srt x = 1 := by first | (exfalso; omega) | (unfold srt; repeat (first | rw [if_pos (by omega)] | rw [if_neg (by omega)]))
                exact ⟨by rw [e9], rfl⟩
          · refine rch_run rfl (by decide) 1 (t' := (47, [some (vI x)], [vI 4], MW b I L)) (ps := []) rfl trivial ?_
            refine rch_ret rfl (rt := some (vI 4)) rfl trivial mw_c ?_
            have e9 : srt x = 4 := by first | (exfalso; omega) | (unfold srt; repeat (first | rw [if_pos (by omega)] | rw [if_neg (by omega)]))
            exact ⟨by rw [e9], rfl⟩
    · refine rch_run rfl (by decide) 2 (t' := (23, [some (vI x)], [vI 57, vI x], MW b I L)) (ps := []) rfl trivial ?_
      refine rch_br rfl (cd := (57 : Int) < x) (t1 := (28, [some (vI x)], [], MW b I L)) (t2 := (26, [some (vI x)], [], MW b I L)) rfl (fun c23_8 => ?_) (fun c23_8 => ?_)
      · refine rch_run rfl (by decide) 2 (t' := (31, [some (vI x)], [vI 59, vI x], MW b I L)) (ps := []) rfl trivial ?_
        refine rch_br rfl (cd := x = (59 : Int)) (t1 := (46, [some (vI x)], [], MW b I L)) (t2 := (34, [some (vI x)], [], MW b I L)) rfl (fun c31_9 => ?_) (fun c31_9 => ?_)
        · refine rch_run rfl (by decide) 1 (t' := (47, [some (vI x)], [vI 4], MW b I L)) (ps := []) rfl trivial ?_
          refine rch_ret rfl (rt := some (vI 4)) rfl trivial mw_c ?_
          have e9 : srt x = 4 := by first | (exfalso; omega) | (unfold srt; repeat (first | rw [if_pos (by omega)] | rw [if_neg (by omega)]))
          exact ⟨by rw [e9], rfl⟩
        · refine rch_run rfl (by decide) 2 (t' := (37, [some (vI x)], [vI 40, vI x], MW b I L)) (ps := []) rfl trivial ?_
          refine rch_br rfl (cd := x = (40 : Int)) (t1 := (46, [some (vI x)], [], MW b I L)) (t2 := (40, [some (vI x)], [], MW b I L)) rfl (fun c37_10 => ?_) (fun c37_10 => ?_)
          · refine rch_run rfl (by decide) 1 (t' := (47, [some (vI x)], [vI 4], MW b I L)) (ps := []) rfl trivial ?_
            refine rch_ret rfl (rt := some (vI 4)) rfl trivial mw_c ?_
            have e9 : srt x = 4 := by first | (exfalso; omega) | (unfold srt; repeat (first | rw [if_pos (by omega)] | rw [if_neg (by omega)]))
            exact ⟨by rw [e9], rfl⟩
          · refine rch_run rfl (by decide) 2 (t' := (43, [some (vI x)], [vI 41, vI x], MW b I L)) (ps := []) rfl trivial ?_
            refine rch_br rfl (cd := x ≠ (41 : Int)) (t1 := (48, [some (vI x)], [], MW b I L)) (t2 := (46, [some (vI x)], [], MW b I L)) rfl (fun c43_11 => ?_) (fun c43_11 => ?_)
            · refine rch_run rfl (by decide) 2 (t' := (51, [some (vI x)], [vI 32, vI x], MW b I L)) (ps := []) rfl trivial ?_
              refine rch_br rfl (cd := x = (32 : Int)) (t1 := (60, [some (vI x)], [], MW b I L)) (t2 := (54, [some (vI x)], [], MW b I L)) rfl (fun c51_12 => ?_) (fun c51_12 => ?_)
              · refine rch_run rfl (by decide) 2 (t' := (65, [some (vI x)], [vI 1], MW b I L)) (ps := []) rfl trivial ?_
                refine rch_ret rfl (rt := some (vI 1)) rfl trivial mw_c ?_
                have e9 : srt x = 1 := by first | (exfalso; omega) | (unfold srt; repeat (first | rw [if_pos (by omega)] | rw [if_neg (by omega)]))
                exact ⟨by rw [e9], rfl⟩
              · refine rch_run rfl (by decide) 2 (t' := (57, [some (vI x)], [vI 10, vI x], MW b I L)) (ps := []) rfl trivial ?_
                refine rch_br rfl (cd := x ≠ (10 : Int)) (t1 := (64, [some (vI x)], [], MW b I L)) (t2 := (60, [some (vI x)], [], MW b I L)) rfl (fun c57_13 => ?_) (fun c57_13 => ?_)
                · refine rch_run rfl (by decide) 1 (t' := (65, [some (vI x)], [vI 0], MW b I L)) (ps := []) rfl trivial ?_
                  refine rch_ret rfl (rt := some (vI 0)) rfl trivial mw_c ?_
                  have e9 : srt x = 0 := by first | (exfalso; omega) | (unfold srt; repeat (first | rw [if_pos (by omega)] | rw [if_neg (by omega)]))
                  exact ⟨by rw [e9], rfl⟩
                · refine rch_run rfl (by decide) 2 (t' := (65, [some (vI x)], [vI 1], MW b I L)) (ps := []) rfl trivial ?_
                  refine rch_ret rfl (rt := some (vI 1)) rfl trivial mw_c ?_
                  have e9 : srt x = 1 := by first | (exfalso; omega) | (unfold srt; repeat (first | rw [if_pos (by omega)] | rw [if_neg (by omega)]))
                  exact ⟨by rw [e9], rfl⟩
            · refine rch_run rfl (by decide) 1 (t' := (47, [some (vI x)], [vI 4], MW b I L)) (ps := []) rfl trivial ?_
              refine rch_ret rfl (rt := some (vI 4)) rfl trivial mw_c ?_
              have e9 : srt x = 4 := by first | (exfalso; omega) | (unfold srt; repeat (first | rw [if_pos (by omega)] | rw [if_neg (by omega)]))
              exact ⟨by rw [e9], rfl⟩
      · refine rch_run rfl (by decide) 1 (t' := (27, [some (vI x)], [vI 3], MW b I L)) (ps := []) rfl trivial ?_
        refine rch_ret rfl (rt := some (vI 3)) rfl trivial mw_c ?_
        have e9 : srt x = 3 := by first | (exfalso; omega) | (unfold srt; repeat (first | rw [if_pos (by omega)] | rw [if_neg (by omega)]))
        exact ⟨by rw [e9], rfl⟩
  · refine rch_run rfl (by decide) 2 (t' := (9, [some (vI x)], [vI 122, vI x], MW b I L)) (ps := []) rfl trivial ?_
    refine rch_br rfl (cd := (122 : Int) < x) (t1 := (14, [some (vI x)], [], MW b I L)) (t2 := (12, [some (vI x)], [], MW b I L)) rfl (fun c9_14 => ?_) (fun c9_14 => ?_)
    · refine rch_run rfl (by decide) 2 (t' := (17, [some (vI x)], [vI 48, vI x], MW b I L)) (ps := []) rfl trivial ?_
      refine rch_br rfl (cd := x < (48 : Int)) (t1 := (28, [some (vI x)], [], MW b I L)) (t2 := (20, [some (vI x)], [], MW b I L)) rfl (fun c17_15 => ?_) (fun c17_15 => ?_)
      · refine rch_run rfl (by decide) 2 (t' := (31, [some (vI x)], [vI 59, vI x], MW b I L)) (ps := []) rfl trivial ?_
        refine rch_br rfl (cd := x = (59 : Int)) (t1 := (46, [some (vI x)], [], MW b I L)) (t2 := (34, [some (vI x)], [], MW b I L)) rfl (fun c31_16 => ?_) (fun c31_16 => ?_)
        · refine rch_run rfl (by decide) 1 (t' := (47, [some (vI x)], [vI 4], MW b I L)) (ps := []) rfl trivial ?_
          refine rch_ret rfl (rt := some (vI 4)) rfl trivial mw_c ?_
          have e9 : srt x = 4 := by first | (exfalso; omega) | (unfold srt; repeat (first | rw [if_pos (by omega)] | rw [if_neg (by omega)]))
          exact ⟨by rw [e9], rfl⟩
        · refine rch_run rfl (by decide) 2 (t' := (37, [some (vI x)], [vI 40, vI x], MW b I L)) (ps := []) rfl trivial ?_
          refine rch_br rfl (cd := x = (40 : Int)) (t1 := (46, [some (vI x)], [], MW b I L)) (t2 := (40, [some (vI x)], [], MW b I L)) rfl (fun c37_17 => ?_) (fun c37_17 => ?_)
          · refine rch_run rfl (by decide) 1 (t' := (47, [some (vI x)], [vI 4], MW b I L)) (ps := []) rfl trivial ?_
            refine rch_ret rfl (rt := some (vI 4)) rfl trivial mw_c ?_
            have e9 : srt x = 4 := by first | (exfalso; omega) | (unfold srt; repeat (first | rw [if_pos (by omega)] | rw [if_neg (by omega)]))
            exact ⟨by rw [e9], rfl⟩
          · refine rch_run rfl (by decide) 2 (t' := (43, [some (vI x)], [vI 41, vI x], MW b I L)) (ps := []) rfl trivial ?_
            refine rch_br rfl (cd := x ≠ (41 : Int)) (t1 := (48, [some (vI x)], [], MW b I L)) (t2 := (46, [some (vI x)], [], MW b I L)) rfl (fun c43_18 => ?_) (fun c43_18 => ?_)
            · refine rch_run rfl (by decide) 2 (t' := (51, [some (vI x)], [vI 32, vI x], MW b I L)) (ps := []) rfl trivial ?_
              refine rch_br rfl (cd := x = (32 : Int)) (t1 := (60, [some (vI x)], [], MW b I L)) (t2 := (54, [some (vI x)], [], MW b I L)) rfl (fun c51_19 => ?_) (fun c51_19 => ?_)
              · refine rch_run rfl (by decide) 2 (t' := (65, [some (vI x)], [vI 1], MW b I L)) (ps := []) rfl trivial ?_
                refine rch_ret rfl (rt := some (vI 1)) rfl trivial mw_c ?_
                have e9 : srt x = 1 := by first | (exfalso; omega) | (unfold srt; repeat (first | rw [if_pos (by omega)] | rw [if_neg (by omega)]))
                exact ⟨by rw [e9], rfl⟩
              · refine rch_run rfl (by decide) 2 (t' := (57, [some (vI x)], [vI 10, vI x], MW b I L)) (ps := []) rfl trivial ?_
                refine rch_br rfl (cd := x ≠ (10 : Int)) (t1 := (64, [some (vI x)], [], MW b I L)) (t2 := (60, [some (vI x)], [], MW b I L)) rfl (fun c57_20 => ?_) (fun c57_20 => ?_)
                · refine rch_run rfl (by decide) 1 (t' := (65, [some (vI x)], [vI 0], MW b I L)) (ps := []) rfl trivial ?_
                  refine rch_ret rfl (rt := some (vI 0)) rfl trivial mw_c ?_
                  have e9 : srt x = 0 := by first | (exfalso; omega) | (unfold srt; repeat (first | rw [if_pos (by omega)] | rw [if_neg (by omega)]))
                  exact ⟨by rw [e9], rfl⟩
                · refine rch_run rfl (by decide) 2 (t' := (65, [some (vI x)], [vI 1], MW b I L)) (ps := []) rfl trivial ?_
                  refine rch_ret rfl (rt := some (vI 1)) rfl trivial mw_c ?_
                  have e9 : srt x = 1 := by first | (exfalso; omega) | (unfold srt; repeat (first | rw [if_pos (by omega)] | rw [if_neg (by omega)]))
                  exact ⟨by rw [e9], rfl⟩
            · refine rch_run rfl (by decide) 1 (t' := (47, [some (vI x)], [vI 4], MW b I L)) (ps := []) rfl trivial ?_
              refine rch_ret rfl (rt := some (vI 4)) rfl trivial mw_c ?_
              have e9 : srt x = 4 := by first | (exfalso; omega) | (unfold srt; repeat (first | rw [if_pos (by omega)] | rw [if_neg (by omega)]))
              exact ⟨by rw [e9], rfl⟩
      · refine rch_run rfl (by decide) 2 (t' := (23, [some (vI x)], [vI 57, vI x], MW b I L)) (ps := []) rfl trivial ?_
        refine rch_br rfl (cd := (57 : Int) < x) (t1 := (28, [some (vI x)], [], MW b I L)) (t2 := (26, [some (vI x)], [], MW b I L)) rfl (fun c23_21 => ?_) (fun c23_21 => ?_)
        · refine rch_run rfl (by decide) 2 (t' := (31, [some (vI x)], [vI 59, vI x], MW b I L)) (ps := []) rfl trivial ?_
          refine rch_br rfl (cd := x = (59 : Int)) (t1 := (46, [some (vI x)], [], MW b I L)) (t2 := (34, [some (vI x)], [], MW b I L)) rfl (fun c31_22 => ?_) (fun c31_22 => ?_)
          · refine rch_run rfl (by decide) 1 (t' := (47, [some (vI x)], [vI 4], MW b I L)) (ps := []) rfl trivial ?_
            refine rch_ret rfl (rt := some (vI 4)) rfl trivial mw_c ?_
            have e9 : srt x = 4 := by first | (exfalso; omega) | (unfold srt; repeat (first | rw [if_pos (by omega)] | rw [if_neg (by omega)]))
            exact ⟨by rw [e9], rfl⟩
          · refine rch_run rfl (by decide) 2 (t' := (37, [some (vI x)], [vI 40, vI x], MW b I L)) (ps := []) rfl trivial ?_
            refine rch_br rfl (cd := x = (40 : Int)) (t1 := (46, [some (vI x)], [], MW b I L)) (t2 := (40, [some (vI x)], [], MW b I L)) rfl (fun c37_23 => ?_) (fun c37_23 => ?_)
            · refine rch_run rfl (by decide) 1 (t' := (47, [some (vI x)], [vI 4], MW b I L)) (ps := []) rfl trivial ?_
              refine rch_ret rfl (rt := some (vI 4)) rfl trivial mw_c ?_
              have e9 : srt x = 4 := by first | (exfalso; omega) | (unfold srt; repeat (first | rw [if_pos (by omega)] | rw [if_neg (by omega)]))
              exact ⟨by rw [e9], rfl⟩
            · refine rch_run rfl (by decide) 2 (t' := (43, [some (vI x)], [vI 41, vI x], MW b I L)) (ps := []) rfl trivial ?_
              refine rch_br rfl (cd := x ≠ (41 : Int)) (t1 := (48, [some (vI x)], [], MW b I L)) (t2 := (46, [some (vI x)], [], MW b I L)) rfl (fun c43_24 => ?_) (fun c43_24 => ?_)
              · refine rch_run rfl (by decide) 2 (t' := (51, [some (vI x)], [vI 32, vI x], MW b I L)) (ps := []) rfl trivial ?_
                refine rch_br rfl (cd := x = (32 : Int)) (t1 := (60, [some (vI x)], [], MW b I L)) (t2 := (54, [some (vI x)], [], MW b I L)) rfl (fun c51_25 => ?_) (fun c51_25 => ?_)
                · refine rch_run rfl (by decide) 2 (t' := (65, [some (vI x)], [vI 1], MW b I L)) (ps := []) rfl trivial ?_
                  refine rch_ret rfl (rt := some (vI 1)) rfl trivial mw_c ?_
                  have e9 : srt x = 1 := by first | (exfalso; omega) | (unfold srt; repeat (first | rw [if_pos (by omega)] | rw [if_neg (by omega)]))
                  exact ⟨by rw [e9], rfl⟩
                · refine rch_run rfl (by decide) 2 (t' := (57, [some (vI x)], [vI 10, vI x], MW b I L)) (ps := []) rfl trivial ?_
                  refine rch_br rfl (cd := x ≠ (10 : Int)) (t1 := (64, [some (vI x)], [], MW b I L)) (t2 := (60, [some (vI x)], [], MW b I L)) rfl (fun c57_26 => ?_) (fun c57_26 => ?_)
                  · refine rch_run rfl (by decide) 1 (t' := (65, [some (vI x)], [vI 0], MW b I L)) (ps := []) rfl trivial ?_
                    refine rch_ret rfl (rt := some (vI 0)) rfl trivial mw_c ?_
                    have e9 : srt x = 0 := by first | (exfalso; omega) | (unfold srt; repeat (first | rw [if_pos (by omega)] | rw [if_neg (by omega)]))
                    exact ⟨by rw [e9], rfl⟩
                  · refine rch_run rfl (by decide) 2 (t' := (65, [some (vI x)], [vI 1], MW b I L)) (ps := []) rfl trivial ?_
                    refine rch_ret rfl (rt := some (vI 1)) rfl trivial mw_c ?_
                    have e9 : srt x = 1 := by first | (exfalso; omega) | (unfold srt; repeat (first | rw [if_pos (by omega)] | rw [if_neg (by omega)]))
                    exact ⟨by rw [e9], rfl⟩
              · refine rch_run rfl (by decide) 1 (t' := (47, [some (vI x)], [vI 4], MW b I L)) (ps := []) rfl trivial ?_
                refine rch_ret rfl (rt := some (vI 4)) rfl trivial mw_c ?_
                have e9 : srt x = 4 := by first | (exfalso; omega) | (unfold srt; repeat (first | rw [if_pos (by omega)] | rw [if_neg (by omega)]))
                exact ⟨by rw [e9], rfl⟩
        · refine rch_run rfl (by decide) 1 (t' := (27, [some (vI x)], [vI 3], MW b I L)) (ps := []) rfl trivial ?_
          refine rch_ret rfl (rt := some (vI 3)) rfl trivial mw_c ?_
          have e9 : srt x = 3 := by first | (exfalso; omega) | (unfold srt; repeat (first | rw [if_pos (by omega)] | rw [if_neg (by omega)]))
          exact ⟨by rw [e9], rfl⟩
    · refine rch_run rfl (by decide) 1 (t' := (13, [some (vI x)], [vI 2], MW b I L)) (ps := []) rfl trivial ?_
      refine rch_ret rfl (rt := some (vI 2)) rfl trivial mw_c ?_
      have e9 : srt x = 2 := by first | (exfalso; omega) | (unfold srt; repeat (first | rw [if_pos (by omega)] | rw [if_neg (by omega)]))
      exact ⟨by rw [e9], rfl⟩

theorem k_X6_append (l : Launch) (E : AX) (b : Bool) (I L : Nat → Nat → Int) (x : Int) (hn : 0 ≤ I 28 0 ∧ I 28 0 + 4 ≤ 500) : Con l E 2 39 [vR 28, vI x] (MW b I L) 0 0 (fun rt w => ∃ I', rt = none ∧ w = MW b I' L ∧ ApC I I' x) := by
  refine con_ok (fun hw9 hs9 => ?_)
  refine con_intro (by decide) (Nat.le_of_ble_eq_true rfl) ?_
  have hx : i32 x := hs9 (vI x) (by simp)
  show Rch l E 2 39 _ _ _ _ (0, [some (vR 28), some (vI x), none], [], MW b I L)
  refine rch_run rfl (by decide) 3 (t' := (4, [some (vR 28), some (vI x), some (vI 24)], [vI 24], MW b I L)) (ps := []) rfl trivial ?_
  refine rch_br rfl (cd := (24 : Int) < 0) (t1 := (70, [some (vR 28), some (vI x), some (vI 24)], [], MW b I L)) (t2 := (7, [some (vR 28), some (vI x), some (vI 24)], [], MW b I L)) rfl (fun c9 => absurd c9 (by decide)) (fun _ => ?_)
  refine rch_run rfl (by decide) 3 (t' := (14, [some (vR 28), some (vI x), some (vI 24)], [vI 500, vI (I 28 0)], MW b I L)) (ps := []) rfl trivial ?_
  refine rch_br rfl (cd := (500 : Int) ≤ I 28 0) (t1 := (64, [some (vR 28), some (vI x), some (vI 24)], [], MW b I L)) (t2 := (17, [some (vR 28), some (vI x), some (vI 24)], [], MW b I L)) rfl (fun c9 => by exfalso; omega) (fun c14_2 => ?_)
  refine rch_run rfl (by decide) 19 (t' := (50, [some (vR 28), some (vI x), some (vI 24)], [vI ((upI I 29 (I 28 0).toNat (bAnd (bUshr x 24) 255)) 29 (I 28 0).toNat), vI (I 28 0), vR 30], MW b (upI I 29 (I 28 0).toNat (bAnd (bUshr x 24) 255)) L)) (ps := [0 ≤ I 28 0 ∧ I 28 0 < ((500 : Nat) : Int), 0 ≤ I 28 0 ∧ I 28 0 < ((500 : Nat) : Int)]) rfl (by simp only [all_, i32, i64]; first | omega | (simp; done) | (simp; omega)) ?_
  refine rch_call (h' := 1) (k' := 40) (as := [vI ((upI I 29 (I 28 0).toNat (bAnd (bUshr x 24) 255)) 29 (I 28 0).toNat)]) (t1 := (53, [some (vR 28), some (vI x), some (vI 24)], [vI (I 28 0), vR 30], MW b (upI I 29 (I 28 0).toNat (bAnd (bUshr x 24) 255)) L)) rfl rfl (k_X6_sortOf l E b (upI I 29 (I 28 0).toNat (bAnd (bUshr x 24) 255)) L ((upI I 29 (I 28 0).toNat (bAnd (bUshr x 24) 255)) 29 (I 28 0).toNat) ) (by decide) mw_le ?_
  rintro rt9 w9 (⟨rfl, rfl⟩) _ _
  show Rch l E 2 39 _ _ _ _ (53, [some (vR 28), some (vI x), some (vI 24)], [vI (srt ((upI I 29 (I 28 0).toNat (bAnd (bUshr x 24) 255)) 29 (I 28 0).toNat)), vI (I 28 0), vR 30], MW b (upI I 29 (I 28 0).toNat (bAnd (bUshr x 24) 255)) L)
  refine rch_run rfl (by decide) 10 (t' := (4, [some (vR 28), some (vI x), some (vI 16)], [vI 16], MW b (upI (upI (upI I 29 (I 28 0).toNat (bAnd (bUshr x 24) 255)) 30 (I 28 0).toNat (srt ((upI I 29 (I 28 0).toNat (bAnd (bUshr x 24) 255)) 29 (I 28 0).toNat))) 28 0 ((I 28 0) + 1)) L)) (ps := [0 ≤ I 28 0 ∧ I 28 0 < ((500 : Nat) : Int), i32 ((I 28 0) + 1), i32 16]) rfl (by simp only [all_, i32, i64]; first | omega | (simp; done) | (simp; omega)) ?_
  refine rch_br rfl (cd := (16 : Int) < 0) (t1 := (70, [some (vR 28), some (vI x), some (vI 16)], [], MW b (upI (upI (upI I 29 (I 28 0).toNat (bAnd (bUshr x 24) 255)) 30 (I 28 0).toNat (srt ((upI I 29 (I 28 0).toNat (bAnd (bUshr x 24) 255)) 29 (I 28 0).toNat))) 28 0 ((I 28 0) + 1)) L)) (t2 := (7, [some (vR 28), some (vI x), some (vI 16)], [], MW b (upI (upI (upI I 29 (I 28 0).toNat (bAnd (bUshr x 24) 255)) 30 (I 28 0).toNat (srt ((upI I 29 (I 28 0).toNat (bAnd (bUshr x 24) 255)) 29 (I 28 0).toNat))) 28 0 ((I 28 0) + 1)) L)) rfl (fun c9 => absurd c9 (by decide)) (fun _ => ?_)
  refine rch_run rfl (by decide) 3 (t' := (14, [some (vR 28), some (vI x), some (vI 16)], [vI 500, vI ((I 28 0) + 1)], MW b (upI (upI (upI I 29 (I 28 0).toNat (bAnd (bUshr x 24) 255)) 30 (I 28 0).toNat (srt ((upI I 29 (I 28 0).toNat (bAnd (bUshr x 24) 255)) 29 (I 28 0).toNat))) 28 0 ((I 28 0) + 1)) L)) (ps := []) rfl trivial ?_
  refine rch_br rfl (cd := (500 : Int) ≤ (I 28 0) + 1) (t1 := (64, [some (vR 28), some (vI x), some (vI 16)], [], MW b (upI (upI (upI I 29 (I 28 0).toNat (bAnd (bUshr x 24) 255)) 30 (I 28 0).toNat (srt ((upI I 29 (I 28 0).toNat (bAnd (bUshr x 24) 255)) 29 (I 28 0).toNat))) 28 0 ((I 28 0) + 1)) L)) (t2 := (17, [some (vR 28), some (vI x), some (vI 16)], [], MW b (upI (upI (upI I 29 (I 28 0).toNat (bAnd (bUshr x 24) 255)) 30 (I 28 0).toNat (srt ((upI I 29 (I 28 0).toNat (bAnd (bUshr x 24) 255)) 29 (I 28 0).toNat))) 28 0 ((I 28 0) + 1)) L)) rfl (fun c9 => by exfalso; omega) (fun c14_4 => ?_)
  refine rch_run rfl (by decide) 19 (t' := (50, [some (vR 28), some (vI x), some (vI 16)], [vI ((upI (upI (upI (upI I 29 (I 28 0).toNat (bAnd (bUshr x 24) 255)) 30 (I 28 0).toNat (srt ((upI I 29 (I 28 0).toNat (bAnd (bUshr x 24) 255)) 29 (I 28 0).toNat))) 28 0 ((I 28 0) + 1)) 29 ((I 28 0) + 1).toNat (bAnd (bUshr x 16) 255)) 29 ((I 28 0) + 1).toNat), vI ((I 28 0) + 1), vR 30], MW b (upI (upI (upI (upI I 29 (I 28 0).toNat (bAnd (bUshr x 24) 255)) 30 (I 28 0).toNat (srt ((upI I 29 (I 28 0).toNat (bAnd (bUshr x 24) 255)) 29 (I 28 0).toNat))) 28 0 ((I 28 0) + 1)) 29 ((I 28 0) + 1).toNat (bAnd (bUshr x 16) 255)) L)) (ps := [0 ≤ (I 28 0) + 1 ∧ (I 28 0) + 1 < ((500 : Nat) : Int), 0 ≤ (I 28 0) + 1 ∧ (I 28 0) + 1 < ((500 : Nat) : Int)]) rfl (by simp only [all_, i32, i64]; first | omega | (simp; done) | (simp; omega)) ?_
  refine rch_call (h' := 1) (k' := 40) (as := [vI ((upI (upI (upI (upI I 29 (I 28 0).toNat (bAnd (bUshr x 24) 255)) 30 (I 28 0).toNat (srt ((upI I 29 (I 28 0).toNat (bAnd (bUshr x 24) 255)) 29 (I 28 0).toNat))) 28 0 ((I 28 0) + 1)) 29 ((I 28 0) + 1).toNat (bAnd (bUshr x 16) 255)) 29 ((I 28 0) + 1).toNat)]) (t1 := (53, [some (vR 28), some (vI x), some (vI 16)], [vI ((I 28 0) + 1), vR 30], MW b (upI (upI (upI (upI I 29 (I 28 0).toNat (bAnd (bUshr x 24) 255)) 30 (I 28 0).toNat (srt ((upI I 29 (I 28 0).toNat (bAnd (bUshr x 24) 255)) 29 (I 28 0).toNat))) 28 0 ((I 28 0) + 1)) 29 ((I 28 0) + 1).toNat (bAnd (bUshr x 16) 255)) L)) rfl rfl (k_X6_sortOf l E b (upI (upI (upI (upI I 29 (I 28 0).toNat (bAnd (bUshr x 24) 255)) 30 (I 28 0).toNat (srt ((upI I 29 (I 28 0).toNat (bAnd (bUshr x 24) 255)) 29 (I 28 0).toNat))) 28 0 ((I 28 0) + 1)) 29 ((I 28 0) + 1).toNat (bAnd (bUshr x 16) 255)) L ((upI (upI (upI (upI I 29 (I 28 0).toNat (bAnd (bUshr x 24) 255)) 30 (I 28 0).toNat (srt ((upI I 29 (I 28 0).toNat (bAnd (bUshr x 24) 255)) 29 (I 28 0).toNat))) 28 0 ((I 28 0) + 1)) 29 ((I 28 0) + 1).toNat (bAnd (bUshr x 16) 255)) 29 ((I 28 0) + 1).toNat) ) (by decide) mw_le ?_
  rintro rt9 w9 (⟨rfl, rfl⟩) _ _
  show Rch l E 2 39 _ _ _ _ (53, [some (vR 28), some (vI x), some (vI 16)], [vI (srt ((upI (upI (upI (upI I 29 (I 28 0).toNat (bAnd (bUshr x 24) 255)) 30 (I 28 0).toNat (srt ((upI I 29 (I 28 0).toNat (bAnd (bUshr x 24) 255)) 29 (I 28 0).toNat))) 28 0 ((I 28 0) + 1)) 29 ((I 28 0) + 1).toNat (bAnd (bUshr x 16) 255)) 29 ((I 28 0) + 1).toNat)), vI ((I 28 0) + 1), vR 30], MW b (upI (upI (upI (upI I 29 (I 28 0).toNat (bAnd (bUshr x 24) 255)) 30 (I 28 0).toNat (srt ((upI I 29 (I 28 0).toNat (bAnd (bUshr x 24) 255)) 29 (I 28 0).toNat))) 28 0 ((I 28 0) + 1)) 29 ((I 28 0) + 1).toNat (bAnd (bUshr x 16) 255)) L)
  refine rch_run rfl (by decide) 10 (t' := (4, [some (vR 28), some (vI x), some (vI 8)], [vI 8], MW b (upI (upI (upI (upI (upI (upI I 29 (I 28 0).toNat (bAnd (bUshr x 24) 255)) 30 (I 28 0).toNat (srt ((upI I 29 (I 28 0).toNat (bAnd (bUshr x 24) 255)) 29 (I 28 0).toNat))) 28 0 ((I 28 0) + 1)) 29 ((I 28 0) + 1).toNat (bAnd (bUshr x 16) 255)) 30 ((I 28 0) + 1).toNat (srt ((upI (upI (upI (upI I 29 (I 28 0).toNat (bAnd (bUshr x 24) 255)) 30 (I 28 0).toNat (srt ((upI I 29 (I 28 0).toNat (bAnd (bUshr x 24) 255)) 29 (I 28 0).toNat))) 28 0 ((I 28 0) + 1)) 29 ((I 28 0) + 1).toNat (bAnd (bUshr x 16) 255)) 29 ((I 28 0) + 1).toNat))) 28 0 (((I 28 0) + 1) + 1)) L)) (ps := [0 ≤ (I 28 0) + 1 ∧ (I 28 0) + 1 < ((500 : Nat) : Int), i32 (((I 28 0) + 1) + 1), i32 8]) rfl (by simp only [all_, i32, i64]; first | omega | (simp; done) | (simp; omega)) ?_
  refine rch_br rfl (cd := (8 : Int) < 0) (t1 := (70, [some (vR 28), some (vI x), some (vI 8)], [], MW b (upI (upI (upI (upI (upI (upI I 29 (I 28 0).toNat (bAnd (bUshr x 24) 255)) 30 (I 28 0).toNat (srt ((upI I 29 (I 28 0).toNat (bAnd (bUshr x 24) 255)) 29 (I 28 0).toNat))) 28 0 ((I 28 0) + 1)) 29 ((I 28 0) + 1).toNat (bAnd (bUshr x 16) 255)) 30 ((I 28 0) + 1).toNat (srt ((upI (upI (upI (upI I 29 (I 28 0).toNat (bAnd (bUshr x 24) 255)) 30 (I 28 0).toNat (srt ((upI I 29 (I 28 0).toNat (bAnd (bUshr x 24) 255)) 29 (I 28 0).toNat))) 28 0 ((I 28 0) + 1)) 29 ((I 28 0) + 1).toNat (bAnd (bUshr x 16) 255)) 29 ((I 28 0) + 1).toNat))) 28 0 (((I 28 0) + 1) + 1)) L)) (t2 := (7, [some (vR 28), some (vI x), some (vI 8)], [], MW b (upI (upI (upI (upI (upI (upI I 29 (I 28 0).toNat (bAnd (bUshr x 24) 255)) 30 (I 28 0).toNat (srt ((upI I 29 (I 28 0).toNat (bAnd (bUshr x 24) 255)) 29 (I 28 0).toNat))) 28 0 ((I 28 0) + 1)) 29 ((I 28 0) + 1).toNat (bAnd (bUshr x 16) 255)) 30 ((I 28 0) + 1).toNat (srt ((upI (upI (upI (upI I 29 (I 28 0).toNat (bAnd (bUshr x 24) 255)) 30 (I 28 0).toNat (srt ((upI I 29 (I 28 0).toNat (bAnd (bUshr x 24) 255)) 29 (I 28 0).toNat))) 28 0 ((I 28 0) + 1)) 29 ((I 28 0) + 1).toNat (bAnd (bUshr x 16) 255)) 29 ((I 28 0) + 1).toNat))) 28 0 (((I 28 0) + 1) + 1)) L)) rfl (fun c9 => absurd c9 (by decide)) (fun _ => ?_)
  refine rch_run rfl (by decide) 3 (t' := (14, [some (vR 28), some (vI x), some (vI 8)], [vI 500, vI (((I 28 0) + 1) + 1)], MW b (upI (upI (upI (upI (upI (upI I 29 (I 28 0).toNat (bAnd (bUshr x 24) 255)) 30 (I 28 0).toNat (srt ((upI I 29 (I 28 0).toNat (bAnd (bUshr x 24) 255)) 29 (I 28 0).toNat))) 28 0 ((I 28 0) + 1)) 29 ((I 28 0) + 1).toNat (bAnd (bUshr x 16) 255)) 30 ((I 28 0) + 1).toNat (srt ((upI (upI (upI (upI I 29 (I 28 0).toNat (bAnd (bUshr x 24) 255)) 30 (I 28 0).toNat (srt ((upI I 29 (I 28 0).toNat (bAnd (bUshr x 24) 255)) 29 (I 28 0).toNat))) 28 0 ((I 28 0) + 1)) 29 ((I 28 0) + 1).toNat (bAnd (bUshr x 16) 255)) 29 ((I 28 0) + 1).toNat))) 28 0 (((I 28 0) + 1) + 1)) L)) (ps := []) rfl trivial ?_
  refine rch_br rfl (cd := (500 : Int) ≤ ((I 28 0) + 1) + 1) (t1 := (64, [some (vR 28), some (vI x), some (vI 8)], [], MW b (upI (upI (upI (upI (upI (upI I 29 (I 28 0).toNat (bAnd (bUshr x 24) 255)) 30 (I 28 0).toNat (srt ((upI I 29 (I 28 0).toNat (bAnd (bUshr x 24) 255)) 29 (I 28 0).toNat))) 28 0 ((I 28 0) + 1)) 29 ((I 28 0) + 1).toNat (bAnd (bUshr x 16) 255)) 30 ((I 28 0) + 1).toNat (srt ((upI (upI (upI (upI I 29 (I 28 0).toNat (bAnd (bUshr x 24) 255)) 30 (I 28 0).toNat (srt ((upI I 29 (I 28 0).toNat (bAnd (bUshr x 24) 255)) 29 (I 28 0).toNat))) 28 0 ((I 28 0) + 1)) 29 ((I 28 0) + 1).toNat (bAnd (bUshr x 16) 255)) 29 ((I 28 0) + 1).toNat))) 28 0 (((I 28 0) + 1) + 1)) L)) (t2 := (17, [some (vR 28), some (vI x), some (vI 8)], [], MW b (upI (upI (upI (upI (upI (upI I 29 (I 28 0).toNat (bAnd (bUshr x 24) 255)) 30 (I 28 0).toNat (srt ((upI I 29 (I 28 0).toNat (bAnd (bUshr x 24) 255)) 29 (I 28 0).toNat))) 28 0 ((I 28 0) + 1)) 29 ((I 28 0) + 1).toNat (bAnd (bUshr x 16) 255)) 30 ((I 28 0) + 1).toNat (srt ((upI (upI (upI (upI I 29 (I 28 0).toNat (bAnd (bUshr x 24) 255)) 30 (I 28 0).toNat (srt ((upI I 29 (I 28 0).toNat (bAnd (bUshr x 24) 255)) 29 (I 28 0).toNat))) 28 0 ((I 28 0) + 1)) 29 ((I 28 0) + 1).toNat (bAnd (bUshr x 16) 255)) 29 ((I 28 0) + 1).toNat))) 28 0 (((I 28 0) + 1) + 1)) L)) rfl (fun c9 => by exfalso; omega) (fun c14_6 => ?_)
  refine rch_run rfl (by decide) 19 (t' := (50, [some (vR 28), some (vI x), some (vI 8)], [vI ((upI (upI (upI (upI (upI (upI (upI I 29 (I 28 0).toNat (bAnd (bUshr x 24) 255)) 30 (I 28 0).toNat (srt ((upI I 29 (I 28 0).toNat (bAnd (bUshr x 24) 255)) 29 (I 28 0).toNat))) 28 0 ((I 28 0) + 1)) 29 ((I 28 0) + 1).toNat (bAnd (bUshr x 16) 255)) 30 ((I 28 0) + 1).toNat (srt ((upI (upI (upI (upI I 29 (I 28 0).toNat (bAnd (bUshr x 24) 255)) 30 (I 28 0).toNat (srt ((upI I 29 (I 28 0).toNat (bAnd (bUshr x 24) 255)) 29 (I 28 0).toNat))) 28 0 ((I 28 0) + 1)) 29 ((I 28 0) + 1).toNat (bAnd (bUshr x 16) 255)) 29 ((I 28 0) + 1).toNat))) 28 0 (((I 28 0) + 1) + 1)) 29 (((I 28 0) + 1) + 1).toNat (bAnd (bUshr x 8) 255)) 29 (((I 28 0) + 1) + 1).toNat), vI (((I 28 0) + 1) + 1), vR 30], MW b (upI (upI (upI (upI (upI (upI (upI I 29 (I 28 0).toNat (bAnd (bUshr x 24) 255)) 30 (I 28 0).toNat (srt ((upI I 29 (I 28 0).toNat (bAnd (bUshr x 24) 255)) 29 (I 28 0).toNat))) 28 0 ((I 28 0) + 1)) 29 ((I 28 0) + 1).toNat (bAnd (bUshr x 16) 255)) 30 ((I 28 0) + 1).toNat (srt ((upI (upI (upI (upI I 29 (I 28 0).toNat (bAnd (bUshr x 24) 255)) 30 (I 28 0).toNat (srt ((upI I 29 (I 28 0).toNat (bAnd (bUshr x 24) 255)) 29 (I 28 0).toNat))) 28 0 ((I 28 0) + 1)) 29 ((I 28 0) + 1).toNat (bAnd (bUshr x 16) 255)) 29 ((I 28 0) + 1).toNat))) 28 0 (((I 28 0) + 1) + 1)) 29 (((I 28 0) + 1) + 1).toNat (bAnd (bUshr x 8) 255)) L)) (ps := [0 ≤ ((I 28 0) + 1) + 1 ∧ ((I 28 0) + 1) + 1 < ((500 : Nat) : Int), 0 ≤ ((I 28 0) + 1) + 1 ∧ ((I 28 0) + 1) + 1 < ((500 : Nat) : Int)]) rfl (by simp only [all_, i32, i64]; first | omega | (simp; done) | (simp; omega)) ?_
  refine rch_call (h' := 1) (k' := 40) (as := [vI ((upI (upI (upI (upI (upI (upI (upI I 29 (I 28 0).toNat (bAnd (bUshr x 24) 255)) 30 (I 28 0).toNat (srt ((upI I 29 (I 28 0).toNat (bAnd (bUshr x 24) 255)) 29 (I 28 0).toNat))) 28 0 ((I 28 0) + 1)) 29 ((I 28 0) + 1).toNat (bAnd (bUshr x 16) 255)) 30 ((I 28 0) + 1).toNat (srt ((upI (upI (upI (upI I 29 (I 28 0).toNat (bAnd (bUshr x 24) 255)) 30 (I 28 0).toNat (srt ((upI I 29 (I 28 0).toNat (bAnd (bUshr x 24) 255)) 29 (I 28 0).toNat))) 28 0 ((I 28 0) + 1)) 29 ((I 28 0) + 1).toNat (bAnd (bUshr x 16) 255)) 29 ((I 28 0) + 1).toNat))) 28 0 (((I 28 0) + 1) + 1)) 29 (((I 28 0) + 1) + 1).toNat (bAnd (bUshr x 8) 255)) 29 (((I 28 0) + 1) + 1).toNat)]) (t1 := (53, [some (vR 28), some (vI x), some (vI 8)], [vI (((I 28 0) + 1) + 1), vR 30], MW b (upI (upI (upI (upI (upI (upI (upI I 29 (I 28 0).toNat (bAnd (bUshr x 24) 255)) 30 (I 28 0).toNat (srt ((upI I 29 (I 28 0).toNat (bAnd (bUshr x 24) 255)) 29 (I 28 0).toNat))) 28 0 ((I 28 0) + 1)) 29 ((I 28 0) + 1).toNat (bAnd (bUshr x 16) 255)) 30 ((I 28 0) + 1).toNat (srt ((upI (upI (upI (upI I 29 (I 28 0).toNat (bAnd (bUshr x 24) 255)) 30 (I 28 0).toNat (srt ((upI I 29 (I 28 0).toNat (bAnd (bUshr x 24) 255)) 29 (I 28 0).toNat))) 28 0 ((I 28 0) + 1)) 29 ((I 28 0) + 1).toNat (bAnd (bUshr x 16) 255)) 29 ((I 28 0) + 1).toNat))) 28 0 (((I 28 0) + 1) + 1)) 29 (((I 28 0) + 1) + 1).toNat (bAnd (bUshr x 8) 255)) L)) rfl rfl (k_X6_sortOf l E b (upI (upI (upI (upI (upI (upI (upI I 29 (I 28 0).toNat (bAnd (bUshr x 24) 255)) 30 (I 28 0).toNat (srt ((upI I 29 (I 28 0).toNat (bAnd (bUshr x 24) 255)) 29 (I 28 0).toNat))) 28 0 ((I 28 0) + 1)) 29 ((I 28 0) + 1).toNat (bAnd (bUshr x 16) 255)) 30 ((I 28 0) + 1).toNat (srt ((upI (upI (upI (upI I 29 (I 28 0).toNat (bAnd (bUshr x 24) 255)) 30 (I 28 0).toNat (srt ((upI I 29 (I 28 0).toNat (bAnd (bUshr x 24) 255)) 29 (I 28 0).toNat))) 28 0 ((I 28 0) + 1)) 29 ((I 28 0) + 1).toNat (bAnd (bUshr x 16) 255)) 29 ((I 28 0) + 1).toNat))) 28 0 (((I 28 0) + 1) + 1)) 29 (((I 28 0) + 1) + 1).toNat (bAnd (bUshr x 8) 255)) L ((upI (upI (upI (upI (upI (upI (upI I 29 (I 28 0).toNat (bAnd (bUshr x 24) 255)) 30 (I 28 0).toNat (srt ((upI I 29 (I 28 0).toNat (bAnd (bUshr x 24) 255)) 29 (I 28 0).toNat))) 28 0 ((I 28 0) + 1)) 29 ((I 28 0) + 1).toNat (bAnd (bUshr x 16) 255)) 30 ((I 28 0) + 1).toNat (srt ((upI (upI (upI (upI I 29 (I 28 0).toNat (bAnd (bUshr x 24) 255)) 30 (I 28 0).toNat (srt ((upI I 29 (I 28 0).toNat (bAnd (bUshr x 24) 255)) 29 (I 28 0).toNat))) 28 0 ((I 28 0) + 1)) 29 ((I 28 0) + 1).toNat (bAnd (bUshr x 16) 255)) 29 ((I 28 0) + 1).toNat))) 28 0 (((I 28 0) + 1) + 1)) 29 (((I 28 0) + 1) + 1).toNat (bAnd (bUshr x 8) 255)) 29 (((I 28 0) + 1) + 1).toNat) ) (by decide) mw_le ?_
  rintro rt9 w9 (⟨rfl, rfl⟩) _ _
  show Rch l E 2 39 _ _ _ _ (53, [some (vR 28), some (vI x), some (vI 8)], [vI (srt ((upI (upI (upI (upI (upI (upI (upI I 29 (I 28 0).toNat (bAnd (bUshr x 24) 255)) 30 (I 28 0).toNat (srt ((upI I 29 (I 28 0).toNat (bAnd (bUshr x 24) 255)) 29 (I 28 0).toNat))) 28 0 ((I 28 0) + 1)) 29 ((I 28 0) + 1).toNat (bAnd (bUshr x 16) 255)) 30 ((I 28 0) + 1).toNat (srt ((upI (upI (upI (upI I 29 (I 28 0).toNat (bAnd (bUshr x 24) 255)) 30 (I 28 0).toNat (srt ((upI I 29 (I 28 0).toNat (bAnd (bUshr x 24) 255)) 29 (I 28 0).toNat))) 28 0 ((I 28 0) + 1)) 29 ((I 28 0) + 1).toNat (bAnd (bUshr x 16) 255)) 29 ((I 28 0) + 1).toNat))) 28 0 (((I 28 0) + 1) + 1)) 29 (((I 28 0) + 1) + 1).toNat (bAnd (bUshr x 8) 255)) 29 (((I 28 0) + 1) + 1).toNat)), vI (((I 28 0) + 1) + 1), vR 30], MW b (upI (upI (upI (upI (upI (upI (upI I 29 (I 28 0).toNat (bAnd (bUshr x 24) 255)) 30 (I 28 0).toNat (srt ((upI I 29 (I 28 0).toNat (bAnd (bUshr x 24) 255)) 29 (I 28 0).toNat))) 28 0 ((I 28 0) + 1)) 29 ((I 28 0) + 1).toNat (bAnd (bUshr x 16) 255)) 30 ((I 28 0) + 1).toNat (srt ((upI (upI (upI (upI I 29 (I 28 0).toNat (bAnd (bUshr x 24) 255)) 30 (I 28 0).toNat (srt ((upI I 29 (I 28 0).toNat (bAnd (bUshr x 24) 255)) 29 (I 28 0).toNat))) 28 0 ((I 28 0) + 1)) 29 ((I 28 0) + 1).toNat (bAnd (bUshr x 16) 255)) 29 ((I 28 0) + 1).toNat))) 28 0 (((I 28 0) + 1) + 1)) 29 (((I 28 0) + 1) + 1).toNat (bAnd (bUshr x 8) 255)) L)
  refine rch_run rfl (by decide) 10 (t' := (4, [some (vR 28), some (vI x), some (vI 0)], [vI 0], MW b (upI (upI (upI (upI (upI (upI (upI (upI (upI I 29 (I 28 0).toNat (bAnd (bUshr x 24) 255)) 30 (I 28 0).toNat (srt ((upI I 29 (I 28 0).toNat (bAnd (bUshr x 24) 255)) 29 (I 28 0).toNat))) 28 0 ((I 28 0) + 1)) 29 ((I 28 0) + 1).toNat (bAnd (bUshr x 16) 255)) 30 ((I 28 0) + 1).toNat (srt ((upI (upI (upI (upI I 29 (I 28 0).toNat (bAnd (bUshr x 24) 255)) 30 (I 28 0).toNat (srt ((upI I 29 (I 28 0).toNat (bAnd (bUshr x 24) 255)) 29 (I 28 0).toNat))) 28 0 ((I 28 0) + 1)) 29 ((I 28 0) + 1).toNat (bAnd (bUshr x 16) 255)) 29 ((I 28 0) + 1).toNat))) 28 0 (((I 28 0) + 1) + 1)) 29 (((I 28 0) + 1) + 1).toNat (bAnd (bUshr x 8) 255)) 30 (((I 28 0) + 1) + 1).toNat (srt ((upI (upI (upI (upI (upI (upI (upI I 29 (I 28 0).toNat (bAnd (bUshr x 24) 255)) 30 (I 28 0).toNat (srt ((upI I 29 (I 28 0).toNat (bAnd (bUshr x 24) 255)) 29 (I 28 0).toNat))) 28 0 ((I 28 0) + 1)) 29 ((I 28 0) + 1).toNat (bAnd (bUshr x 16) 255)) 30 ((I 28 0) + 1).toNat (srt ((upI (upI (upI (upI I 29 (I 28 0).toNat (bAnd (bUshr x 24) 255)) 30 (I 28 0).toNat (srt ((upI I 29 (I 28 0).toNat (bAnd (bUshr x 24) 255)) 29 (I 28 0).toNat))) 28 0 ((I 28 0) + 1)) 29 ((I 28 0) + 1).toNat (bAnd (bUshr x 16) 255)) 29 ((I 28 0) + 1).toNat))) 28 0 (((I 28 0) + 1) + 1)) 29 (((I 28 0) + 1) + 1).toNat (bAnd (bUshr x 8) 255)) 29 (((I 28 0) + 1) + 1).toNat))) 28 0 ((((I 28 0) + 1) + 1) + 1)) L)) (ps := [0 ≤ ((I 28 0) + 1) + 1 ∧ ((I 28 0) + 1) + 1 < ((500 : Nat) : Int), i32 ((((I 28 0) + 1) + 1) + 1), i32 0]) rfl (by simp only [all_, i32, i64]; first | omega | (simp; done) | (simp; omega)) ?_
  refine rch_br rfl (cd := (0 : Int) < 0) (t1 := (70, [some (vR 28), some (vI x), some (vI 0)], [], MW b (upI (upI (upI (upI (upI (upI (upI (upI (upI I 29 (I 28 0).toNat (bAnd (bUshr x 24) 255)) 30 (I 28 0).toNat (srt ((upI I 29 (I 28 0).toNat (bAnd (bUshr x 24) 255)) 29 (I 28 0).toNat))) 28 0 ((I 28 0) + 1)) 29 ((I 28 0) + 1).toNat (bAnd (bUshr x 16) 255)) 30 ((I 28 0) + 1).toNat (srt ((upI (upI (upI (upI I 29 (I 28 0).toNat (bAnd (bUshr x 24) 255)) 30 (I 28 0).toNat (srt ((upI I 29 (I 28 0).toNat (bAnd (bUshr x 24) 255)) 29 (I 28 0).toNat))) 28 0 ((I 28 0) + 1)) 29 ((I 28 0) + 1).toNat (bAnd (bUshr x 16) 255)) 29 ((I 28 0) + 1).toNat))) 28 0 (((I 28 0) + 1) + 1)) 29 (((I 28 0) + 1) + 1).toNat (bAnd (bUshr x 8) 255)) 30 (((I 28 0) + 1) + 1).toNat (srt ((upI (upI (upI (upI (upI (upI (upI I 29 (I 28 0).toNat (bAnd (bUshr x 24) 255)) 30 (I 28 0).toNat (srt ((upI I 29 (I 28 0).toNat (bAnd (bUshr x 24) 255)) 29 (I 28 0).toNat))) 28 0 ((I 28 0) + 1)) 29 ((I 28 0) + 1).toNat (bAnd (bUshr x 16) 255)) 30 ((I 28 0) + 1).toNat (srt ((upI (upI (upI (upI I 29 (I 28 0).toNat (bAnd (bUshr x 24) 255)) 30 (I 28 0).toNat (srt ((upI I 29 (I 28 0).toNat (bAnd (bUshr x 24) 255)) 29 (I 28 0).toNat))) 28 0 ((I 28 0) + 1)) 29 ((I 28 0) + 1).toNat (bAnd (bUshr x 16) 255)) 29 ((I 28 0) + 1).toNat))) 28 0 (((I 28 0) + 1) + 1)) 29 (((I 28 0) + 1) + 1).toNat (bAnd (bUshr x 8) 255)) 29 (((I 28 0) + 1) + 1).toNat))) 28 0 ((((I 28 0) + 1) + 1) + 1)) L)) (t2 := (7, [some (vR 28), some (vI x), some (vI 0)], [], MW b (upI (upI (upI (upI (upI (upI (upI (upI (upI I 29 (I 28 0).toNat (bAnd (bUshr x 24) 255)) 30 (I 28 0).toNat (srt ((upI I 29 (I 28 0).toNat (bAnd (bUshr x 24) 255)) 29 (I 28 0).toNat))) 28 0 ((I 28 0) + 1)) 29 ((I 28 0) + 1).toNat (bAnd (bUshr x 16) 255)) 30 ((I 28 0) + 1).toNat (srt ((upI (upI (upI (upI I 29 (I 28 0).toNat (bAnd (bUshr x 24) 255)) 30 (I 28 0).toNat (srt ((upI I 29 (I 28 0).toNat (bAnd (bUshr x 24) 255)) 29 (I 28 0).toNat))) 28 0 ((I 28 0) + 1)) 29 ((I 28 0) + 1).toNat (bAnd (bUshr x 16) 255)) 29 ((I 28 0) + 1).toNat))) 28 0 (((I 28 0) + 1) + 1)) 29 (((I 28 0) + 1) + 1).toNat (bAnd (bUshr x 8) 255)) 30 (((I 28 0) + 1) + 1).toNat (srt ((upI (upI (upI (upI (upI (upI (upI I 29 (I 28 0).toNat (bAnd (bUshr x 24) 255)) 30 (I 28 0).toNat (srt ((upI I 29 (I 28 0).toNat (bAnd (bUshr x 24) 255)) 29 (I 28 0).toNat))) 28 0 ((I 28 0) + 1)) 29 ((I 28 0) + 1).toNat (bAnd (bUshr x 16) 255)) 30 ((I 28 0) + 1).toNat (srt ((upI (upI (upI (upI I 29 (I 28 0).toNat (bAnd (bUshr x 24) 255)) 30 (I 28 0).toNat (srt ((upI I 29 (I 28 0).toNat (bAnd (bUshr x 24) 255)) 29 (I 28 0).toNat))) 28 0 ((I 28 0) + 1)) 29 ((I 28 0) + 1).toNat (bAnd (bUshr x 16) 255)) 29 ((I 28 0) + 1).toNat))) 28 0 (((I 28 0) + 1) + 1)) 29 (((I 28 0) + 1) + 1).toNat (bAnd (bUshr x 8) 255)) 29 (((I 28 0) + 1) + 1).toNat))) 28 0 ((((I 28 0) + 1) + 1) + 1)) L)) rfl (fun c9 => absurd c9 (by decide)) (fun _ => ?_)
  refine rch_run rfl (by decide) 3 (t' := (14, [some (vR 28), some (vI x), some (vI 0)], [vI 500, vI ((((I 28 0) + 1) + 1) + 1)], MW b (upI (upI (upI (upI (upI (upI (upI (upI (upI I 29 (I 28 0).toNat (bAnd (bUshr x 24) 255)) 30 (I 28 0).toNat (srt ((upI I 29 (I 28 0).toNat (bAnd (bUshr x 24) 255)) 29 (I 28 0).toNat))) 28 0 ((I 28 0) + 1)) 29 ((I 28 0) + 1).toNat (bAnd (bUshr x 16) 255)) 30 ((I 28 0) + 1).toNat (srt ((upI (upI (upI (upI I 29 (I 28 0).toNat (bAnd (bUshr x 24) 255)) 30 (I 28 0).toNat (srt ((upI I 29 (I 28 0).toNat (bAnd (bUshr x 24) 255)) 29 (I 28 0).toNat))) 28 0 ((I 28 0) + 1)) 29 ((I 28 0) + 1).toNat (bAnd (bUshr x 16) 255)) 29 ((I 28 0) + 1).toNat))) 28 0 (((I 28 0) + 1) + 1)) 29 (((I 28 0) + 1) + 1).toNat (bAnd (bUshr x 8) 255)) 30 (((I 28 0) + 1) + 1).toNat (srt ((upI (upI (upI (upI (upI (upI (upI I 29 (I 28 0).toNat (bAnd (bUshr x 24) 255)) 30 (I 28 0).toNat (srt ((upI I 29 (I 28 0).toNat (bAnd (bUshr x 24) 255)) 29 (I 28 0).toNat))) 28 0 ((I 28 0) + 1)) 29 ((I 28 0) + 1).toNat (bAnd (bUshr x 16) 255)) 30 ((I 28 0) + 1).toNat (srt ((upI (upI (upI (upI I 29 (I 28 0).toNat (bAnd (bUshr x 24) 255)) 30 (I 28 0).toNat (srt ((upI I 29 (I 28 0).toNat (bAnd (bUshr x 24) 255)) 29 (I 28 0).toNat))) 28 0 ((I 28 0) + 1)) 29 ((I 28 0) + 1).toNat (bAnd (bUshr x 16) 255)) 29 ((I 28 0) + 1).toNat))) 28 0 (((I 28 0) + 1) + 1)) 29 (((I 28 0) + 1) + 1).toNat (bAnd (bUshr x 8) 255)) 29 (((I 28 0) + 1) + 1).toNat))) 28 0 ((((I 28 0) + 1) + 1) + 1)) L)) (ps := []) rfl trivial ?_
  refine rch_br rfl (cd := (500 : Int) ≤ (((I 28 0) + 1) + 1) + 1) (t1 := (64, [some (vR 28), some (vI x), some (vI 0)], [], MW b (upI (upI (upI (upI (upI (upI (upI (upI (upI I 29 (I 28 0).toNat (bAnd (bUshr x 24) 255)) 30 (I 28 0).toNat (srt ((upI I 29 (I 28 0).toNat (bAnd (bUshr x 24) 255)) 29 (I 28 0).toNat))) 28 0 ((I 28 0) + 1)) 29 ((I 28 0) + 1).toNat (bAnd (bUshr x 16) 255)) 30 ((I 28 0) + 1).toNat (srt ((upI (upI (upI (upI I 29 (I 28 0).toNat (bAnd (bUshr x 24) 255)) 30 (I 28 0).toNat (srt ((upI I 29 (I 28 0).toNat (bAnd (bUshr x 24) 255)) 29 (I 28 0).toNat))) 28 0 ((I 28 0) + 1)) 29 ((I 28 0) + 1).toNat (bAnd (bUshr x 16) 255)) 29 ((I 28 0) + 1).toNat))) 28 0 (((I 28 0) + 1) + 1)) 29 (((I 28 0) + 1) + 1).toNat (bAnd (bUshr x 8) 255)) 30 (((I 28 0) + 1) + 1).toNat (srt ((upI (upI (upI (upI (upI (upI (upI I 29 (I 28 0).toNat (bAnd (bUshr x 24) 255)) 30 (I 28 0).toNat (srt ((upI I 29 (I 28 0).toNat (bAnd (bUshr x 24) 255)) 29 (I 28 0).toNat))) 28 0 ((I 28 0) + 1)) 29 ((I 28 0) + 1).toNat (bAnd (bUshr x 16) 255)) 30 ((I 28 0) + 1).toNat (srt ((upI (upI (upI (upI I 29 (I 28 0).toNat (bAnd (bUshr x 24) 255)) 30 (I 28 0).toNat (srt ((upI I 29 (I 28 0).toNat (bAnd (bUshr x 24) 255)) 29 (I 28 0).toNat))) 28 0 ((I 28 0) + 1)) 29 ((I 28 0) + 1).toNat (bAnd (bUshr x 16) 255)) 29 ((I 28 0) + 1).toNat))) 28 0 (((I 28 0) + 1) + 1)) 29 (((I 28 0) + 1) + 1).toNat (bAnd (bUshr x 8) 255)) 29 (((I 28 0) + 1) + 1).toNat))) 28 0 ((((I 28 0) + 1) + 1) + 1)) L)) (t2 := (17, [some (vR 28), some (vI x), some (vI 0)], [], MW b (upI (upI (upI (upI (upI (upI (upI (upI (upI I 29 (I 28 0).toNat (bAnd (bUshr x 24) 255)) 30 (I 28 0).toNat (srt ((upI I 29 (I 28 0).toNat (bAnd (bUshr x 24) 255)) 29 (I 28 0).toNat))) 28 0 ((I 28 0) + 1)) 29 ((I 28 0) + 1).toNat (bAnd (bUshr x 16) 255)) 30 ((I 28 0) + 1).toNat (srt ((upI (upI (upI (upI I 29 (I 28 0).toNat (bAnd (bUshr x 24) 255)) 30 (I 28 0).toNat (srt ((upI I 29 (I 28 0).toNat (bAnd (bUshr x 24) 255)) 29 (I 28 0).toNat))) 28 0 ((I 28 0) + 1)) 29 ((I 28 0) + 1).toNat (bAnd (bUshr x 16) 255)) 29 ((I 28 0) + 1).toNat))) 28 0 (((I 28 0) + 1) + 1)) 29 (((I 28 0) + 1) + 1).toNat (bAnd (bUshr x 8) 255)) 30 (((I 28 0) + 1) + 1).toNat (srt ((upI (upI (upI (upI (upI (upI (upI I 29 (I 28 0).toNat (bAnd (bUshr x 24) 255)) 30 (I 28 0).toNat (srt ((upI I 29 (I 28 0).toNat (bAnd (bUshr x 24) 255)) 29 (I 28 0).toNat))) 28 0 ((I 28 0) + 1)) 29 ((I 28 0) + 1).toNat (bAnd (bUshr x 16) 255)) 30 ((I 28 0) + 1).toNat (srt ((upI (upI (upI (upI I 29 (I 28 0).toNat (bAnd (bUshr x 24) 255)) 30 (I 28 0).toNat (srt ((upI I 29 (I 28 0).toNat (bAnd (bUshr x 24) 255)) 29 (I 28 0).toNat))) 28 0 ((I 28 0) + 1)) 29 ((I 28 0) + 1).toNat (bAnd (bUshr x 16) 255)) 29 ((I 28 0) + 1).toNat))) 28 0 (((I 28 0) + 1) + 1)) 29 (((I 28 0) + 1) + 1).toNat (bAnd (bUshr x 8) 255)) 29 (((I 28 0) + 1) + 1).toNat))) 28 0 ((((I 28 0) + 1) + 1) + 1)) L)) rfl (fun c9 => by exfalso; omega) (fun c14_8 => ?_)
  refine rch_run rfl (by decide) 19 (t' := (50, [some (vR 28), some (vI x), some (vI 0)], [vI ((upI (upI (upI (upI (upI (upI (upI (upI (upI (upI I 29 (I 28 0).toNat (bAnd (bUshr x 24) 255)) 30 (I 28 0).toNat (srt ((upI I 29 (I 28 0).toNat (bAnd (bUshr x 24) 255)) 29 (I 28 0).toNat))) 28 0 ((I 28 0) + 1)) 29 ((I 28 0) + 1).toNat (bAnd (bUshr x 16) 255)) 30 ((I 28 0) + 1).toNat (srt ((upI (upI (upI (upI I 29 (I 28 0).toNat (bAnd (bUshr x 24) 255)) 30 (I 28 0).toNat (srt ((upI I 29 (I 28 0).toNat (bAnd (bUshr x 24) 255)) 29 (I 28 0).toNat))) 28 0 ((I 28 0) + 1)) 29 ((I 28 0) + 1).toNat (bAnd (bUshr x 16) 255)) 29 ((I 28 0) + 1).toNat))) 28 0 (((I 28 0) + 1) + 1)) 29 (((I 28 0) + 1) + 1).toNat (bAnd (bUshr x 8) 255)) 30 (((I 28 0) + 1) + 1).toNat (srt ((upI (upI (upI (upI (upI (upI (upI I 29 (I 28 0).toNat (bAnd (bUshr x 24) 255)) 30 (I 28 0).toNat (srt ((upI I 29 (I 28 0).toNat (bAnd (bUshr x 24) 255)) 29 (I 28 0).toNat))) 28 0 ((I 28 0) + 1)) 29 ((I 28 0) + 1).toNat (bAnd (bUshr x 16) 255)) 30 ((I 28 0) + 1).toNat (srt ((upI (upI (upI (upI I 29 (I 28 0).toNat (bAnd (bUshr x 24) 255)) 30 (I 28 0).toNat (srt ((upI I 29 (I 28 0).toNat (bAnd (bUshr x 24) 255)) 29 (I 28 0).toNat))) 28 0 ((I 28 0) + 1)) 29 ((I 28 0) + 1).toNat (bAnd (bUshr x 16) 255)) 29 ((I 28 0) + 1).toNat))) 28 0 (((I 28 0) + 1) + 1)) 29 (((I 28 0) + 1) + 1).toNat (bAnd (bUshr x 8) 255)) 29 (((I 28 0) + 1) + 1).toNat))) 28 0 ((((I 28 0) + 1) + 1) + 1)) 29 ((((I 28 0) + 1) + 1) + 1).toNat (bAnd (bUshr x 0) 255)) 29 ((((I 28 0) + 1) + 1) + 1).toNat), vI ((((I 28 0) + 1) + 1) + 1), vR 30], MW b (upI (upI (upI (upI (upI (upI (upI (upI (upI (upI I 29 (I 28 0).toNat (bAnd (bUshr x 24) 255)) 30 (I 28 0).toNat (srt ((upI I 29 (I 28 0).toNat (bAnd (bUshr x 24) 255)) 29 (I 28 0).toNat))) 28 0 ((I 28 0) + 1)) 29 ((I 28 0) + 1).toNat (bAnd (bUshr x 16) 255)) 30 ((I 28 0) + 1).toNat (srt ((upI (upI (upI (upI I 29 (I 28 0).toNat (bAnd (bUshr x 24) 255)) 30 (I 28 0).toNat (srt ((upI I 29 (I 28 0).toNat (bAnd (bUshr x 24) 255)) 29 (I 28 0).toNat))) 28 0 ((I 28 0) + 1)) 29 ((I 28 0) + 1).toNat (bAnd (bUshr x 16) 255)) 29 ((I 28 0) + 1).toNat))) 28 0 (((I 28 0) + 1) + 1)) 29 (((I 28 0) + 1) + 1).toNat (bAnd (bUshr x 8) 255)) 30 (((I 28 0) + 1) + 1).toNat (srt ((upI (upI (upI (upI (upI (upI (upI I 29 (I 28 0).toNat (bAnd (bUshr x 24) 255)) 30 (I 28 0).toNat (srt ((upI I 29 (I 28 0).toNat (bAnd (bUshr x 24) 255)) 29 (I 28 0).toNat))) 28 0 ((I 28 0) + 1)) 29 ((I 28 0) + 1).toNat (bAnd (bUshr x 16) 255)) 30 ((I 28 0) + 1).toNat (srt ((upI (upI (upI (upI I 29 (I 28 0).toNat (bAnd (bUshr x 24) 255)) 30 (I 28 0).toNat (srt ((upI I 29 (I 28 0).toNat (bAnd (bUshr x 24) 255)) 29 (I 28 0).toNat))) 28 0 ((I 28 0) + 1)) 29 ((I 28 0) + 1).toNat (bAnd (bUshr x 16) 255)) 29 ((I 28 0) + 1).toNat))) 28 0 (((I 28 0) + 1) + 1)) 29 (((I 28 0) + 1) + 1).toNat (bAnd (bUshr x 8) 255)) 29 (((I 28 0) + 1) + 1).toNat))) 28 0 ((((I 28 0) + 1) + 1) + 1)) 29 ((((I 28 0) + 1) + 1) + 1).toNat (bAnd (bUshr x 0) 255)) L)) (ps := [0 ≤ (((I 28 0) + 1) + 1) + 1 ∧ (((I 28 0) + 1) + 1) + 1 < ((500 : Nat) : Int), 0 ≤ (((I 28 0) + 1) + 1) + 1 ∧ (((I 28 0) + 1) + 1) + 1 < ((500 : Nat) : Int)]) rfl (by simp only [all_, i32, i64]; first | omega | (simp; done) | (simp; omega)) ?_
  refine rch_call (h' := 1) (k' := 40) (as := [vI ((upI (upI (upI (upI (upI (upI (upI (upI (upI (upI I 29 (I 28 0).toNat (bAnd (bUshr x 24) 255)) 30 (I 28 0).toNat (srt ((upI I 29 (I 28 0).toNat (bAnd (bUshr x 24) 255)) 29 (I 28 0).toNat))) 28 0 ((I 28 0) + 1)) 29 ((I 28 0) + 1).toNat (bAnd (bUshr x 16) 255)) 30 ((I 28 0) + 1).toNat (srt ((upI (upI (upI (upI I 29 (I 28 0).toNat (bAnd (bUshr x 24) 255)) 30 (I 28 0).toNat (srt ((upI I 29 (I 28 0).toNat (bAnd (bUshr x 24) 255)) 29 (I 28 0).toNat))) 28 0 ((I 28 0) + 1)) 29 ((I 28 0) + 1).toNat (bAnd (bUshr x 16) 255)) 29 ((I 28 0) + 1).toNat))) 28 0 (((I 28 0) + 1) + 1)) 29 (((I 28 0) + 1) + 1).toNat (bAnd (bUshr x 8) 255)) 30 (((I 28 0) + 1) + 1).toNat (srt ((upI (upI (upI (upI (upI (upI (upI I 29 (I 28 0).toNat (bAnd (bUshr x 24) 255)) 30 (I 28 0).toNat (srt ((upI I 29 (I 28 0).toNat (bAnd (bUshr x 24) 255)) 29 (I 28 0).toNat))) 28 0 ((I 28 0) + 1)) 29 ((I 28 0) + 1).toNat (bAnd (bUshr x 16) 255)) 30 ((I 28 0) + 1).toNat (srt ((upI (upI (upI (upI I 29 (I 28 0).toNat (bAnd (bUshr x 24) 255)) 30 (I 28 0).toNat (srt ((upI I 29 (I 28 0).toNat (bAnd (bUshr x 24) 255)) 29 (I 28 0).toNat))) 28 0 ((I 28 0) + 1)) 29 ((I 28 0) + 1).toNat (bAnd (bUshr x 16) 255)) 29 ((I 28 0) + 1).toNat))) 28 0 (((I 28 0) + 1) + 1)) 29 (((I 28 0) + 1) + 1).toNat (bAnd (bUshr x 8) 255)) 29 (((I 28 0) + 1) + 1).toNat))) 28 0 ((((I 28 0) + 1) + 1) + 1)) 29 ((((I 28 0) + 1) + 1) + 1).toNat (bAnd (bUshr x 0) 255)) 29 ((((I 28 0) + 1) + 1) + 1).toNat)]) (t1 := (53, [some (vR 28), some (vI x), some (vI 0)], [vI ((((I 28 0) + 1) + 1) + 1), vR 30], MW b (upI (upI (upI (upI (upI (upI (upI (upI (upI (upI I 29 (I 28 0).toNat (bAnd (bUshr x 24) 255)) 30 (I 28 0).toNat (srt ((upI I 29 (I 28 0).toNat (bAnd (bUshr x 24) 255)) 29 (I 28 0).toNat))) 28 0 ((I 28 0) + 1)) 29 ((I 28 0) + 1).toNat (bAnd (bUshr x 16) 255)) 30 ((I 28 0) + 1).toNat (srt ((upI (upI (upI (upI I 29 (I 28 0).toNat (bAnd (bUshr x 24) 255)) 30 (I 28 0).toNat (srt ((upI I 29 (I 28 0).toNat (bAnd (bUshr x 24) 255)) 29 (I 28 0).toNat))) 28 0 ((I 28 0) + 1)) 29 ((I 28 0) + 1).toNat (bAnd (bUshr x 16) 255)) 29 ((I 28 0) + 1).toNat))) 28 0 (((I 28 0) + 1) + 1)) 29 (((I 28 0) + 1) + 1).toNat (bAnd (bUshr x 8) 255)) 30 (((I 28 0) + 1) + 1).toNat (srt ((upI (upI (upI (upI (upI (upI (upI I 29 (I 28 0).toNat (bAnd (bUshr x 24) 255)) 30 (I 28 0).toNat (srt ((upI I 29 (I 28 0).toNat (bAnd (bUshr x 24) 255)) 29 (I 28 0).toNat))) 28 0 ((I 28 0) + 1)) 29 ((I 28 0) + 1).toNat (bAnd (bUshr x 16) 255)) 30 ((I 28 0) + 1).toNat (srt ((upI (upI (upI (upI I 29 (I 28 0).toNat (bAnd (bUshr x 24) 255)) 30 (I 28 0).toNat (srt ((upI I 29 (I 28 0).toNat (bAnd (bUshr x 24) 255)) 29 (I 28 0).toNat))) 28 0 ((I 28 0) + 1)) 29 ((I 28 0) + 1).toNat (bAnd (bUshr x 16) 255)) 29 ((I 28 0) + 1).toNat))) 28 0 (((I 28 0) + 1) + 1)) 29 (((I 28 0) + 1) + 1).toNat (bAnd (bUshr x 8) 255)) 29 (((I 28 0) + 1) + 1).toNat))) 28 0 ((((I 28 0) + 1) + 1) + 1)) 29 ((((I 28 0) + 1) + 1) + 1).toNat (bAnd (bUshr x 0) 255)) L)) rfl rfl (k_X6_sortOf l E b (upI (upI (upI (upI (upI (upI (upI (upI (upI (upI I 29 (I 28 0).toNat (bAnd (bUshr x 24) 255)) 30 (I 28 0).toNat (srt ((upI I 29 (I 28 0).toNat (bAnd (bUshr x 24) 255)) 29 (I 28 0).toNat))) 28 0 ((I 28 0) + 1)) 29 ((I 28 0) + 1).toNat (bAnd (bUshr x 16) 255)) 30 ((I 28 0) + 1).toNat (srt ((upI (upI (upI (upI I 29 (I 28 0).toNat (bAnd (bUshr x 24) 255)) 30 (I 28 0).toNat (srt ((upI I 29 (I 28 0).toNat (bAnd (bUshr x 24) 255)) 29 (I 28 0).toNat))) 28 0 ((I 28 0) + 1)) 29 ((I 28 0) + 1).toNat (bAnd (bUshr x 16) 255)) 29 ((I 28 0) + 1).toNat))) 28 0 (((I 28 0) + 1) + 1)) 29 (((I 28 0) + 1) + 1).toNat (bAnd (bUshr x 8) 255)) 30 (((I 28 0) + 1) + 1).toNat (srt ((upI (upI (upI (upI (upI (upI (upI I 29 (I 28 0).toNat (bAnd (bUshr x 24) 255)) 30 (I 28 0).toNat (srt ((upI I 29 (I 28 0).toNat (bAnd (bUshr x 24) 255)) 29 (I 28 0).toNat))) 28 0 ((I 28 0) + 1)) 29 ((I 28 0) + 1).toNat (bAnd (bUshr x 16) 255)) 30 ((I 28 0) + 1).toNat (srt ((upI (upI (upI (upI I 29 (I 28 0).toNat (bAnd (bUshr x 24) 255)) 30 (I 28 0).toNat (srt ((upI I 29 (I 28 0).toNat (bAnd (bUshr x 24) 255)) 29 (I 28 0).toNat))) 28 0 ((I 28 0) + 1)) 29 ((I 28 0) + 1).toNat (bAnd (bUshr x 16) 255)) 29 ((I 28 0) + 1).toNat))) 28 0 (((I 28 0) + 1) + 1)) 29 (((I 28 0) + 1) + 1).toNat (bAnd (bUshr x 8) 255)) 29 (((I 28 0) + 1) + 1).toNat))) 28 0 ((((I 28 0) + 1) + 1) + 1)) 29 ((((I 28 0) + 1) + 1) + 1).toNat (bAnd (bUshr x 0) 255)) L ((upI (upI (upI (upI (upI (upI (upI (upI (upI (upI I 29 (I 28 0).toNat (bAnd (bUshr x 24) 255)) 30 (I 28 0).toNat (srt ((upI I 29 (I 28 0).toNat (bAnd (bUshr x 24) 255)) 29 (I 28 0).toNat))) 28 0 ((I 28 0) + 1)) 29 ((I 28 0) + 1).toNat (bAnd (bUshr x 16) 255)) 30 ((I 28 0) + 1).toNat (srt ((upI (upI (upI (upI I 29 (I 28 0).toNat (bAnd (bUshr x 24) 255)) 30 (I 28 0).toNat (srt ((upI I 29 (I 28 0).toNat (bAnd (bUshr x 24) 255)) 29 (I 28 0).toNat))) 28 0 ((I 28 0) + 1)) 29 ((I 28 0) + 1).toNat (bAnd (bUshr x 16) 255)) 29 ((I 28 0) + 1).toNat))) 28 0 (((I 28 0) + 1) + 1)) 29 (((I 28 0) + 1) + 1).toNat (bAnd (bUshr x 8) 255)) 30 (((I 28 0) + 1) + 1).toNat (srt ((upI (upI (upI (upI (upI (upI (upI I 29 (I 28 0).toNat (bAnd (bUshr x 24) 255)) 30 (I 28 0).toNat (srt ((upI I 29 (I 28 0).toNat (bAnd (bUshr x 24) 255)) 29 (I 28 0).toNat))) 28 0 ((I 28 0) + 1)) 29 ((I 28 0) + 1).toNat (bAnd (bUshr x 16) 255)) 30 ((I 28 0) + 1).toNat (srt ((upI (upI (upI (upI I 29 (I 28 0).toNat (bAnd (bUshr x 24) 255)) 30 (I 28 0).toNat (srt ((upI I 29 (I 28 0).toNat (bAnd (bUshr x 24) 255)) 29 (I 28 0).toNat))) 28 0 ((I 28 0) + 1)) 29 ((I 28 0) + 1).toNat (bAnd (bUshr x 16) 255)) 29 ((I 28 0) + 1).toNat))) 28 0 (((I 28 0) + 1) + 1)) 29 (((I 28 0) + 1) + 1).toNat (bAnd (bUshr x 8) 255)) 29 (((I 28 0) + 1) + 1).toNat))) 28 0 ((((I 28 0) + 1) + 1) + 1)) 29 ((((I 28 0) + 1) + 1) + 1).toNat (bAnd (bUshr x 0) 255)) 29 ((((I 28 0) + 1) + 1) + 1).toNat) ) (by decide) mw_le ?_
  rintro rt9 w9 (⟨rfl, rfl⟩) _ _
  show Rch l E 2 39 _ _ _ _ (53, [some (vR 28), some (vI x), some (vI 0)], [vI (srt ((upI (upI (upI (upI (upI (upI (upI (upI (upI (upI I 29 (I 28 0).toNat (bAnd (bUshr x 24) 255)) 30 (I 28 0).toNat (srt ((upI I 29 (I 28 0).toNat (bAnd (bUshr x 24) 255)) 29 (I 28 0).toNat))) 28 0 ((I 28 0) + 1)) 29 ((I 28 0) + 1).toNat (bAnd (bUshr x 16) 255)) 30 ((I 28 0) + 1).toNat (srt ((upI (upI (upI (upI I 29 (I 28 0).toNat (bAnd (bUshr x 24) 255)) 30 (I 28 0).toNat (srt ((upI I 29 (I 28 0).toNat (bAnd (bUshr x 24) 255)) 29 (I 28 0).toNat))) 28 0 ((I 28 0) + 1)) 29 ((I 28 0) + 1).toNat (bAnd (bUshr x 16) 255)) 29 ((I 28 0) + 1).toNat))) 28 0 (((I 28 0) + 1) + 1)) 29 (((I 28 0) + 1) + 1).toNat (bAnd (bUshr x 8) 255)) 30 (((I 28 0) + 1) + 1).toNat (srt ((upI (upI (upI (upI (upI (upI (upI I 29 (I 28 0).toNat (bAnd (bUshr x 24) 255)) 30 (I 28 0).toNat (srt ((upI I 29 (I 28 0).toNat (bAnd (bUshr x 24) 255)) 29 (I 28 0).toNat))) 28 0 ((I 28 0) + 1)) 29 ((I 28 0) + 1).toNat (bAnd (bUshr x 16) 255)) 30 ((I 28 0) + 1).toNat (srt ((upI (upI (upI (upI I 29 (I 28 0).toNat (bAnd (bUshr x 24) 255)) 30 (I 28 0).toNat (srt ((upI I 29 (I 28 0).toNat (bAnd (bUshr x 24) 255)) 29 (I 28 0).toNat))) 28 0 ((I 28 0) + 1)) 29 ((I 28 0) + 1).toNat (bAnd (bUshr x 16) 255)) 29 ((I 28 0) + 1).toNat))) 28 0 (((I 28 0) + 1) + 1)) 29 (((I 28 0) + 1) + 1).toNat (bAnd (bUshr x 8) 255)) 29 (((I 28 0) + 1) + 1).toNat))) 28 0 ((((I 28 0) + 1) + 1) + 1)) 29 ((((I 28 0) + 1) + 1) + 1).toNat (bAnd (bUshr x 0) 255)) 29 ((((I 28 0) + 1) + 1) + 1).toNat)), vI ((((I 28 0) + 1) + 1) + 1), vR 30], MW b (upI (upI (upI (upI (upI (upI (upI (upI (upI (upI I 29 (I 28 0).toNat (bAnd (bUshr x 24) 255)) 30 (I 28 0).toNat (srt ((upI I 29 (I 28 0).toNat (bAnd (bUshr x 24) 255)) 29 (I 28 0).toNat))) 28 0 ((I 28 0) + 1)) 29 ((I 28 0) + 1).toNat (bAnd (bUshr x 16) 255)) 30 ((I 28 0) + 1).toNat (srt ((upI (upI (upI (upI I 29 (I 28 0).toNat (bAnd (bUshr x 24) 255)) 30 (I 28 0).toNat (srt ((upI I 29 (I 28 0).toNat (bAnd (bUshr x 24) 255)) 29 (I 28 0).toNat))) 28 0 ((I 28 0) + 1)) 29 ((I 28 0) + 1).toNat (bAnd (bUshr x 16) 255)) 29 ((I 28 0) + 1).toNat))) 28 0 (((I 28 0) + 1) + 1)) 29 (((I 28 0) + 1) + 1).toNat (bAnd (bUshr x 8) 255)) 30 (((I 28 0) + 1) + 1).toNat (srt ((upI (upI (upI (upI (upI (upI (upI I 29 (I 28 0).toNat (bAnd (bUshr x 24) 255)) 30 (I 28 0).toNat (srt ((upI I 29 (I 28 0).toNat (bAnd (bUshr x 24) 255)) 29 (I 28 0).toNat))) 28 0 ((I 28 0) + 1)) 29 ((I 28 0) + 1).toNat (bAnd (bUshr x 16) 255)) 30 ((I 28 0) + 1).toNat (srt ((upI (upI (upI (upI I 29 (I 28 0).toNat (bAnd (bUshr x 24) 255)) 30 (I 28 0).toNat (srt ((upI I 29 (I 28 0).toNat (bAnd (bUshr x 24) 255)) 29 (I 28 0).toNat))) 28 0 ((I 28 0) + 1)) 29 ((I 28 0) + 1).toNat (bAnd (bUshr x 16) 255)) 29 ((I 28 0) + 1).toNat))) 28 0 (((I 28 0) + 1) + 1)) 29 (((I 28 0) + 1) + 1).toNat (bAnd (bUshr x 8) 255)) 29 (((I 28 0) + 1) + 1).toNat))) 28 0 ((((I 28 0) + 1) + 1) + 1)) 29 ((((I 28 0) + 1) + 1) + 1).toNat (bAnd (bUshr x 0) 255)) L)
  refine rch_run rfl (by decide) 10 (t' := (4, [some (vR 28), some (vI x), some (vI (-8))], [vI (-8)], MW b (upI (upI (upI (upI (upI (upI (upI (upI (upI (upI (upI (upI I 29 (I 28 0).toNat (bAnd (bUshr x 24) 255)) 30 (I 28 0).toNat (srt ((upI I 29 (I 28 0).toNat (bAnd (bUshr x 24) 255)) 29 (I 28 0).toNat))) 28 0 ((I 28 0) + 1)) 29 ((I 28 0) + 1).toNat (bAnd (bUshr x 16) 255)) 30 ((I 28 0) + 1).toNat (srt ((upI (upI (upI (upI I 29 (I 28 0).toNat (bAnd (bUshr x 24) 255)) 30 (I 28 0).toNat (srt ((upI I 29 (I 28 0).toNat (bAnd (bUshr x 24) 255)) 29 (I 28 0).toNat))) 28 0 ((I 28 0) + 1)) 29 ((I 28 0) + 1).toNat (bAnd (bUshr x 16) 255)) 29 ((I 28 0) + 1).toNat))) 28 0 (((I 28 0) + 1) + 1)) 29 (((I 28 0) + 1) + 1).toNat (bAnd (bUshr x 8) 255)) 30 (((I 28 0) + 1) + 1).toNat (srt ((upI (upI (upI (upI (upI (upI (upI I 29 (I 28 0).toNat (bAnd (bUshr x 24) 255)) 30 (I 28 0).toNat (srt ((upI I 29 (I 28 0).toNat (bAnd (bUshr x 24) 255)) 29 (I 28 0).toNat))) 28 0 ((I 28 0) + 1)) 29 ((I 28 0) + 1).toNat (bAnd (bUshr x 16) 255)) 30 ((I 28 0) + 1).toNat (srt ((upI (upI (upI (upI I 29 (I 28 0).toNat (bAnd (bUshr x 24) 255)) 30 (I 28 0).toNat (srt ((upI I 29 (I 28 0).toNat (bAnd (bUshr x 24) 255)) 29 (I 28 0).toNat))) 28 0 ((I 28 0) + 1)) 29 ((I 28 0) + 1).toNat (bAnd (bUshr x 16) 255)) 29 ((I 28 0) + 1).toNat))) 28 0 (((I 28 0) + 1) + 1)) 29 (((I 28 0) + 1) + 1).toNat (bAnd (bUshr x 8) 255)) 29 (((I 28 0) + 1) + 1).toNat))) 28 0 ((((I 28 0) + 1) + 1) + 1)) 29 ((((I 28 0) + 1) + 1) + 1).toNat (bAnd (bUshr x 0) 255)) 30 ((((I 28 0) + 1) + 1) + 1).toNat (srt ((upI (upI (upI (upI (upI (upI (upI (upI (upI (upI I 29 (I 28 0).toNat (bAnd (bUshr x 24) 255)) 30 (I 28 0).toNat (srt ((upI I 29 (I 28 0).toNat (bAnd (bUshr x 24) 255)) 29 (I 28 0).toNat))) 28 0 ((I 28 0) + 1)) 29 ((I 28 0) + 1).toNat (bAnd (bUshr x 16) 255)) 30 ((I 28 0) + 1).toNat (srt ((upI (upI (upI (upI I 29 (I 28 0).toNat (bAnd (bUshr x 24) 255)) 30 (I 28 0).toNat (srt ((upI I 29 (I 28 0).toNat (bAnd (bUshr x 24) 255)) 29 (I 28 0).toNat))) 28 0 ((I 28 0) + 1)) 29 ((I 28 0) + 1).toNat (bAnd (bUshr x 16) 255)) 29 ((I 28 0) + 1).toNat))) 28 0 (((I 28 0) + 1) + 1)) 29 (((I 28 0) + 1) + 1).toNat (bAnd (bUshr x 8) 255)) 30 (((I 28 0) + 1) + 1).toNat (srt ((upI (upI (upI (upI (upI (upI (upI I 29 (I 28 0).toNat (bAnd (bUshr x 24) 255)) 30 (I 28 0).toNat (srt ((upI I 29 (I 28 0).toNat (bAnd (bUshr x 24) 255)) 29 (I 28 0).toNat))) 28 0 ((I 28 0) + 1)) 29 ((I 28 0) + 1).toNat (bAnd (bUshr x 16) 255)) 30 ((I 28 0) + 1).toNat (srt ((upI (upI (upI (upI I 29 (I 28 0).toNat (bAnd (bUshr x 24) 255)) 30 (I 28 0).toNat (srt ((upI I 29 (I 28 0).toNat (bAnd (bUshr x 24) 255)) 29 (I 28 0).toNat))) 28 0 ((I 28 0) + 1)) 29 ((I 28 0) + 1).toNat (bAnd (bUshr x 16) 255)) 29 ((I 28 0) + 1).toNat))) 28 0 (((I 28 0) + 1) + 1)) 29 (((I 28 0) + 1) + 1).toNat (bAnd (bUshr x 8) 255)) 29 (((I 28 0) + 1) + 1).toNat))) 28 0 ((((I 28 0) + 1) + 1) + 1)) 29 ((((I 28 0) + 1) + 1) + 1).toNat (bAnd (bUshr x 0) 255)) 29 ((((I 28 0) + 1) + 1) + 1).toNat))) 28 0 (((((I 28 0) + 1) + 1) + 1) + 1)) L)) (ps := [0 ≤ (((I 28 0) + 1) + 1) + 1 ∧ (((I 28 0) + 1) + 1) + 1 < ((500 : Nat) : Int), i32 (((((I 28 0) + 1) + 1) + 1) + 1), i32 (-8)]) rfl (by simp only [all_, i32, i64]; first | omega | (simp; done) | (simp; omega)) ?_
  refine rch_br rfl (cd := ((-8) : Int) < 0) (t1 := (70, [some (vR 28), some (vI x), some (vI (-8))], [], MW b (upI (upI (upI (upI (upI (upI (upI (upI (upI (upI (upI (upI I 29 (I 28 0).toNat (bAnd (bUshr x 24) 255)) 30 (I 28 0).toNat (srt ((upI I 29 (I 28 0).toNat (bAnd (bUshr x 24) 255)) 29 (I 28 0).toNat))) 28 0 ((I 28 0) + 1)) 29 ((I 28 0) + 1).toNat (bAnd (bUshr x 16) 255)) 30 ((I 28 0) + 1).toNat (srt ((upI (upI (upI (upI I 29 (I 28 0).toNat (bAnd (bUshr x 24) 255)) 30 (I 28 0).toNat (srt ((upI I 29 (I 28 0).toNat (bAnd (bUshr x 24) 255)) 29 (I 28 0).toNat))) 28 0 ((I 28 0) + 1)) 29 ((I 28 0) + 1).toNat (bAnd (bUshr x 16) 255)) 29 ((I 28 0) + 1).toNat))) 28 0 (((I 28 0) + 1) + 1)) 29 (((I 28 0) + 1) + 1).toNat (bAnd (bUshr x 8) 255)) 30 (((I 28 0) + 1) + 1).toNat (srt ((upI (upI (upI (upI (upI (upI (upI I 29 (I 28 0).toNat (bAnd (bUshr x 24) 255)) 30 (I 28 0).toNat (srt ((upI I 29 (I 28 0).toNat (bAnd (bUshr x 24) 255)) 29 (I 28 0).toNat))) 28 0 ((I 28 0) + 1)) 29 ((I 28 0) + 1).toNat (bAnd (bUshr x 16) 255)) 30 ((I 28 0) + 1).toNat (srt ((upI (upI (upI (upI I 29 (I 28 0).toNat (bAnd (bUshr x 24) 255)) 30 (I 28 0).toNat (srt ((upI I 29 (I 28 0).toNat (bAnd (bUshr x 24) 255)) 29 (I 28 0).toNat))) 28 0 ((I 28 0) + 1)) 29 ((I 28 0) + 1).toNat (bAnd (bUshr x 16) 255)) 29 ((I 28 0) + 1).toNat))) 28 0 (((I 28 0) + 1) + 1)) 29 (((I 28 0) + 1) + 1).toNat (bAnd (bUshr x 8) 255)) 29 (((I 28 0) + 1) + 1).toNat))) 28 0 ((((I 28 0) + 1) + 1) + 1)) 29 ((((I 28 0) + 1) + 1) + 1).toNat (bAnd (bUshr x 0) 255)) 30 ((((I 28 0) + 1) + 1) + 1).toNat (srt ((upI (upI (upI (upI (upI (upI (upI (upI (upI (upI I 29 (I 28 0).toNat (bAnd (bUshr x 24) 255)) 30 (I 28 0).toNat (srt ((upI I 29 (I 28 0).toNat (bAnd (bUshr x 24) 255)) 29 (I 28 0).toNat))) 28 0 ((I 28 0) + 1)) 29 ((I 28 0) + 1).toNat (bAnd (bUshr x 16) 255)) 30 ((I 28 0) + 1).toNat (srt ((upI (upI (upI (upI I 29 (I 28 0).toNat (bAnd (bUshr x 24) 255)) 30 (I 28 0).toNat (srt ((upI I 29 (I 28 0).toNat (bAnd (bUshr x 24) 255)) 29 (I 28 0).toNat))) 28 0 ((I 28 0) + 1)) 29 ((I 28 0) + 1).toNat (bAnd (bUshr x 16) 255)) 29 ((I 28 0) + 1).toNat))) 28 0 (((I 28 0) + 1) + 1)) 29 (((I 28 0) + 1) + 1).toNat (bAnd (bUshr x 8) 255)) 30 (((I 28 0) + 1) + 1).toNat (srt ((upI (upI (upI (upI (upI (upI (upI I 29 (I 28 0).toNat (bAnd (bUshr x 24) 255)) 30 (I 28 0).toNat (srt ((upI I 29 (I 28 0).toNat (bAnd (bUshr x 24) 255)) 29 (I 28 0).toNat))) 28 0 ((I 28 0) + 1)) 29 ((I 28 0) + 1).toNat (bAnd (bUshr x 16) 255)) 30 ((I 28 0) + 1).toNat (srt ((upI (upI (upI (upI I 29 (I 28 0).toNat (bAnd (bUshr x 24) 255)) 30 (I 28 0).toNat (srt ((upI I 29 (I 28 0).toNat (bAnd (bUshr x 24) 255)) 29 (I 28 0).toNat))) 28 0 ((I 28 0) + 1)) 29 ((I 28 0) + 1).toNat (bAnd (bUshr x 16) 255)) 29 ((I 28 0) + 1).toNat))) 28 0 (((I 28 0) + 1) + 1)) 29 (((I 28 0) + 1) + 1).toNat (bAnd (bUshr x 8) 255)) 29 (((I 28 0) + 1) + 1).toNat))) 28 0 ((((I 28 0) + 1) + 1) + 1)) 29 ((((I 28 0) + 1) + 1) + 1).toNat (bAnd (bUshr x 0) 255)) 29 ((((I 28 0) + 1) + 1) + 1).toNat))) 28 0 (((((I 28 0) + 1) + 1) + 1) + 1)) L)) (t2 := (7, [some (vR 28), some (vI x), some (vI (-8))], [], MW b (upI (upI (upI (upI (upI (upI (upI (upI (upI (upI (upI (upI I 29 (I 28 0).toNat (bAnd (bUshr x 24) 255)) 30 (I 28 0).toNat (srt ((upI I 29 (I 28 0).toNat (bAnd (bUshr x 24) 255)) 29 (I 28 0).toNat))) 28 0 ((I 28 0) + 1)) 29 ((I 28 0) + 1).toNat (bAnd (bUshr x 16) 255)) 30 ((I 28 0) + 1).toNat (srt ((upI (upI (upI (upI I 29 (I 28 0).toNat (bAnd (bUshr x 24) 255)) 30 (I 28 0).toNat (srt ((upI I 29 (I 28 0).toNat (bAnd (bUshr x 24) 255)) 29 (I 28 0).toNat))) 28 0 ((I 28 0) + 1)) 29 ((I 28 0) + 1).toNat (bAnd (bUshr x 16) 255)) 29 ((I 28 0) + 1).toNat))) 28 0 (((I 28 0) + 1) + 1)) 29 (((I 28 0) + 1) + 1).toNat (bAnd (bUshr x 8) 255)) 30 (((I 28 0) + 1) + 1).toNat (srt ((upI (upI (upI (upI (upI (upI (upI I 29 (I 28 0).toNat (bAnd (bUshr x 24) 255)) 30 (I 28 0).toNat (srt ((upI I 29 (I 28 0).toNat (bAnd (bUshr x 24) 255)) 29 (I 28 0).toNat))) 28 0 ((I 28 0) + 1)) 29 ((I 28 0) + 1).toNat (bAnd (bUshr x 16) 255)) 30 ((I 28 0) + 1).toNat (srt ((upI (upI (upI (upI I 29 (I 28 0).toNat (bAnd (bUshr x 24) 255)) 30 (I 28 0).toNat (srt ((upI I 29 (I 28 0).toNat (bAnd (bUshr x 24) 255)) 29 (I 28 0).toNat))) 28 0 ((I 28 0) + 1)) 29 ((I 28 0) + 1).toNat (bAnd (bUshr x 16) 255)) 29 ((I 28 0) + 1).toNat))) 28 0 (((I 28 0) + 1) + 1)) 29 (((I 28 0) + 1) + 1).toNat (bAnd (bUshr x 8) 255)) 29 (((I 28 0) + 1) + 1).toNat))) 28 0 ((((I 28 0) + 1) + 1) + 1)) 29 ((((I 28 0) + 1) + 1) + 1).toNat (bAnd (bUshr x 0) 255)) 30 ((((I 28 0) + 1) + 1) + 1).toNat (srt ((upI (upI (upI (upI (upI (upI (upI (upI (upI (upI I 29 (I 28 0).toNat (bAnd (bUshr x 24) 255)) 30 (I 28 0).toNat (srt ((upI I 29 (I 28 0).toNat (bAnd (bUshr x 24) 255)) 29 (I 28 0).toNat))) 28 0 ((I 28 0) + 1)) 29 ((I 28 0) + 1).toNat (bAnd (bUshr x 16) 255)) 30 ((I 28 0) + 1).toNat (srt ((upI (upI (upI (upI I 29 (I 28 0).toNat (bAnd (bUshr x 24) 255)) 30 (I 28 0).toNat (srt ((upI I 29 (I 28 0).toNat (bAnd (bUshr x 24) 255)) 29 (I 28 0).toNat))) 28 0 ((I 28 0) + 1)) 29 ((I 28 0) + 1).toNat (bAnd (bUshr x 16) 255)) 29 ((I 28 0) + 1).toNat))) 28 0 (((I 28 0) + 1) + 1)) 29 (((I 28 0) + 1) + 1).toNat (bAnd (bUshr x 8) 255)) 30 (((I 28 0) + 1) + 1).toNat (srt ((upI (upI (upI (upI (upI (upI (upI I 29 (I 28 0).toNat (bAnd (bUshr x 24) 255)) 30 (I 28 0).toNat (srt ((upI I 29 (I 28 0).toNat (bAnd (bUshr x 24) 255)) 29 (I 28 0).toNat))) 28 0 ((I 28 0) + 1)) 29 ((I 28 0) + 1).toNat (bAnd (bUshr x 16) 255)) 30 ((I 28 0) + 1).toNat (srt ((upI (upI (upI (upI I 29 (I 28 0).toNat (bAnd (bUshr x 24) 255)) 30 (I 28 0).toNat (srt ((upI I 29 (I 28 0).toNat (bAnd (bUshr x 24) 255)) 29 (I 28 0).toNat))) 28 0 ((I 28 0) + 1)) 29 ((I 28 0) + 1).toNat (bAnd (bUshr x 16) 255)) 29 ((I 28 0) + 1).toNat))) 28 0 (((I 28 0) + 1) + 1)) 29 (((I 28 0) + 1) + 1).toNat (bAnd (bUshr x 8) 255)) 29 (((I 28 0) + 1) + 1).toNat))) 28 0 ((((I 28 0) + 1) + 1) + 1)) 29 ((((I 28 0) + 1) + 1) + 1).toNat (bAnd (bUshr x 0) 255)) 29 ((((I 28 0) + 1) + 1) + 1).toNat))) 28 0 (((((I 28 0) + 1) + 1) + 1) + 1)) L)) rfl (fun _ => ?_) (fun c9 => absurd (by decide) c9)
  refine rch_ret rfl (rt := none) rfl trivial mw_c ?_
  refine ⟨_, rfl, rfl, ?_, ?_, ?_⟩
  · show ((((I 28 0) + 1) + 1) + 1) + 1 = _
    omega
  · intro j hj
    rcases (show j = 0 ∨ j = 1 ∨ j = 2 ∨ j = 3 by omega) with rfl | rfl | rfl | rfl
    · constructor
      · (repeat (first | rw [upI_eq (by omega) (by omega)] | rw [upI_ne (by omega)]))
        exact ub0 hx
      · (repeat (first | rw [upI_eq (by omega) (by omega)] | rw [upI_ne (by omega)]))
        rw [ub0 hx]
    · constructor
      · (repeat (first | rw [upI_eq (by omega) (by omega)] | rw [upI_ne (by omega)]))
        exact ub1 hx
      · (repeat (first | rw [upI_eq (by omega) (by omega)] | rw [upI_ne (by omega)]))
        rw [ub1 hx]
    · constructor
      · (repeat (first | rw [upI_eq (by omega) (by omega)] | rw [upI_ne (by omega)]))
        exact ub2 hx
      · (repeat (first | rw [upI_eq (by omega) (by omega)] | rw [upI_ne (by omega)]))
        rw [ub2 hx]
    · constructor
      · (repeat (first | rw [upI_eq (by omega) (by omega)] | rw [upI_ne (by omega)]))
        exact ub3 hx
      · (repeat (first | rw [upI_eq (by omega) (by omega)] | rw [upI_ne (by omega)]))
        rw [ub3 hx]
  · intro a i h1 h2
    (repeat (rw [upI_ne (by omega)]))

theorem k_X12_four (l : Launch) (E : AX) (b : Bool) (I L : Nat → Nat → Int) (x : Int) (hn : 0 ≤ I 74 30 ∧ I 74 30 + 4 ≤ 500) : Con l E 1 120 [vR 74, vI x] (MW b I L) 0 0 (fun rt w => ∃ I', rt = none ∧ w = MW b I' L ∧ ApM I I' x) := by
  refine con_ok (fun hw9 hs9 => ?_)
  refine con_intro (by decide) (Nat.le_of_ble_eq_true rfl) ?_
  have hx : i32 x := hs9 (vI x) (by simp)
  show Rch l E 1 120 _ _ _ _ (0, [some (vR 74), some (vI x), none], [], MW b I L)
  refine rch_run rfl (by decide) 3 (t' := (4, [some (vR 74), some (vI x), some (vI 24)], [vI 24], MW b I L)) (ps := []) rfl trivial ?_
  refine rch_br rfl (cd := (24 : Int) < 0) (t1 := (39, [some (vR 74), some (vI x), some (vI 24)], [], MW b I L)) (t2 := (7, [some (vR 74), some (vI x), some (vI 24)], [], MW b I L)) rfl (fun c9 => absurd c9 (by decide)) (fun _ => ?_)
  refine rch_run rfl (by decide) 19 (t' := (4, [some (vR 74), some (vI x), some (vI 16)], [vI 16], MW b (upI (upI I 97 (I 74 30).toNat (bAnd (bShr x 24) 255)) 74 30 ((I 74 30) + 1)) L)) (ps := [0 ≤ I 74 30 ∧ I 74 30 < ((500 : Nat) : Int), i32 ((I 74 30) + 1), i32 16]) rfl (by simp only [all_, i32, i64]; first | omega | (simp; done) | (simp; omega)) ?_
  refine rch_br rfl (cd := (16 : Int) < 0) (t1 := (39, [some (vR 74), some (vI x), some (vI 16)], [], MW b (upI (upI I 97 (I 74 30).toNat (bAnd (bShr x 24) 255)) 74 30 ((I 74 30) + 1)) L)) (t2 := (7, [some (vR 74), some (vI x), some (vI 16)], [], MW b (upI (upI I 97 (I 74 30).toNat (bAnd (bShr x 24) 255)) 74 30 ((I 74 30) + 1)) L)) rfl (fun c9 => absurd c9 (by decide)) (fun _ => ?_)
  refine rch_run rfl (by decide) 19 (t' := (4, [some (vR 74), some (vI x), some (vI 8)], [vI 8], MW b (upI (upI (upI (upI I 97 (I 74 30).toNat (bAnd (bShr x 24) 255)) 74 30 ((I 74 30) + 1)) 97 ((I 74 30) + 1).toNat (bAnd (bShr x 16) 255)) 74 30 (((I 74 30) + 1) + 1)) L)) (ps := [0 ≤ (I 74 30) + 1 ∧ (I 74 30) + 1 < ((500 : Nat) : Int), i32 (((I 74 30) + 1) + 1), i32 8]) rfl (by simp only [all_, i32, i64]; first | omega | (simp; done) | (simp; omega)) ?_
  refine rch_br rfl (cd := (8 : Int) < 0) (t1 := (39, [some (vR 74), some (vI x), some (vI 8)], [], MW b (upI (upI (upI (upI I 97 (I 74 30).toNat (bAnd (bShr x 24) 255)) 74 30 ((I 74 30) + 1)) 97 ((I 74 30) + 1).toNat (bAnd (bShr x 16) 255)) 74 30 (((I 74 30) + 1) + 1)) L)) (t2 := (7, [some (vR 74), some (vI x), some (vI 8)], [], MW b (upI (upI (upI (upI I 97 (I 74 30).toNat (bAnd (bShr x 24) 255)) 74 30 ((I 74 30) + 1)) 97 ((I 74 30) + 1).toNat (bAnd (bShr x 16) 255)) 74 30 (((I 74 30) + 1) + 1)) L)) rfl (fun c9 => absurd c9 (by decide)) (fun _ => ?_)
  refine rch_run rfl (by decide) 19 (t' := (4, [some (vR 74), some (vI x), some (vI 0)], [vI 0], MW b (upI (upI (upI (upI (upI (upI I 97 (I 74 30).toNat (bAnd (bShr x 24) 255)) 74 30 ((I 74 30) + 1)) 97 ((I 74 30) + 1).toNat (bAnd (bShr x 16) 255)) 74 30 (((I 74 30) + 1) + 1)) 97 (((I 74 30) + 1) + 1).toNat (bAnd (bShr x 8) 255)) 74 30 ((((I 74 30) + 1) + 1) + 1)) L)) (ps := [0 ≤ ((I 74 30) + 1) + 1 ∧ ((I 74 30) + 1) + 1 < ((500 : Nat) : Int), i32 ((((I 74 30) + 1) + 1) + 1), i32 0]) rfl (by simp only [all_, i32, i64]; first | omega | (simp; done) | (simp; omega)) ?_
  refine rch_br rfl (cd := (0 : Int) < 0) (t1 := (39, [some (vR 74), some (vI x), some (vI 0)], [], MW b (upI (upI (upI (upI (upI (upI I 97 (I 74 30).toNat (bAnd (bShr x 24) 255)) 74 30 ((I 74 30) + 1)) 97 ((I 74 30) + 1).toNat (bAnd (bShr x 16) 255)) 74 30 (((I 74 30) + 1) + 1)) 97 (((I 74 30) + 1) + 1).toNat (bAnd (bShr x 8) 255)) 74 30 ((((I 74 30) + 1) + 1) + 1)) L)) (t2 := (7, [some (vR 74), some (vI x), some (vI 0)], [], MW b (upI (upI (upI (upI (upI (upI I 97 (I 74 30).toNat (bAnd (bShr x 24) 255)) 74 30 ((I 74 30) + 1)) 97 ((I 74 30) + 1).toNat (bAnd (bShr x 16) 255)) 74 30 (((I 74 30) + 1) + 1)) 97 (((I 74 30) + 1) + 1).toNat (bAnd (bShr x 8) 255)) 74 30 ((((I 74 30) + 1) + 1) + 1)) L)) rfl (fun c9 => absurd c9 (by decide)) (fun _ => ?_)
  refine rch_run rfl (by decide) 19 (t' := (4, [some (vR 74), some (vI x), some (vI (-8))], [vI (-8)], MW b (upI (upI (upI (upI (upI (upI (upI (upI I 97 (I 74 30).toNat (bAnd (bShr x 24) 255)) 74 30 ((I 74 30) + 1)) 97 ((I 74 30) + 1).toNat (bAnd (bShr x 16) 255)) 74 30 (((I 74 30) + 1) + 1)) 97 (((I 74 30) + 1) + 1).toNat (bAnd (bShr x 8) 255)) 74 30 ((((I 74 30) + 1) + 1) + 1)) 97 ((((I 74 30) + 1) + 1) + 1).toNat (bAnd (bShr x 0) 255)) 74 30 (((((I 74 30) + 1) + 1) + 1) + 1)) L)) (ps := [0 ≤ (((I 74 30) + 1) + 1) + 1 ∧ (((I 74 30) + 1) + 1) + 1 < ((500 : Nat) : Int), i32 (((((I 74 30) + 1) + 1) + 1) + 1), i32 (-8)]) rfl (by simp only [all_, i32, i64]; first | omega | (simp; done) | (simp; omega)) ?_
  refine rch_br rfl (cd := ((-8) : Int) < 0) (t1 := (39, [some (vR 74), some (vI x), some (vI (-8))], [], MW b (upI (upI (upI (upI (upI (upI (upI (upI I 97 (I 74 30).toNat (bAnd (bShr x 24) 255)) 74 30 ((I 74 30) + 1)) 97 ((I 74 30) + 1).toNat (bAnd (bShr x 16) 255)) 74 30 (((I 74 30) + 1) + 1)) 97 (((I 74 30) + 1) + 1).toNat (bAnd (bShr x 8) 255)) 74 30 ((((I 74 30) + 1) + 1) + 1)) 97 ((((I 74 30) + 1) + 1) + 1).toNat (bAnd (bShr x 0) 255)) 74 30 (((((I 74 30) + 1) + 1) + 1) + 1)) L)) (t2 := (7, [some (vR 74), some (vI x), some (vI (-8))], [], MW b (upI (upI (upI (upI (upI (upI (upI (upI I 97 (I 74 30).toNat (bAnd (bShr x 24) 255)) 74 30 ((I 74 30) + 1)) 97 ((I 74 30) + 1).toNat (bAnd (bShr x 16) 255)) 74 30 (((I 74 30) + 1) + 1)) 97 (((I 74 30) + 1) + 1).toNat (bAnd (bShr x 8) 255)) 74 30 ((((I 74 30) + 1) + 1) + 1)) 97 ((((I 74 30) + 1) + 1) + 1).toNat (bAnd (bShr x 0) 255)) 74 30 (((((I 74 30) + 1) + 1) + 1) + 1)) L)) rfl (fun _ => ?_) (fun c9 => absurd (by decide) c9)
  refine rch_ret rfl (rt := none) rfl trivial mw_c ?_
  refine ⟨_, rfl, rfl, ?_, ?_, ?_⟩
  · show ((((I 74 30) + 1) + 1) + 1) + 1 = _
    omega
  · intro j hj
    rcases (show j = 0 ∨ j = 1 ∨ j = 2 ∨ j = 3 by omega) with rfl | rfl | rfl | rfl
    · (repeat (first | rw [upI_eq (by omega) (by omega)] | rw [upI_ne (by omega)]))
      exact sb0 hx
    · (repeat (first | rw [upI_eq (by omega) (by omega)] | rw [upI_ne (by omega)]))
      exact sb1 hx
    · (repeat (first | rw [upI_eq (by omega) (by omega)] | rw [upI_ne (by omega)]))
      exact sb2 hx
    · (repeat (first | rw [upI_eq (by omega) (by omega)] | rw [upI_ne (by omega)]))
      exact sb3 hx
  · intro a i h1 h2
    (repeat (rw [upI_ne (by omega)]))

theorem k_X11_feed (l : Launch) (E : AX) (b : Bool) (I L : Nat → Nat → Int) (x y z p q : Int) (hn : 0 ≤ I 28 0 ∧ I 28 0 ≤ 500) : Con l E 3 70 [vR 0, vI x, vI y, vI z, vI p, vI q] (MW b I L) 0 0 (fun rt w => (I 28 0 ≤ 480 ∧ ∃ I1 I2 I3 I4 I5, rt = some (vI (I5 28 0)) ∧ w = MW b I5 L ∧ ApC I I1 x ∧ ApC I1 I2 y ∧ ApC I2 I3 z ∧ ApC I3 I4 p ∧ ApC I4 I5 q) ∨ (480 < I 28 0 ∧ rt = some (vI (-1)) ∧ w = MW b I L)) := by
  refine con_ok (fun hw9 hs9 => ?_)
  refine con_intro (by decide) (Nat.le_of_ble_eq_true rfl) ?_
  show Rch l E 3 70 _ _ _ _ (0, [some (vR 0), some (vI x), some (vI y), some (vI z), some (vI p), some (vI q)], [], MW b I L)
  refine rch_run rfl (by decide) 6 (t' := (13, [some (vR 0), some (vI x), some (vI y), some (vI z), some (vI p), some (vI q)], [vI 500, vI ((I 28 0) + 20)], MW b I L)) (ps := [i32 ((I 28 0) + 20)]) rfl (by simp only [all_, i32, i64]; first | omega | (simp; done) | (simp; omega)) ?_
  refine rch_br rfl (cd := (I 28 0) + 20 ≤ (500 : Int)) (t1 := (18, [some (vR 0), some (vI x), some (vI y), some (vI z), some (vI p), some (vI q)], [], MW b I L)) (t2 := (16, [some (vR 0), some (vI x), some (vI y), some (vI z), some (vI p), some (vI q)], [], MW b I L)) rfl (fun c13_1 => ?_) (fun c13_1 => ?_)
  · refine rch_run rfl (by decide) 3 (t' := (23, [some (vR 0), some (vI x), some (vI y), some (vI z), some (vI p), some (vI q)], [vI x, vR 28], MW b I L)) (ps := []) rfl trivial ?_
    refine rch_call (h' := 2) (k' := 39) (as := [vR 28, vI x]) (t1 := (26, [some (vR 0), some (vI x), some (vI y), some (vI z), some (vI p), some (vI q)], [], MW b I L)) rfl rfl (k_X6_append l E b I L x (by omega)) (by decide) mw_le ?_
    rintro rt9 w9 (⟨I1, rfl, rfl, a1⟩) _ _
    show Rch l E 3 70 _ _ _ _ (26, [some (vR 0), some (vI x), some (vI y), some (vI z), some (vI p), some (vI q)], [], MW b I1 L)
    have b1 := a1.1
    refine rch_run rfl (by decide) 3 (t' := (31, [some (vR 0), some (vI x), some (vI y), some (vI z), some (vI p), some (vI q)], [vI y, vR 28], MW b I1 L)) (ps := []) rfl trivial ?_
    refine rch_call (h' := 2) (k' := 39) (as := [vR 28, vI y]) (t1 := (34, [some (vR 0), some (vI x), some (vI y), some (vI z), some (vI p), some (vI q)], [], MW b I1 L)) rfl rfl (k_X6_append l E b I1 L y (by omega)) (by decide) mw_le ?_
    rintro rt9 w9 (⟨I2, rfl, rfl, a2⟩) _ _
    show Rch l E 3 70 _ _ _ _ (34, [some (vR 0), some (vI x), some (vI y), some (vI z), some (vI p), some (vI q)], [], MW b I2 L)
    have b2 := a2.1
    refine rch_run rfl (by decide) 3 (t' := (39, [some (vR 0), some (vI x), some (vI y), some (vI z), some (vI p), some (vI q)], [vI z, vR 28], MW b I2 L)) (ps := []) rfl trivial ?_
    refine rch_call (h' := 2) (k' := 39) (as := [vR 28, vI z]) (t1 := (42, [some (vR 0), some (vI x), some (vI y), some (vI z), some (vI p), some (vI q)], [], MW b I2 L)) rfl rfl (k_X6_append l E b I2 L z (by omega)) (by decide) mw_le ?_
    rintro rt9 w9 (⟨I3, rfl, rfl, a3⟩) _ _
    show Rch l E 3 70 _ _ _ _ (42, [some (vR 0), some (vI x), some (vI y), some (vI z), some (vI p), some (vI q)], [], MW b I3 L)
    have b3 := a3.1
    refine rch_run rfl (by decide) 3 (t' := (48, [some (vR 0), some (vI x), some (vI y), some (vI z), some (vI p), some (vI q)], [vI p, vR 28], MW b I3 L)) (ps := []) rfl trivial ?_
    refine rch_call (h' := 2) (k' := 39) (as := [vR 28, vI p]) (t1 := (51, [some (vR 0), some (vI x), some (vI y), some (vI z), some (vI p), some (vI q)], [], MW b I3 L)) rfl rfl (k_X6_append l E b I3 L p (by omega)) (by decide) mw_le ?_
    rintro rt9 w9 (⟨I4, rfl, rfl, a4⟩) _ _
    show Rch l E 3 70 _ _ _ _ (51, [some (vR 0), some (vI x), some (vI y), some (vI z), some (vI p), some (vI q)], [], MW b I4 L)
    have b4 := a4.1
    refine rch_run rfl (by decide) 3 (t' := (57, [some (vR 0), some (vI x), some (vI y), some (vI z), some (vI p), some (vI q)], [vI q, vR 28], MW b I4 L)) (ps := []) rfl trivial ?_
    refine rch_call (h' := 2) (k' := 39) (as := [vR 28, vI q]) (t1 := (60, [some (vR 0), some (vI x), some (vI y), some (vI z), some (vI p), some (vI q)], [], MW b I4 L)) rfl rfl (k_X6_append l E b I4 L q (by omega)) (by decide) mw_le ?_
    rintro rt9 w9 (⟨I5, rfl, rfl, a5⟩) _ _
    show Rch l E 3 70 _ _ _ _ (60, [some (vR 0), some (vI x), some (vI y), some (vI z), some (vI p), some (vI q)], [], MW b I5 L)
    have b5 := a5.1
    refine rch_run rfl (by decide) 3 (t' := (67, [some (vR 0), some (vI x), some (vI y), some (vI z), some (vI p), some (vI q)], [vI (I5 28 0)], MW b I5 L)) (ps := []) rfl trivial ?_
    refine rch_ret rfl (rt := some (vI (I5 28 0))) rfl trivial mw_c ?_
    exact Or.inl ⟨by omega, I1, I2, I3, I4, I5, rfl, rfl, a1, a2, a3, a4, a5⟩
  · refine rch_run rfl (by decide) 1 (t' := (17, [some (vR 0), some (vI x), some (vI y), some (vI z), some (vI p), some (vI q)], [vI (-1)], MW b I L)) (ps := []) rfl trivial ?_
    refine rch_ret rfl (rt := some (vI (-1))) rfl trivial mw_c ?_
    exact Or.inr ⟨by omega, rfl, rfl⟩

theorem k_X12_feed (l : Launch) (E : AX) (b : Bool) (I L : Nat → Nat → Int) (x y z p q : Int) (hn : 0 ≤ I 74 30 ∧ I 74 30 ≤ 500) : Con l E 2 119 [vR 74, vI x, vI y, vI z, vI p, vI q] (MW b I L) 0 0 (fun rt w => (I 74 30 ≤ 480 ∧ ∃ I1 I2 I3 I4 I5, rt = some (vI (I5 74 30)) ∧ w = MW b I5 L ∧ ApM I I1 x ∧ ApM I1 I2 y ∧ ApM I2 I3 z ∧ ApM I3 I4 p ∧ ApM I4 I5 q) ∨ (480 < I 74 30 ∧ rt = some (vI (-1)) ∧ w = MW b I L)) := by
  refine con_ok (fun hw9 hs9 => ?_)
  refine con_intro (by decide) (Nat.le_of_ble_eq_true rfl) ?_
  show Rch l E 2 119 _ _ _ _ (0, [some (vR 74), some (vI x), some (vI y), some (vI z), some (vI p), some (vI q)], [], MW b I L)
  refine rch_run rfl (by decide) 5 (t' := (10, [some (vR 74), some (vI x), some (vI y), some (vI z), some (vI p), some (vI q)], [vI 500, vI ((I 74 30) + 20)], MW b I L)) (ps := [i32 ((I 74 30) + 20)]) rfl (by simp only [all_, i32, i64]; first | omega | (simp; done) | (simp; omega)) ?_
  refine rch_br rfl (cd := (I 74 30) + 20 ≤ (500 : Int)) (t1 := (15, [some (vR 74), some (vI x), some (vI y), some (vI z), some (vI p), some (vI q)], [], MW b I L)) (t2 := (13, [some (vR 74), some (vI x), some (vI y), some (vI z), some (vI p), some (vI q)], [], MW b I L)) rfl (fun c10_1 => ?_) (fun c10_1 => ?_)
  · refine rch_run rfl (by decide) 2 (t' := (17, [some (vR 74), some (vI x), some (vI y), some (vI z), some (vI p), some (vI q)], [vI x, vR 74], MW b I L)) (ps := []) rfl trivial ?_
    refine rch_call (h' := 1) (k' := 120) (as := [vR 74, vI x]) (t1 := (20, [some (vR 74), some (vI x), some (vI y), some (vI z), some (vI p), some (vI q)], [], MW b I L)) rfl rfl (k_X12_four l E b I L x (by omega)) (by decide) mw_le ?_
    rintro rt9 w9 (⟨I1, rfl, rfl, a1⟩) _ _
    show Rch l E 2 119 _ _ _ _ (20, [some (vR 74), some (vI x), some (vI y), some (vI z), some (vI p), some (vI q)], [], MW b I1 L)
    have b1 := a1.1
    refine rch_run rfl (by decide) 2 (t' := (22, [some (vR 74), some (vI x), some (vI y), some (vI z), some (vI p), some (vI q)], [vI y, vR 74], MW b I1 L)) (ps := []) rfl trivial ?_
    refine rch_call (h' := 1) (k' := 120) (as := [vR 74, vI y]) (t1 := (25, [some (vR 74), some (vI x), some (vI y), some (vI z), some (vI p), some (vI q)], [], MW b I1 L)) rfl rfl (k_X12_four l E b I1 L y (by omega)) (by decide) mw_le ?_
    rintro rt9 w9 (⟨I2, rfl, rfl, a2⟩) _ _
    show Rch l E 2 119 _ _ _ _ (25, [some (vR 74), some (vI x), some (vI y), some (vI z), some (vI p), some (vI q)], [], MW b I2 L)
    have b2 := a2.1
    refine rch_run rfl (by decide) 2 (t' := (27, [some (vR 74), some (vI x), some (vI y), some (vI z), some (vI p), some (vI q)], [vI z, vR 74], MW b I2 L)) (ps := []) rfl trivial ?_
    refine rch_call (h' := 1) (k' := 120) (as := [vR 74, vI z]) (t1 := (30, [some (vR 74), some (vI x), some (vI y), some (vI z), some (vI p), some (vI q)], [], MW b I2 L)) rfl rfl (k_X12_four l E b I2 L z (by omega)) (by decide) mw_le ?_
    rintro rt9 w9 (⟨I3, rfl, rfl, a3⟩) _ _
    show Rch l E 2 119 _ _ _ _ (30, [some (vR 74), some (vI x), some (vI y), some (vI z), some (vI p), some (vI q)], [], MW b I3 L)
    have b3 := a3.1
    refine rch_run rfl (by decide) 2 (t' := (33, [some (vR 74), some (vI x), some (vI y), some (vI z), some (vI p), some (vI q)], [vI p, vR 74], MW b I3 L)) (ps := []) rfl trivial ?_
    refine rch_call (h' := 1) (k' := 120) (as := [vR 74, vI p]) (t1 := (36, [some (vR 74), some (vI x), some (vI y), some (vI z), some (vI p), some (vI q)], [], MW b I3 L)) rfl rfl (k_X12_four l E b I3 L p (by omega)) (by decide) mw_le ?_
    rintro rt9 w9 (⟨I4, rfl, rfl, a4⟩) _ _
    show Rch l E 2 119 _ _ _ _ (36, [some (vR 74), some (vI x), some (vI y), some (vI z), some (vI p), some (vI q)], [], MW b I4 L)
    have b4 := a4.1
    refine rch_run rfl (by decide) 2 (t' := (39, [some (vR 74), some (vI x), some (vI y), some (vI z), some (vI p), some (vI q)], [vI q, vR 74], MW b I4 L)) (ps := []) rfl trivial ?_
    refine rch_call (h' := 1) (k' := 120) (as := [vR 74, vI q]) (t1 := (42, [some (vR 74), some (vI x), some (vI y), some (vI z), some (vI p), some (vI q)], [], MW b I4 L)) rfl rfl (k_X12_four l E b I4 L q (by omega)) (by decide) mw_le ?_
    rintro rt9 w9 (⟨I5, rfl, rfl, a5⟩) _ _
    show Rch l E 2 119 _ _ _ _ (42, [some (vR 74), some (vI x), some (vI y), some (vI z), some (vI p), some (vI q)], [], MW b I5 L)
    have b5 := a5.1
    refine rch_run rfl (by decide) 2 (t' := (46, [some (vR 74), some (vI x), some (vI y), some (vI z), some (vI p), some (vI q)], [vI (I5 74 30)], MW b I5 L)) (ps := []) rfl trivial ?_
    refine rch_ret rfl (rt := some (vI (I5 74 30))) rfl trivial mw_c ?_
    exact Or.inl ⟨by omega, I1, I2, I3, I4, I5, rfl, rfl, a1, a2, a3, a4, a5⟩
  · refine rch_run rfl (by decide) 1 (t' := (14, [some (vR 74), some (vI x), some (vI y), some (vI z), some (vI p), some (vI q)], [vI (-1)], MW b I L)) (ps := []) rfl trivial ?_
    refine rch_ret rfl (rt := some (vI (-1))) rfl trivial mw_c ?_
    exact Or.inr ⟨by omega, rfl, rfl⟩
end
section
-- THE VERSION that holds on d as known on k: of those told on k or before, from a day not after d, the one with the greatest day, the last told of like ones
def bv (ro fi fr to : Nat → Int) (r f d k : Int) : Nat → Int
  | 0 => -1
  | n + 1 => if ro n = r ∧ fi n = f ∧ to n ≤ k ∧ fr n ≤ d ∧ (bv ro fi fr to r f d k n < 0 ∨ fr (bv ro fi fr to r f d k n).toNat ≤ fr n) then (n : Int) else bv ro fi fr to r f d k n
theorem bv_s (ro fi fr to : Nat → Int) (r f d k : Int) (n : Nat) : bv ro fi fr to r f d k (n + 1) = if ro n = r ∧ fi n = f ∧ to n ≤ k ∧ fr n ≤ d ∧ (bv ro fi fr to r f d k n < 0 ∨ fr (bv ro fi fr to r f d k n).toNat ≤ fr n) then (n : Int) else bv ro fi fr to r f d k n := rfl
theorem bv_rg (ro fi fr to : Nat → Int) (r f d k : Int) : ∀ n, -1 ≤ bv ro fi fr to r f d k n ∧ bv ro fi fr to r f d k n < (n : Int)
  | 0 => by show (-1 : Int) ≤ -1 ∧ (-1 : Int) < 0; omega
  | n + 1 => by
    have h := bv_rg ro fi fr to r f d k n
    rw [bv_s]
    split <;> omega
end
section
/-- its value, or -1 -/
def vo (ro fi va fr to : Nat → Int) (r f d k : Int) (n : Nat) : Int := if bv ro fi fr to r f d k n < 0 then -1 else va (bv ro fi fr to r f d k n).toNat

theorem lp_version (l : Launch) (E : AX) (b : Bool) (I L : Nat → Nat → Int) (r f d k : Int) (hn : 0 ≤ I 74 5 ∧ I 74 5 ≤ 150) : ∀ (n9 : Nat) (i be : Int), 0 ≤ i → i ≤ I 74 5 → be = bv (I 81) (I 82) (I 84) (I 85) r f d k i.toNat → I 74 5 - i < (n9 : Int) → Rch l E 1 114 (MW b I L) 0 0 (fun rt w => rt = some (vI (bv (I 81) (I 82) (I 84) (I 85) r f d k (I 74 5).toNat)) ∧ w = MW b I L) (6, [some (vR 74), some (vI r), some (vI f), some (vI d), some (vI k), some (vI be), some (vI i)], [], MW b I L) := by
  intro n9
  induction n9 with
  | zero =>
    intro i be  h1 h2 h3 hm
    exfalso; omega
  | succ n9 ih =>
    intro i be  h1 h2 h3 hm
    have hr9 := bv_rg (I 81) (I 82) (I 84) (I 85) r f d k i.toNat
    rw [← h3] at hr9
    refine rch_run rfl (by decide) 3 (t' := (12, [some (vR 74), some (vI r), some (vI f), some (vI d), some (vI k), some (vI be), some (vI i)], [vI (I 74 5), vI i], MW b I L)) (ps := []) rfl trivial ?_
    refine rch_br rfl (cd := I 74 5 ≤ i) (t1 := (92, [some (vR 74), some (vI r), some (vI f), some (vI d), some (vI k), some (vI be), some (vI i)], [], MW b I L)) (t2 := (15, [some (vR 74), some (vI r), some (vI f), some (vI d), some (vI k), some (vI be), some (vI i)], [], MW b I L)) rfl (fun c12_1 => ?_) (fun c12_1 => ?_)
    · refine rch_run rfl (by decide) 1 (t' := (94, [some (vR 74), some (vI r), some (vI f), some (vI d), some (vI k), some (vI be), some (vI i)], [vI be], MW b I L)) (ps := []) rfl trivial ?_
      refine rch_ret rfl (rt := some (vI be)) rfl trivial mw_c ?_
      exact ⟨by rw [h3, show i.toNat = (I 74 5).toNat by omega], rfl⟩
    · refine rch_run rfl (by decide) 5 (t' := (23, [some (vR 74), some (vI r), some (vI f), some (vI d), some (vI k), some (vI be), some (vI i)], [vI r, vI (I 81 i.toNat)], MW b I L)) (ps := [0 ≤ i ∧ i < ((150 : Nat) : Int)]) rfl (by simp only [all_, i32, i64]; first | omega | (simp; done) | (simp; omega)) ?_
      refine rch_br rfl (cd := I 81 i.toNat ≠ r) (t1 := (86, [some (vR 74), some (vI r), some (vI f), some (vI d), some (vI k), some (vI be), some (vI i)], [], MW b I L)) (t2 := (26, [some (vR 74), some (vI r), some (vI f), some (vI d), some (vI k), some (vI be), some (vI i)], [], MW b I L)) rfl (fun c23_2 => ?_) (fun c23_2 => ?_)
      · refine rch_run rfl (by decide) 2 (t' := (6, [some (vR 74), some (vI r), some (vI f), some (vI d), some (vI k), some (vI be), some (vI (i + 1))], [], MW b I L)) (ps := [i32 (i + 1)]) rfl (by simp only [all_, i32, i64]; first | omega | (simp; done) | (simp; omega)) ?_
        exact ih (i + 1) be (by omega) (by omega) (by rw [show (i + 1).toNat = i.toNat + 1 by omega, bv_s, ← h3]; first | (rw [if_pos (by omega)]; omega) | rw [if_neg (by omega)]) (by omega)
      · refine rch_run rfl (by decide) 5 (t' := (34, [some (vR 74), some (vI r), some (vI f), some (vI d), some (vI k), some (vI be), some (vI i)], [vI f, vI (I 82 i.toNat)], MW b I L)) (ps := [0 ≤ i ∧ i < ((150 : Nat) : Int)]) rfl (by simp only [all_, i32, i64]; first | omega | (simp; done) | (simp; omega)) ?_
        refine rch_br rfl (cd := I 82 i.toNat ≠ f) (t1 := (86, [some (vR 74), some (vI r), some (vI f), some (vI d), some (vI k), some (vI be), some (vI i)], [], MW b I L)) (t2 := (37, [some (vR 74), some (vI r), some (vI f), some (vI d), some (vI k), some (vI be), some (vI i)], [], MW b I L)) rfl (fun c34_3 => ?_) (fun c34_3 => ?_)
        · refine rch_run rfl (by decide) 2 (t' := (6, [some (vR 74), some (vI r), some (vI f), some (vI d), some (vI k), some (vI be), some (vI (i + 1))], [], MW b I L)) (ps := [i32 (i + 1)]) rfl (by simp only [all_, i32, i64]; first | omega | (simp; done) | (simp; omega)) ?_
          exact ih (i + 1) be (by omega) (by omega) (by rw [show (i + 1).toNat = i.toNat + 1 by omega, bv_s, ← h3]; first | (rw [if_pos (by omega)]; omega) | rw [if_neg (by omega)]) (by omega)
        · refine rch_run rfl (by decide) 5 (t' := (46, [some (vR 74), some (vI r), some (vI f), some (vI d), some (vI k), some (vI be), some (vI i)], [vI k, vI (I 85 i.toNat)], MW b I L)) (ps := [0 ≤ i ∧ i < ((150 : Nat) : Int)]) rfl (by simp only [all_, i32, i64]; first | omega | (simp; done) | (simp; omega)) ?_
          refine rch_br rfl (cd := k < I 85 i.toNat) (t1 := (86, [some (vR 74), some (vI r), some (vI f), some (vI d), some (vI k), some (vI be), some (vI i)], [], MW b I L)) (t2 := (49, [some (vR 74), some (vI r), some (vI f), some (vI d), some (vI k), some (vI be), some (vI i)], [], MW b I L)) rfl (fun c46_4 => ?_) (fun c46_4 => ?_)
          · refine rch_run rfl (by decide) 2 (t' := (6, [some (vR 74), some (vI r), some (vI f), some (vI d), some (vI k), some (vI be), some (vI (i + 1))], [], MW b I L)) (ps := [i32 (i + 1)]) rfl (by simp only [all_, i32, i64]; first | omega | (simp; done) | (simp; omega)) ?_
            exact ih (i + 1) be (by omega) (by omega) (by rw [show (i + 1).toNat = i.toNat + 1 by omega, bv_s, ← h3]; first | (rw [if_pos (by omega)]; omega) | rw [if_neg (by omega)]) (by omega)
          · refine rch_run rfl (by decide) 5 (t' := (57, [some (vR 74), some (vI r), some (vI f), some (vI d), some (vI k), some (vI be), some (vI i)], [vI d, vI (I 84 i.toNat)], MW b I L)) (ps := [0 ≤ i ∧ i < ((150 : Nat) : Int)]) rfl (by simp only [all_, i32, i64]; first | omega | (simp; done) | (simp; omega)) ?_
            refine rch_br rfl (cd := d < I 84 i.toNat) (t1 := (86, [some (vR 74), some (vI r), some (vI f), some (vI d), some (vI k), some (vI be), some (vI i)], [], MW b I L)) (t2 := (60, [some (vR 74), some (vI r), some (vI f), some (vI d), some (vI k), some (vI be), some (vI i)], [], MW b I L)) rfl (fun c57_5 => ?_) (fun c57_5 => ?_)
            · refine rch_run rfl (by decide) 2 (t' := (6, [some (vR 74), some (vI r), some (vI f), some (vI d), some (vI k), some (vI be), some (vI (i + 1))], [], MW b I L)) (ps := [i32 (i + 1)]) rfl (by simp only [all_, i32, i64]; first | omega | (simp; done) | (simp; omega)) ?_
              exact ih (i + 1) be (by omega) (by omega) (by rw [show (i + 1).toNat = i.toNat + 1 by omega, bv_s, ← h3]; first | (rw [if_pos (by omega)]; omega) | rw [if_neg (by omega)]) (by omega)
            · refine rch_run rfl (by decide) 1 (t' := (62, [some (vR 74), some (vI r), some (vI f), some (vI d), some (vI k), some (vI be), some (vI i)], [vI be], MW b I L)) (ps := []) rfl trivial ?_
              refine rch_br rfl (cd := be < 0) (t1 := (82, [some (vR 74), some (vI r), some (vI f), some (vI d), some (vI k), some (vI be), some (vI i)], [], MW b I L)) (t2 := (65, [some (vR 74), some (vI r), some (vI f), some (vI d), some (vI k), some (vI be), some (vI i)], [], MW b I L)) rfl (fun c62_6 => ?_) (fun c62_6 => ?_)
              · refine rch_run rfl (by decide) 4 (t' := (6, [some (vR 74), some (vI r), some (vI f), some (vI d), some (vI k), some (vI i), some (vI (i + 1))], [], MW b I L)) (ps := [i32 (i + 1)]) rfl (by simp only [all_, i32, i64]; first | omega | (simp; done) | (simp; omega)) ?_
                exact ih (i + 1) i (by omega) (by omega) (by rw [show (i + 1).toNat = i.toNat + 1 by omega, bv_s, ← h3]; first | (rw [if_pos (by omega)]; omega) | rw [if_neg (by omega)]) (by omega)
              · refine rch_run rfl (by decide) 8 (t' := (79, [some (vR 74), some (vI r), some (vI f), some (vI d), some (vI k), some (vI be), some (vI i)], [vI (I 84 be.toNat), vI (I 84 i.toNat)], MW b I L)) (ps := [0 ≤ i ∧ i < ((150 : Nat) : Int), 0 ≤ be ∧ be < ((150 : Nat) : Int)]) rfl (by simp only [all_, i32, i64]; first | omega | (simp; done) | (simp; omega)) ?_
                refine rch_br rfl (cd := I 84 i.toNat < I 84 be.toNat) (t1 := (86, [some (vR 74), some (vI r), some (vI f), some (vI d), some (vI k), some (vI be), some (vI i)], [], MW b I L)) (t2 := (82, [some (vR 74), some (vI r), some (vI f), some (vI d), some (vI k), some (vI be), some (vI i)], [], MW b I L)) rfl (fun c79_7 => ?_) (fun c79_7 => ?_)
                · refine rch_run rfl (by decide) 2 (t' := (6, [some (vR 74), some (vI r), some (vI f), some (vI d), some (vI k), some (vI be), some (vI (i + 1))], [], MW b I L)) (ps := [i32 (i + 1)]) rfl (by simp only [all_, i32, i64]; first | omega | (simp; done) | (simp; omega)) ?_
                  exact ih (i + 1) be (by omega) (by omega) (by rw [show (i + 1).toNat = i.toNat + 1 by omega, bv_s, ← h3]; first | (rw [if_pos (by omega)]; omega) | rw [if_neg (by omega)]) (by omega)
                · refine rch_run rfl (by decide) 4 (t' := (6, [some (vR 74), some (vI r), some (vI f), some (vI d), some (vI k), some (vI i), some (vI (i + 1))], [], MW b I L)) (ps := [i32 (i + 1)]) rfl (by simp only [all_, i32, i64]; first | omega | (simp; done) | (simp; omega)) ?_
                  exact ih (i + 1) i (by omega) (by omega) (by rw [show (i + 1).toNat = i.toNat + 1 by omega, bv_s, ← h3]; first | (rw [if_pos (by omega)]; omega) | rw [if_neg (by omega)]) (by omega)

theorem k_X12_version (l : Launch) (E : AX) (b : Bool) (I L : Nat → Nat → Int) (r f d k : Int) (hn : 0 ≤ I 74 5 ∧ I 74 5 ≤ 150) : Con l E 1 114 [vR 74, vI r, vI f, vI d, vI k] (MW b I L) 0 0 (fun rt w => rt = some (vI (bv (I 81) (I 82) (I 84) (I 85) r f d k (I 74 5).toNat)) ∧ w = MW b I L) := by
  refine con_ok (fun hw9 hs9 => ?_)
  refine con_intro (by decide) (Nat.le_of_ble_eq_true rfl) ?_
  show Rch l E 1 114 _ _ _ _ (0, [some (vR 74), some (vI r), some (vI f), some (vI d), some (vI k), none, none], [], MW b I L)
  refine rch_run rfl (by decide) 4 (t' := (6, [some (vR 74), some (vI r), some (vI f), some (vI d), some (vI k), some (vI (-1)), some (vI 0)], [], MW b I L)) (ps := []) rfl trivial ?_
  exact lp_version l E b I L r f d k hn 151 0 (-1) (by omega) (by omega) rfl (by omega)

theorem k_X12_valueOf (l : Launch) (E : AX) (b : Bool) (I L : Nat → Nat → Int) (r f d k : Int) (hn : 0 ≤ I 74 5 ∧ I 74 5 ≤ 150) : Con l E 2 115 [vR 74, vI r, vI f, vI d, vI k] (MW b I L) 0 0 (fun rt w => rt = some (vI (vo (I 81) (I 82) (I 83) (I 84) (I 85) r f d k (I 74 5).toNat)) ∧ w = MW b I L) := by
  refine con_ok (fun hw9 hs9 => ?_)
  refine con_intro (by decide) (Nat.le_of_ble_eq_true rfl) ?_
  have hr9 := bv_rg (I 81) (I 82) (I 84) (I 85) r f d k (I 74 5).toNat
  show Rch l E 2 115 _ _ _ _ (0, [some (vR 74), some (vI r), some (vI f), some (vI d), some (vI k), none], [], MW b I L)
  refine rch_run rfl (by decide) 5 (t' := (6, [some (vR 74), some (vI r), some (vI f), some (vI d), some (vI k), none], [vI k, vI d, vI f, vI r, vR 74], MW b I L)) (ps := []) rfl trivial ?_
  refine rch_call (h' := 1) (k' := 114) (as := [vR 74, vI r, vI f, vI d, vI k]) (t1 := (9, [some (vR 74), some (vI r), some (vI f), some (vI d), some (vI k), none], [], MW b I L)) rfl rfl (k_X12_version l E b I L r f d k (by show 0 ≤ I 74 5 ∧ I 74 5 ≤ 150; omega)) (by decide) mw_le ?_
  rintro rt9 w9 (⟨rfl, rfl⟩) _ _
  show Rch l E 2 115 _ _ _ _ (9, [some (vR 74), some (vI r), some (vI f), some (vI d), some (vI k), none], [vI (bv (I 81) (I 82) (I 84) (I 85) r f d k (I 74 5).toNat)], MW b I L)
  refine rch_run rfl (by decide) 2 (t' := (13, [some (vR 74), some (vI r), some (vI f), some (vI d), some (vI k), some (vI (bv (I 81) (I 82) (I 84) (I 85) r f d k (I 74 5).toNat))], [vI (bv (I 81) (I 82) (I 84) (I 85) r f d k (I 74 5).toNat)], MW b I L)) (ps := []) rfl trivial ?_
  refine rch_br rfl (cd := 0 ≤ bv (I 81) (I 82) (I 84) (I 85) r f d k (I 74 5).toNat) (t1 := (20, [some (vR 74), some (vI r), some (vI f), some (vI d), some (vI k), some (vI (bv (I 81) (I 82) (I 84) (I 85) r f d k (I 74 5).toNat))], [], MW b I L)) (t2 := (16, [some (vR 74), some (vI r), some (vI f), some (vI d), some (vI k), some (vI (bv (I 81) (I 82) (I 84) (I 85) r f d k (I 74 5).toNat))], [], MW b I L)) rfl (fun c13_1 => ?_) (fun c13_1 => ?_)
  · refine rch_run rfl (by decide) 4 (t' := (27, [some (vR 74), some (vI r), some (vI f), some (vI d), some (vI k), some (vI (bv (I 81) (I 82) (I 84) (I 85) r f d k (I 74 5).toNat))], [vI (I 83 (bv (I 81) (I 82) (I 84) (I 85) r f d k (I 74 5).toNat).toNat)], MW b I L)) (ps := [0 ≤ bv (I 81) (I 82) (I 84) (I 85) r f d k (I 74 5).toNat ∧ bv (I 81) (I 82) (I 84) (I 85) r f d k (I 74 5).toNat < ((150 : Nat) : Int)]) rfl (by simp only [all_, i32, i64]; first | omega | (simp; done) | (simp; omega)) ?_
    refine rch_ret rfl (rt := some (vI (I 83 (bv (I 81) (I 82) (I 84) (I 85) r f d k (I 74 5).toNat).toNat))) rfl trivial mw_c ?_
    exact ⟨by unfold vo; first | rw [if_pos (by omega)] | rw [if_neg (by omega)], rfl⟩
  · refine rch_run rfl (by decide) 2 (t' := (27, [some (vR 74), some (vI r), some (vI f), some (vI d), some (vI k), some (vI (bv (I 81) (I 82) (I 84) (I 85) r f d k (I 74 5).toNat))], [vI (-1)], MW b I L)) (ps := []) rfl trivial ?_
    refine rch_ret rfl (rt := some (vI (-1))) rfl trivial mw_c ?_
    exact ⟨by unfold vo; first | rw [if_pos (by omega)] | rw [if_neg (by omega)], rfl⟩
end
section
-- THE SIGHT: what the class's Sight holds on d as known on k
def thr (I : Nat → Nat → Int) (k : Int) (r : Nat) : Int := if (r : Int) < I 17 0 ∧ I 20 r = 0 ∧ I 19 r ≤ k then 1 else 0
/-- the number of the version that a cell shows, of the first n -/
def sv (I : Nat → Nat → Int) (d k : Int) (n c : Nat) : Int := if thr I k (c / 6) = 1 then bv (I 22) (I 23) (I 25) (I 26) ((c / 6 : Nat) : Int) ((c % 6 : Nat) : Int) d k n else -1
def Cel (I J : Nat → Nat → Int) (d k : Int) (n c : Nat) : Prop := J 46 c = (if sv I d k n c < 0 then -1 else I 24 (sv I d k n c).toNat) ∧ (0 ≤ sv I d k n c → J 47 c = I 25 (sv I d k n c).toNat ∧ J 48 c = I 27 (sv I d k n c).toNat)
def FrS (I J : Nat → Nat → Int) : Prop := ∀ a j, ¬ (44 ≤ a ∧ a ≤ 48) → J a j = I a j
def Took (I J : Nat → Nat → Int) (d k : Int) : Prop := FrS I J ∧ J 44 0 = d ∧ J 44 1 = k ∧ (∀ r, r < 10 → J 45 r = thr I k r) ∧ ∀ c, c < 60 → Cel I J d k (I 21 0).toNat c
/-- what is known of the class's rows and versions -/
def VOK (I : Nat → Nat → Int) : Prop := (0 ≤ I 17 0 ∧ I 17 0 ≤ 10) ∧ (0 ≤ I 21 0 ∧ I 21 0 ≤ 150) ∧ ∀ j : Nat, (j : Int) < I 21 0 → (0 ≤ I 22 j ∧ I 22 j < 10) ∧ (0 ≤ I 23 j ∧ I 23 j ≤ 5) ∧ 0 ≤ I 24 j ∧ (I 27 j = 0 ∨ I 27 j = 1)
theorem sv_rg (I : Nat → Nat → Int) (d k : Int) (n c : Nat) : -1 ≤ sv I d k n c ∧ sv I d k n c < (n : Int) := by
  unfold sv
  split
  · exact bv_rg _ _ _ _ _ _ _ _ n
  · omega
theorem sv_0 (I : Nat → Nat → Int) (d k : Int) (c : Nat) : sv I d k 0 c = -1 := by
  unfold sv
  split <;> rfl
/-- a version that isn't this cell's, or doesn't count, changes nothing here -/
theorem sv_skip {I : Nat → Nat → Int} {d k : Int} {n c : Nat} (h : ¬ (I 22 n = ((c / 6 : Nat) : Int) ∧ I 23 n = ((c % 6 : Nat) : Int) ∧ I 26 n ≤ k ∧ I 25 n ≤ d ∧ thr I k (c / 6) = 1)) : sv I d k (n + 1) c = sv I d k n c := by
  unfold sv
  split
  · next ht => rw [bv_s, if_neg (fun z => h ⟨z.1, z.2.1, z.2.2.1, z.2.2.2.1, ht⟩)]
  · rfl
theorem sv_hit {I : Nat → Nat → Int} {d k : Int} {n c : Nat} (h : I 22 n = ((c / 6 : Nat) : Int) ∧ I 23 n = ((c % 6 : Nat) : Int) ∧ I 26 n ≤ k ∧ I 25 n ≤ d ∧ thr I k (c / 6) = 1) : sv I d k (n + 1) c = if sv I d k n c < 0 ∨ I 25 (sv I d k n c).toNat ≤ I 25 n then (n : Int) else sv I d k n c := by
  unfold sv
  rw [if_pos h.2.2.2.2, if_pos h.2.2.2.2, bv_s]
  by_cases hc : bv (I 22) (I 23) (I 25) (I 26) ((c / 6 : Nat) : Int) ((c % 6 : Nat) : Int) d k n < 0 ∨ I 25 (bv (I 22) (I 23) (I 25) (I 26) ((c / 6 : Nat) : Int) ((c % 6 : Nat) : Int) d k n).toNat ≤ I 25 n
  · rw [if_pos hc, if_pos ⟨h.1, h.2.1, h.2.2.1, h.2.2.2.1, hc⟩]
  · rw [if_neg hc, if_neg (fun z => hc z.2.2.2.2)]
theorem Cel_skip {I J J' : Nat → Nat → Int} {d k : Int} {n c : Nat} (h : Cel I J d k n c) (hs : sv I d k (n + 1) c = sv I d k n c) (h1 : J' 46 c = J 46 c) (h2 : J' 47 c = J 47 c) (h3 : J' 48 c = J 48 c) : Cel I J' d k (n + 1) c := by
  unfold Cel at h ⊢
  rw [hs, h1, h2, h3]
  exact h
theorem thr_01 (I : Nat → Nat → Int) (k : Int) (r : Nat) : thr I k r = 0 ∨ thr I k r = 1 := by
  unfold thr
  split
  · exact Or.inr rfl
  · exact Or.inl rfl
theorem take_skip {I J : Nat → Nat → Int} {d k : Int} {n c : Nat} (h6 : ∀ c, c < 60 → Cel I J d k n c) (hc : c < 60) (q22 : J 22 n = I 22 n) (q23 : J 23 n = I 23 n) (q24 : J 24 n = I 24 n) (q25 : J 25 n = I 25 n) (q26 : J 26 n = I 26 n) (hx : (0 ≤ I 22 n ∧ I 22 n < 10) ∧ (0 ≤ I 23 n ∧ I 23 n ≤ 5) ∧ 0 ≤ I 24 n ∧ (I 27 n = 0 ∨ I 27 n = 1)) (hth : (J 22 n).toNat < 10 → J 45 (J 22 n).toNat = thr I k (J 22 n).toNat)
    (hcase : k < J 26 n ∨ d < J 25 n ∨ J 45 (J 22 n).toNat = 0 ∨ (J 46 ((J 22 n * 6) + J 23 n).toNat ≠ -1 ∧ J 25 n < J 47 ((J 22 n * 6) + J 23 n).toNat)) : Cel I J d k (n + 1) c := by
  by_cases hm : I 22 n = ((c / 6 : Nat) : Int) ∧ I 23 n = ((c % 6 : Nat) : Int) ∧ I 26 n ≤ k ∧ I 25 n ≤ d ∧ thr I k (c / 6) = 1
  · obtain ⟨m1, m2, m3, m4, m5⟩ := id hm
    have hth := hth (by omega)
    rw [show (J 22 n).toNat = c / 6 by omega] at hth hcase
    have ce : ((J 22 n * 6) + J 23 n).toNat = c := by omega
    rw [ce] at hcase
    have hC := h6 c hc
    have hs := sv_hit hm
    have hsv : 0 ≤ sv I d k n c := by
      rcases Int.lt_or_le (sv I d k n c) 0 with h | h
      · have := hC.1
        rw [if_pos h] at this
        omega
      · exact h
    have h47 := (hC.2 hsv).1
    refine Cel_skip hC ?_ rfl rfl rfl
    rw [hs, if_neg (by omega)]
  · exact Cel_skip (h6 c hc) (sv_skip hm) rfl rfl rfl
theorem take_hit {I J : Nat → Nat → Int} {d k : Int} {n c : Nat} (hV : VOK I) (hn : (n : Int) < I 21 0) (h6 : ∀ c, c < 60 → Cel I J d k n c) (hc : c < 60) (hcc : c = ((J 22 n * 6) + J 23 n).toNat) (q22 : J 22 n = I 22 n) (q23 : J 23 n = I 23 n) (q24 : J 24 n = I 24 n) (q25 : J 25 n = I 25 n) (q26 : J 26 n = I 26 n) (q27 : J 27 n = I 27 n) (hth : J 45 (J 22 n).toNat = thr I k (J 22 n).toNat)
    (h26 : J 26 n ≤ k) (h25 : J 25 n ≤ d) (h45 : J 45 (J 22 n).toNat ≠ 0) (hb : J 46 ((J 22 n * 6) + J 23 n).toNat = -1 ∨ J 47 ((J 22 n * 6) + J 23 n).toNat ≤ J 25 n) :
    Cel I (upI (upI (upI J 46 ((J 22 n * 6) + J 23 n).toNat (J 24 n)) 47 ((J 22 n * 6) + J 23 n).toNat (J 25 n)) 48 ((J 22 n * 6) + J 23 n).toNat (J 27 n)) d k (n + 1) c := by
  have hx := hV.2.2 n hn
  rw [hth] at h45
  have ht := (thr_01 I k (J 22 n).toNat).resolve_left h45
  rw [show (J 22 n).toNat = c / 6 by omega] at ht
  have hm : I 22 n = ((c / 6 : Nat) : Int) ∧ I 23 n = ((c % 6 : Nat) : Int) ∧ I 26 n ≤ k ∧ I 25 n ≤ d ∧ thr I k (c / 6) = 1 := ⟨by omega, by omega, by omega, by omega, ht⟩
  have hC := h6 c hc
  rw [← hcc] at hb ⊢
  have hr := sv_rg I d k n c
  have hs := sv_hit hm
  have hsn : sv I d k (n + 1) c = (n : Int) := by
    rw [hs, if_pos ?_]
    rcases Int.lt_or_le (sv I d k n c) 0 with h | h
    · exact Or.inl h
    · right
      have h1 := hC.1
      rw [if_neg (by omega)] at h1
      have h2 := (hC.2 h).1
      have h3 := (hV.2.2 (sv I d k n c).toNat (by omega)).2.2.1
      omega
  unfold Cel
  rw [hsn]
  refine ⟨?_, fun _ => ⟨?_, ?_⟩⟩
  · rw [upI_ne (by omega), upI_ne (by omega), upI_eq rfl rfl, if_neg (by omega)]
    exact q24
  · rw [upI_ne (by omega), upI_eq rfl rfl]
    exact q25
  · rw [upI_eq rfl rfl]
    exact q27
end
section
theorem k_X5_takeVersion (l : Launch) (E : AX) (b : Bool) (I L : Nat → Nat → Int) (i : Int) (hi : 0 ≤ i ∧ i < 150) (hr : (0 ≤ I 22 i.toNat ∧ I 22 i.toNat < 10) ∧ (0 ≤ I 23 i.toNat ∧ I 23 i.toNat ≤ 5) ∧ (I 27 i.toNat = 0 ∨ I 27 i.toNat = 1)) : Con l E 1 35 [vR 44, vR 21, vI i] (MW b I L) 0 0 (fun rt w => ((I 46 (((I 22 i.toNat) * 6) + (I 23 i.toNat)).toNat = -1 ∨ I 47 (((I 22 i.toNat) * 6) + (I 23 i.toNat)).toNat ≤ I 25 i.toNat) ∧ rt = none ∧ w = MW b (upI (upI (upI I 46 (((I 22 i.toNat) * 6) + (I 23 i.toNat)).toNat (I 24 i.toNat)) 47 (((I 22 i.toNat) * 6) + (I 23 i.toNat)).toNat (I 25 i.toNat)) 48 (((I 22 i.toNat) * 6) + (I 23 i.toNat)).toNat (I 27 i.toNat)) L) ∨ ((¬ (I 46 (((I 22 i.toNat) * 6) + (I 23 i.toNat)).toNat = -1 ∨ I 47 (((I 22 i.toNat) * 6) + (I 23 i.toNat)).toNat ≤ I 25 i.toNat)) ∧ rt = none ∧ w = MW b I L)) := by
  refine con_intro (by decide) (Nat.le_of_ble_eq_true rfl) ?_
  show Rch l E 1 35 _ _ _ _ (0, [some (vR 44), some (vR 21), some (vI i), none], [], MW b I L)
  refine rch_run rfl (by decide) 17 (t' := (24, [some (vR 44), some (vR 21), some (vI i), some (vI (((I 22 i.toNat) * 6) + (I 23 i.toNat)))], [vI (-1), vI (I 46 (((I 22 i.toNat) * 6) + (I 23 i.toNat)).toNat)], MW b I L)) (ps := [0 ≤ i ∧ i < ((150 : Nat) : Int), i32 ((I 22 i.toNat) * 6), 0 ≤ i ∧ i < ((150 : Nat) : Int), i32 (((I 22 i.toNat) * 6) + (I 23 i.toNat)), 0 ≤ ((I 22 i.toNat) * 6) + (I 23 i.toNat) ∧ ((I 22 i.toNat) * 6) + (I 23 i.toNat) < ((60 : Nat) : Int)]) rfl (by simp only [all_, i32, i64]; first | omega | (simp; done) | (simp; omega)) ?_
  refine rch_br rfl (cd := I 46 (((I 22 i.toNat) * 6) + (I 23 i.toNat)).toNat = ((-1) : Int)) (t1 := (42, [some (vR 44), some (vR 21), some (vI i), some (vI (((I 22 i.toNat) * 6) + (I 23 i.toNat)))], [], MW b I L)) (t2 := (27, [some (vR 44), some (vR 21), some (vI i), some (vI (((I 22 i.toNat) * 6) + (I 23 i.toNat)))], [], MW b I L)) rfl (fun c24_1 => ?_) (fun c24_1 => ?_)
  · refine rch_run rfl (by decide) 24 (t' := (78, [some (vR 44), some (vR 21), some (vI i), some (vI (((I 22 i.toNat) * 6) + (I 23 i.toNat)))], [], MW b (upI (upI (upI I 46 (((I 22 i.toNat) * 6) + (I 23 i.toNat)).toNat (I 24 i.toNat)) 47 (((I 22 i.toNat) * 6) + (I 23 i.toNat)).toNat (I 25 i.toNat)) 48 (((I 22 i.toNat) * 6) + (I 23 i.toNat)).toNat (I 27 i.toNat)) L)) (ps := [0 ≤ i ∧ i < ((150 : Nat) : Int), 0 ≤ ((I 22 i.toNat) * 6) + (I 23 i.toNat) ∧ ((I 22 i.toNat) * 6) + (I 23 i.toNat) < ((60 : Nat) : Int), 0 ≤ i ∧ i < ((150 : Nat) : Int), 0 ≤ ((I 22 i.toNat) * 6) + (I 23 i.toNat) ∧ ((I 22 i.toNat) * 6) + (I 23 i.toNat) < ((60 : Nat) : Int), 0 ≤ i ∧ i < ((150 : Nat) : Int), 0 ≤ ((I 22 i.toNat) * 6) + (I 23 i.toNat) ∧ ((I 22 i.toNat) * 6) + (I 23 i.toNat) < ((60 : Nat) : Int), I 27 i.toNat = 0 ∨ I 27 i.toNat = 1]) rfl (by simp only [all_, i32, i64]; first | omega | (simp; done) | (simp; omega)) ?_
    refine rch_ret rfl (rt := none) rfl trivial mw_c ?_
    first | exact Or.inl ⟨by omega, rfl, rfl⟩ | exact Or.inr (⟨by omega, rfl, rfl⟩) | (exfalso; omega)
  · refine rch_run rfl (by decide) 8 (t' := (39, [some (vR 44), some (vR 21), some (vI i), some (vI (((I 22 i.toNat) * 6) + (I 23 i.toNat)))], [vI (I 47 (((I 22 i.toNat) * 6) + (I 23 i.toNat)).toNat), vI (I 25 i.toNat)], MW b I L)) (ps := [0 ≤ i ∧ i < ((150 : Nat) : Int), 0 ≤ ((I 22 i.toNat) * 6) + (I 23 i.toNat) ∧ ((I 22 i.toNat) * 6) + (I 23 i.toNat) < ((60 : Nat) : Int)]) rfl (by simp only [all_, i32, i64]; first | omega | (simp; done) | (simp; omega)) ?_
    refine rch_br rfl (cd := I 25 i.toNat < I 47 (((I 22 i.toNat) * 6) + (I 23 i.toNat)).toNat) (t1 := (78, [some (vR 44), some (vR 21), some (vI i), some (vI (((I 22 i.toNat) * 6) + (I 23 i.toNat)))], [], MW b I L)) (t2 := (42, [some (vR 44), some (vR 21), some (vI i), some (vI (((I 22 i.toNat) * 6) + (I 23 i.toNat)))], [], MW b I L)) rfl (fun c39_2 => ?_) (fun c39_2 => ?_)
    · refine rch_ret rfl (rt := none) rfl trivial mw_c ?_
      first | exact Or.inl ⟨by omega, rfl, rfl⟩ | exact Or.inr (⟨by omega, rfl, rfl⟩) | (exfalso; omega)
    · refine rch_run rfl (by decide) 24 (t' := (78, [some (vR 44), some (vR 21), some (vI i), some (vI (((I 22 i.toNat) * 6) + (I 23 i.toNat)))], [], MW b (upI (upI (upI I 46 (((I 22 i.toNat) * 6) + (I 23 i.toNat)).toNat (I 24 i.toNat)) 47 (((I 22 i.toNat) * 6) + (I 23 i.toNat)).toNat (I 25 i.toNat)) 48 (((I 22 i.toNat) * 6) + (I 23 i.toNat)).toNat (I 27 i.toNat)) L)) (ps := [0 ≤ i ∧ i < ((150 : Nat) : Int), 0 ≤ ((I 22 i.toNat) * 6) + (I 23 i.toNat) ∧ ((I 22 i.toNat) * 6) + (I 23 i.toNat) < ((60 : Nat) : Int), 0 ≤ i ∧ i < ((150 : Nat) : Int), 0 ≤ ((I 22 i.toNat) * 6) + (I 23 i.toNat) ∧ ((I 22 i.toNat) * 6) + (I 23 i.toNat) < ((60 : Nat) : Int), 0 ≤ i ∧ i < ((150 : Nat) : Int), 0 ≤ ((I 22 i.toNat) * 6) + (I 23 i.toNat) ∧ ((I 22 i.toNat) * 6) + (I 23 i.toNat) < ((60 : Nat) : Int), I 27 i.toNat = 0 ∨ I 27 i.toNat = 1]) rfl (by simp only [all_, i32, i64]; first | omega | (simp; done) | (simp; omega)) ?_
      refine rch_ret rfl (rt := none) rfl trivial mw_c ?_
      first | exact Or.inl ⟨by omega, rfl, rfl⟩ | exact Or.inr (⟨by omega, rfl, rfl⟩) | (exfalso; omega)

theorem lp_take3 (l : Launch) (E : AX) (b : Bool) (I L : Nat → Nat → Int) (d k : Int) (hV : VOK I) : ∀ (n9 : Nat) (i : Int) (J : Nat → Nat → Int), 0 ≤ i → i ≤ I 21 0 → FrS I J → J 44 0 = d ∧ J 44 1 = k → (∀ r, r < 10 → J 45 r = thr I k r) → (∀ c, c < 60 → Cel I J d k i.toNat c) → I 21 0 - i < (n9 : Int) → Rch l E 2 34 (MW b I L) 0 0 (fun rt w => ∃ J, rt = none ∧ w = MW b J L ∧ Took I J d k) (87, [some (vR 44), some (vR 17), some (vR 21), some (vI d), some (vI k), some (vI i)], [], MW b J L) := by
  intro n9
  induction n9 with
  | zero =>
    intro i J h1 h2 h3 h4 h5 h6 hm
    exfalso; omega
  | succ n9 ih =>
    intro i J h1 h2 h3 h4 h5 h6 hm
    have hv := hV.2.1
    have q21 := h3 21 0 (by omega)
    have q22 := h3 22 i.toNat (by omega)
    have q23 := h3 23 i.toNat (by omega)
    have q24 := h3 24 i.toNat (by omega)
    have q25 := h3 25 i.toNat (by omega)
    have q26 := h3 26 i.toNat (by omega)
    have q27 := h3 27 i.toNat (by omega)
    have hx := hV.2.2 i.toNat
    refine rch_run rfl (by decide) 3 (t' := (93, [some (vR 44), some (vR 17), some (vR 21), some (vI d), some (vI k), some (vI i)], [vI (J 21 0), vI i], MW b J L)) (ps := []) rfl trivial ?_
    refine rch_br rfl (cd := J 21 0 ≤ i) (t1 := (147, [some (vR 44), some (vR 17), some (vR 21), some (vI d), some (vI k), some (vI i)], [], MW b J L)) (t2 := (96, [some (vR 44), some (vR 17), some (vR 21), some (vI d), some (vI k), some (vI i)], [], MW b J L)) rfl (fun c93_1 => ?_) (fun c93_1 => ?_)
    · refine rch_ret rfl (rt := none) rfl trivial mw_c ?_
      exact ⟨J, rfl, rfl, h3, h4.1, h4.2, h5, by rw [show (I 21 0).toNat = i.toNat by omega]; exact h6⟩
    · refine rch_run rfl (by decide) 5 (t' := (105, [some (vR 44), some (vR 17), some (vR 21), some (vI d), some (vI k), some (vI i)], [vI k, vI (J 26 i.toNat)], MW b J L)) (ps := [0 ≤ i ∧ i < ((150 : Nat) : Int)]) rfl (by (try have hx := hx (by omega)); simp only [all_, i32, i64]; first | omega | (simp; done) | (simp; omega)) ?_
      refine rch_br rfl (cd := k < J 26 i.toNat) (t1 := (141, [some (vR 44), some (vR 17), some (vR 21), some (vI d), some (vI k), some (vI i)], [], MW b J L)) (t2 := (108, [some (vR 44), some (vR 17), some (vR 21), some (vI d), some (vI k), some (vI i)], [], MW b J L)) rfl (fun c105_2 => ?_) (fun c105_2 => ?_)
      · refine rch_run rfl (by decide) 2 (t' := (87, [some (vR 44), some (vR 17), some (vR 21), some (vI d), some (vI k), some (vI (i + 1))], [], MW b J L)) (ps := [i32 (i + 1)]) rfl (by (try have hx := hx (by omega)); simp only [all_, i32, i64]; first | omega | (simp; done) | (simp; omega)) ?_
        have hth := h5 (J 22 i.toNat).toNat
        have hx := hx (by omega)
        refine ih (i + 1) J (by omega) (by omega) h3 h4 h5 (fun c hc => ?_) (by omega)
        rw [show (i + 1).toNat = i.toNat + 1 by omega]
        exact take_skip h6 hc q22 q23 q24 q25 q26 hx hth (by omega)
      · refine rch_run rfl (by decide) 5 (t' := (116, [some (vR 44), some (vR 17), some (vR 21), some (vI d), some (vI k), some (vI i)], [vI d, vI (J 25 i.toNat)], MW b J L)) (ps := [0 ≤ i ∧ i < ((150 : Nat) : Int)]) rfl (by (try have hx := hx (by omega)); simp only [all_, i32, i64]; first | omega | (simp; done) | (simp; omega)) ?_
        refine rch_br rfl (cd := d < J 25 i.toNat) (t1 := (141, [some (vR 44), some (vR 17), some (vR 21), some (vI d), some (vI k), some (vI i)], [], MW b J L)) (t2 := (119, [some (vR 44), some (vR 17), some (vR 21), some (vI d), some (vI k), some (vI i)], [], MW b J L)) rfl (fun c116_3 => ?_) (fun c116_3 => ?_)
        · refine rch_run rfl (by decide) 2 (t' := (87, [some (vR 44), some (vR 17), some (vR 21), some (vI d), some (vI k), some (vI (i + 1))], [], MW b J L)) (ps := [i32 (i + 1)]) rfl (by (try have hx := hx (by omega)); simp only [all_, i32, i64]; first | omega | (simp; done) | (simp; omega)) ?_
          have hth := h5 (J 22 i.toNat).toNat
          have hx := hx (by omega)
          refine ih (i + 1) J (by omega) (by omega) h3 h4 h5 (fun c hc => ?_) (by omega)
          rw [show (i + 1).toNat = i.toNat + 1 by omega]
          exact take_skip h6 hc q22 q23 q24 q25 q26 hx hth (by omega)
        · refine rch_run rfl (by decide) 7 (t' := (131, [some (vR 44), some (vR 17), some (vR 21), some (vI d), some (vI k), some (vI i)], [vI (J 45 (J 22 i.toNat).toNat)], MW b J L)) (ps := [0 ≤ i ∧ i < ((150 : Nat) : Int), 0 ≤ J 22 i.toNat ∧ J 22 i.toNat < ((10 : Nat) : Int)]) rfl (by (try have hx := hx (by omega)); simp only [all_, i32, i64]; first | omega | (simp; done) | (simp; omega)) ?_
          refine rch_br rfl (cd := J 45 (J 22 i.toNat).toNat = 0) (t1 := (141, [some (vR 44), some (vR 17), some (vR 21), some (vI d), some (vI k), some (vI i)], [], MW b J L)) (t2 := (134, [some (vR 44), some (vR 17), some (vR 21), some (vI d), some (vI k), some (vI i)], [], MW b J L)) rfl (fun c131_4 => ?_) (fun c131_4 => ?_)
          · refine rch_run rfl (by decide) 2 (t' := (87, [some (vR 44), some (vR 17), some (vR 21), some (vI d), some (vI k), some (vI (i + 1))], [], MW b J L)) (ps := [i32 (i + 1)]) rfl (by (try have hx := hx (by omega)); simp only [all_, i32, i64]; first | omega | (simp; done) | (simp; omega)) ?_
            have hth := h5 (J 22 i.toNat).toNat
            have hx := hx (by omega)
            refine ih (i + 1) J (by omega) (by omega) h3 h4 h5 (fun c hc => ?_) (by omega)
            rw [show (i + 1).toNat = i.toNat + 1 by omega]
            exact take_skip h6 hc q22 q23 q24 q25 q26 hx hth (by omega)
          · refine rch_run rfl (by decide) 3 (t' := (138, [some (vR 44), some (vR 17), some (vR 21), some (vI d), some (vI k), some (vI i)], [vI i, vR 21, vR 44], MW b J L)) (ps := []) rfl trivial ?_
            refine rch_call (h' := 1) (k' := 35) (as := [vR 44, vR 21, vI i]) (t1 := (141, [some (vR 44), some (vR 17), some (vR 21), some (vI d), some (vI k), some (vI i)], [], MW b J L)) rfl rfl (k_X5_takeVersion l E b J L i (by show 0 ≤ i ∧ i < 150; (have hx := hx (by omega); omega)) (by show (0 ≤ J 22 i.toNat ∧ J 22 i.toNat < 10) ∧ (0 ≤ J 23 i.toNat ∧ J 23 i.toNat ≤ 5) ∧ (J 27 i.toNat = 0 ∨ J 27 i.toNat = 1); (have hx := hx (by omega); omega))) (by decide) mw_le ?_
            rintro rt9 w9 (⟨k40, rfl, rfl⟩ | ⟨k40, rfl, rfl⟩) _ _
            · show Rch l E 2 34 _ _ _ _ (141, [some (vR 44), some (vR 17), some (vR 21), some (vI d), some (vI k), some (vI i)], [], MW b (upI (upI (upI J 46 (((J 22 i.toNat) * 6) + (J 23 i.toNat)).toNat (J 24 i.toNat)) 47 (((J 22 i.toNat) * 6) + (J 23 i.toNat)).toNat (J 25 i.toNat)) 48 (((J 22 i.toNat) * 6) + (J 23 i.toNat)).toNat (J 27 i.toNat)) L)
              have k40 : J 46 (((J 22 i.toNat) * 6) + (J 23 i.toNat)).toNat = -1 ∨ J 47 (((J 22 i.toNat) * 6) + (J 23 i.toNat)).toNat ≤ J 25 i.toNat := k40
              refine rch_run rfl (by decide) 2 (t' := (87, [some (vR 44), some (vR 17), some (vR 21), some (vI d), some (vI k), some (vI (i + 1))], [], MW b (upI (upI (upI J 46 (((J 22 i.toNat) * 6) + (J 23 i.toNat)).toNat (J 24 i.toNat)) 47 (((J 22 i.toNat) * 6) + (J 23 i.toNat)).toNat (J 25 i.toNat)) 48 (((J 22 i.toNat) * 6) + (J 23 i.toNat)).toNat (J 27 i.toNat)) L)) (ps := [i32 (i + 1)]) rfl (by (try have hx := hx (by omega)); simp only [all_, i32, i64]; first | omega | (simp; done) | (simp; omega)) ?_
              have hx := hx (by omega)
              have hth := h5 (J 22 i.toNat).toNat (by omega)
              refine ih (i + 1) (upI (upI (upI J 46 (((J 22 i.toNat) * 6) + (J 23 i.toNat)).toNat (J 24 i.toNat)) 47 (((J 22 i.toNat) * 6) + (J 23 i.toNat)).toNat (J 25 i.toNat)) 48 (((J 22 i.toNat) * 6) + (J 23 i.toNat)).toNat (J 27 i.toNat)) (by omega) (by omega) (fun a j ha => ?_) ⟨?_, ?_⟩ (fun r hr => ?_) (fun c hc => ?_) (by omega)
              · rw [upI_ne (by omega), upI_ne (by omega), upI_ne (by omega)]; exact h3 a j ha
              · exact h4.1
              · exact h4.2
              · exact h5 r hr
              · rw [show (i + 1).toNat = i.toNat + 1 by omega]
                by_cases hcc : c = ((((J 22 i.toNat) * 6) + (J 23 i.toNat))).toNat
                · exact take_hit hV (by omega) h6 hc hcc q22 q23 q24 q25 q26 q27 hth (by omega) (by omega) (by omega) (by omega)
                · refine Cel_skip (h6 c hc) (sv_skip (fun z => hcc ?_)) (by rw [upI_ne (by omega), upI_ne (by omega), upI_ne (by omega)]) (by rw [upI_ne (by omega), upI_ne (by omega), upI_ne (by omega)]) (by rw [upI_ne (by omega), upI_ne (by omega), upI_ne (by omega)])
                  omega
            · show Rch l E 2 34 _ _ _ _ (141, [some (vR 44), some (vR 17), some (vR 21), some (vI d), some (vI k), some (vI i)], [], MW b J L)
              have k40 : ¬ (J 46 (((J 22 i.toNat) * 6) + (J 23 i.toNat)).toNat = -1 ∨ J 47 (((J 22 i.toNat) * 6) + (J 23 i.toNat)).toNat ≤ J 25 i.toNat) := k40
              refine rch_run rfl (by decide) 2 (t' := (87, [some (vR 44), some (vR 17), some (vR 21), some (vI d), some (vI k), some (vI (i + 1))], [], MW b J L)) (ps := [i32 (i + 1)]) rfl (by (try have hx := hx (by omega)); simp only [all_, i32, i64]; first | omega | (simp; done) | (simp; omega)) ?_
              have hth := h5 (J 22 i.toNat).toNat
              have hx := hx (by omega)
              refine ih (i + 1) J (by omega) (by omega) h3 h4 h5 (fun c hc => ?_) (by omega)
              rw [show (i + 1).toNat = i.toNat + 1 by omega]
              exact take_skip h6 hc q22 q23 q24 q25 q26 hx hth (by omega)

theorem lp_take2 (l : Launch) (E : AX) (b : Bool) (I L : Nat → Nat → Int) (d k : Int) (hV : VOK I) : ∀ (n9 : Nat) (i : Int) (J : Nat → Nat → Int), 0 ≤ i → i ≤ 60 → FrS I J → J 44 0 = d ∧ J 44 1 = k → (∀ r, r < 10 → J 45 r = thr I k r) → (∀ c : Nat, (c : Int) < i → J 46 c = -1) → 60 - i < (n9 : Int) → Rch l E 2 34 (MW b I L) 0 0 (fun rt w => ∃ J, rt = none ∧ w = MW b J L ∧ Took I J d k) (63, [some (vR 44), some (vR 17), some (vR 21), some (vI d), some (vI k), some (vI i)], [], MW b J L) := by
  intro n9
  induction n9 with
  | zero =>
    intro i J h1 h2 h3 h4 h5 h6 hm
    exfalso; omega
  | succ n9 ih =>
    intro i J h1 h2 h3 h4 h5 h6 hm
    refine rch_run rfl (by decide) 2 (t' := (67, [some (vR 44), some (vR 17), some (vR 21), some (vI d), some (vI k), some (vI i)], [vI 60, vI i], MW b J L)) (ps := []) rfl trivial ?_
    refine rch_br rfl (cd := (60 : Int) ≤ i) (t1 := (84, [some (vR 44), some (vR 17), some (vR 21), some (vI d), some (vI k), some (vI i)], [], MW b J L)) (t2 := (70, [some (vR 44), some (vR 17), some (vR 21), some (vI d), some (vI k), some (vI i)], [], MW b J L)) rfl (fun c67_1 => ?_) (fun c67_1 => ?_)
    · refine rch_run rfl (by decide) 2 (t' := (87, [some (vR 44), some (vR 17), some (vR 21), some (vI d), some (vI k), some (vI 0)], [], MW b J L)) (ps := []) rfl trivial ?_
      exact lp_take3 l E b I L d k hV 151 0 J (by omega) hV.2.1.1 h3 h4 h5 (fun c hc => ⟨by show J 46 c = if sv I d k 0 c < 0 then -1 else _; rw [sv_0, if_pos (by omega)]; exact h6 c (by omega), fun h => by rw [show Int.toNat 0 = 0 from rfl, sv_0] at h; omega⟩) (by have := hV.2.1; omega)
    · refine rch_run rfl (by decide) 7 (t' := (63, [some (vR 44), some (vR 17), some (vR 21), some (vI d), some (vI k), some (vI (i + 1))], [], MW b (upI J 46 i.toNat (-1)) L)) (ps := [0 ≤ i ∧ i < ((60 : Nat) : Int), i32 (i + 1)]) rfl (by simp only [all_, i32, i64]; first | omega | (simp; done) | (simp; omega)) ?_
      refine ih (i + 1) (upI J 46 i.toNat (-1)) (by omega) (by omega) (fun a j ha => ?_) h4 h5 (fun c hc => ?_) (by omega)
      · rw [upI_ne (by omega)]; exact h3 a j ha
      · by_cases hcc : c = i.toNat
        · rw [upI_eq rfl hcc]
        · rw [upI_ne (by omega)]; exact h6 c (by omega)

theorem lp_take1 (l : Launch) (E : AX) (b : Bool) (I L : Nat → Nat → Int) (d k : Int) (hV : VOK I) : ∀ (n9 : Nat) (i : Int) (J : Nat → Nat → Int), 0 ≤ i → i ≤ 10 → FrS I J → J 44 0 = d ∧ J 44 1 = k → (∀ r : Nat, (r : Int) < i → J 45 r = thr I k r) → 10 - i < (n9 : Int) → Rch l E 2 34 (MW b I L) 0 0 (fun rt w => ∃ J, rt = none ∧ w = MW b J L ∧ Took I J d k) (14, [some (vR 44), some (vR 17), some (vR 21), some (vI d), some (vI k), some (vI i)], [], MW b J L) := by
  intro n9
  induction n9 with
  | zero =>
    intro i J h1 h2 h3 h4 h5 hm
    exfalso; omega
  | succ n9 ih =>
    intro i J h1 h2 h3 h4 h5 hm
    have hv := hV.1
    have q17 := h3 17 0 (by omega)
    have q19 := h3 19 i.toNat (by omega)
    have q20 := h3 20 i.toNat (by omega)
    refine rch_run rfl (by decide) 2 (t' := (18, [some (vR 44), some (vR 17), some (vR 21), some (vI d), some (vI k), some (vI i)], [vI 10, vI i], MW b J L)) (ps := []) rfl trivial ?_
    refine rch_br rfl (cd := (10 : Int) ≤ i) (t1 := (60, [some (vR 44), some (vR 17), some (vR 21), some (vI d), some (vI k), some (vI i)], [], MW b J L)) (t2 := (21, [some (vR 44), some (vR 17), some (vR 21), some (vI d), some (vI k), some (vI i)], [], MW b J L)) rfl (fun c18_1 => ?_) (fun c18_1 => ?_)
    · refine rch_run rfl (by decide) 2 (t' := (63, [some (vR 44), some (vR 17), some (vR 21), some (vI d), some (vI k), some (vI 0)], [], MW b J L)) (ps := []) rfl trivial ?_
      exact lp_take2 l E b I L d k hV 61 0 J (by omega) (by omega) h3 h4 (fun r hr => h5 r (by omega)) (fun c hc => by omega) (by omega)
    · refine rch_run rfl (by decide) 5 (t' := (30, [some (vR 44), some (vR 17), some (vR 21), some (vI d), some (vI k), some (vI i)], [vI i, vR 17, vI i, vR 45], MW b J L)) (ps := []) rfl trivial ?_
      refine rch_call (h' := 1) (k' := 32) (as := [vR 17, vI i]) (t1 := (33, [some (vR 44), some (vR 17), some (vR 21), some (vI d), some (vI k), some (vI i)], [vI i, vR 45], MW b J L)) rfl rfl (k_X4_isAlive l E b J L i (by show J 17 0 ≤ 10; omega)) (by decide) mw_le ?_
      rintro rt9 w9 (⟨k41, rfl, rfl⟩ | ⟨k41, rfl, rfl⟩) _ _
      · show Rch l E 2 34 _ _ _ _ (33, [some (vR 44), some (vR 17), some (vR 21), some (vI d), some (vI k), some (vI i)], [vI 1, vI i, vR 45], MW b J L)
        have k41 : 0 ≤ i ∧ i < J 17 0 ∧ J 20 i.toNat = 0 := k41
        refine rch_br rfl (cd := (1 : Int) = 0) (t1 := (52, [some (vR 44), some (vR 17), some (vR 21), some (vI d), some (vI k), some (vI i)], [vI i, vR 45], MW b J L)) (t2 := (36, [some (vR 44), some (vR 17), some (vR 21), some (vI d), some (vI k), some (vI i)], [vI i, vR 45], MW b J L)) rfl (fun c9 => absurd c9 (by decide)) (fun _ => ?_)
        refine rch_run rfl (by decide) 5 (t' := (45, [some (vR 44), some (vR 17), some (vR 21), some (vI d), some (vI k), some (vI i)], [vI k, vI (J 19 i.toNat), vI i, vR 45], MW b J L)) (ps := [0 ≤ i ∧ i < ((10 : Nat) : Int)]) rfl (by simp only [all_, i32, i64]; first | omega | (simp; done) | (simp; omega)) ?_
        refine rch_br rfl (cd := k < J 19 i.toNat) (t1 := (52, [some (vR 44), some (vR 17), some (vR 21), some (vI d), some (vI k), some (vI i)], [vI i, vR 45], MW b J L)) (t2 := (48, [some (vR 44), some (vR 17), some (vR 21), some (vI d), some (vI k), some (vI i)], [vI i, vR 45], MW b J L)) rfl (fun c45_3 => ?_) (fun c45_3 => ?_)
        · refine rch_run rfl (by decide) 4 (t' := (14, [some (vR 44), some (vR 17), some (vR 21), some (vI d), some (vI k), some (vI (i + 1))], [], MW b (upI J 45 i.toNat 0) L)) (ps := [0 ≤ i ∧ i < ((10 : Nat) : Int), (0 : Int) = 0 ∨ (0 : Int) = 1, i32 (i + 1)]) rfl (by simp only [all_, i32, i64]; first | omega | (simp; done) | (simp; omega)) ?_
          refine ih (i + 1) (upI J 45 i.toNat 0) (by omega) (by omega) (fun a j ha => ?_) h4 (fun r hr => ?_) (by omega)
          · rw [upI_ne (by omega)]; exact h3 a j ha
          · by_cases hcc : r = i.toNat
            · rw [upI_eq rfl hcc, hcc]; unfold thr; first | rw [if_pos (by omega)] | rw [if_neg (by omega)]
            · rw [upI_ne (by omega)]; exact h5 r (by omega)
        · refine rch_run rfl (by decide) 5 (t' := (14, [some (vR 44), some (vR 17), some (vR 21), some (vI d), some (vI k), some (vI (i + 1))], [], MW b (upI J 45 i.toNat 1) L)) (ps := [0 ≤ i ∧ i < ((10 : Nat) : Int), (1 : Int) = 0 ∨ (1 : Int) = 1, i32 (i + 1)]) rfl (by simp only [all_, i32, i64]; first | omega | (simp; done) | (simp; omega)) ?_
          refine ih (i + 1) (upI J 45 i.toNat 1) (by omega) (by omega) (fun a j ha => ?_) h4 (fun r hr => ?_) (by omega)
          · rw [upI_ne (by omega)]; exact h3 a j ha
          · by_cases hcc : r = i.toNat
            · rw [upI_eq rfl hcc, hcc]; unfold thr; first | rw [if_pos (by omega)] | rw [if_neg (by omega)]
            · rw [upI_ne (by omega)]; exact h5 r (by omega)
      · show Rch l E 2 34 _ _ _ _ (33, [some (vR 44), some (vR 17), some (vR 21), some (vI d), some (vI k), some (vI i)], [vI 0, vI i, vR 45], MW b J L)
        have k41 : ¬ (0 ≤ i ∧ i < J 17 0 ∧ J 20 i.toNat = 0) := k41
        refine rch_br rfl (cd := (0 : Int) = 0) (t1 := (52, [some (vR 44), some (vR 17), some (vR 21), some (vI d), some (vI k), some (vI i)], [vI i, vR 45], MW b J L)) (t2 := (36, [some (vR 44), some (vR 17), some (vR 21), some (vI d), some (vI k), some (vI i)], [vI i, vR 45], MW b J L)) rfl (fun _ => ?_) (fun c9 => absurd (by decide) c9)
        refine rch_run rfl (by decide) 4 (t' := (14, [some (vR 44), some (vR 17), some (vR 21), some (vI d), some (vI k), some (vI (i + 1))], [], MW b (upI J 45 i.toNat 0) L)) (ps := [0 ≤ i ∧ i < ((10 : Nat) : Int), (0 : Int) = 0 ∨ (0 : Int) = 1, i32 (i + 1)]) rfl (by simp only [all_, i32, i64]; first | omega | (simp; done) | (simp; omega)) ?_
        refine ih (i + 1) (upI J 45 i.toNat 0) (by omega) (by omega) (fun a j ha => ?_) h4 (fun r hr => ?_) (by omega)
        · rw [upI_ne (by omega)]; exact h3 a j ha
        · by_cases hcc : r = i.toNat
          · rw [upI_eq rfl hcc, hcc]; unfold thr; first | rw [if_pos (by omega)] | rw [if_neg (by omega)]
          · rw [upI_ne (by omega)]; exact h5 r (by omega)

theorem k_X5_take (l : Launch) (E : AX) (b : Bool) (I L : Nat → Nat → Int) (d k : Int) (hV : VOK I) : Con l E 2 34 [vR 44, vR 17, vR 21, vI d, vI k] (MW b I L) 0 0 (fun rt w => ∃ J, rt = none ∧ w = MW b J L ∧ Took I J d k) := by
  refine con_ok (fun hw9 hs9 => ?_)
  refine con_intro (by decide) (Nat.le_of_ble_eq_true rfl) ?_
  show Rch l E 2 34 _ _ _ _ (0, [some (vR 44), some (vR 17), some (vR 21), some (vI d), some (vI k), none], [], MW b I L)
  refine rch_run rfl (by decide) 8 (t' := (14, [some (vR 44), some (vR 17), some (vR 21), some (vI d), some (vI k), some (vI 0)], [], MW b (upI (upI I 44 0 d) 44 1 k) L)) (ps := []) rfl trivial ?_
  exact lp_take1 l E b I L d k hV 11 0 (upI (upI I 44 0 d) 44 1 k) (by omega) (by omega) (fun a j ha => by rw [upI_ne (by omega), upI_ne (by omega)]) ⟨rfl, rfl⟩ (fun r hr => by omega) (by omega)
end
section
def LookR (I J : Nat → Nat → Int) (d k : Int) : Prop := (J = I ∧ I 0 1 ≠ 0 ∧ I 44 0 = d ∧ I 44 1 = k) ∨ ∃ J1, Took I J1 d k ∧ J = upI (upI J1 0 1 1) 0 2 0

theorem k_X11_look (l : Launch) (E : AX) (b : Bool) (I L : Nat → Nat → Int) (d k : Int) (hV : VOK I) : Con l E 3 93 [vR 0, vI d, vI k] (MW b I L) 0 0 (fun rt w => ∃ J, rt = none ∧ w = MW b J L ∧ LookR I J d k) := by
  refine con_ok (fun hw9 hs9 => ?_)
  refine con_intro (by decide) (Nat.le_of_ble_eq_true rfl) ?_
  show Rch l E 3 93 _ _ _ _ (0, [some (vR 0), some (vI d), some (vI k)], [], MW b I L)
  refine rch_run rfl (by decide) 2 (t' := (4, [some (vR 0), some (vI d), some (vI k)], [vI (I 0 1)], MW b I L)) (ps := []) rfl trivial ?_
  refine rch_br rfl (cd := I 0 1 = 0) (t1 := (30, [some (vR 0), some (vI d), some (vI k)], [], MW b I L)) (t2 := (7, [some (vR 0), some (vI d), some (vI k)], [], MW b I L)) rfl (fun c4_1 => ?_) (fun c4_1 => ?_)
  · refine rch_run rfl (by decide) 8 (t' := (44, [some (vR 0), some (vI d), some (vI k)], [vI k, vI d, vR 21, vR 17, vR 44], MW b I L)) (ps := []) rfl trivial ?_
    refine rch_call (h' := 2) (k' := 34) (as := [vR 44, vR 17, vR 21, vI d, vI k]) (t1 := (47, [some (vR 0), some (vI d), some (vI k)], [], MW b I L)) rfl rfl (k_X5_take l E b I L d k hV) (by decide) mw_le ?_
    rintro rt9 w9 (⟨J1, rfl, rfl, t1⟩) _ _
    show Rch l E 3 93 _ _ _ _ (47, [some (vR 0), some (vI d), some (vI k)], [], MW b J1 L)
    refine rch_run rfl (by decide) 6 (t' := (57, [some (vR 0), some (vI d), some (vI k)], [], MW b (upI (upI J1 0 1 1) 0 2 0) L)) (ps := [(1 : Int) = 0 ∨ (1 : Int) = 1, (0 : Int) = 0 ∨ (0 : Int) = 1]) rfl (by simp only [all_, i32, i64]; first | omega | (simp; done) | (simp; omega)) ?_
    refine rch_ret rfl (rt := none) rfl trivial mw_c ?_
    exact ⟨_, rfl, rfl, Or.inr ⟨J1, t1, rfl⟩⟩
  · refine rch_run rfl (by decide) 4 (t' := (15, [some (vR 0), some (vI d), some (vI k)], [vI d, vI (I 44 0)], MW b I L)) (ps := []) rfl trivial ?_
    refine rch_br rfl (cd := I 44 0 ≠ d) (t1 := (30, [some (vR 0), some (vI d), some (vI k)], [], MW b I L)) (t2 := (18, [some (vR 0), some (vI d), some (vI k)], [], MW b I L)) rfl (fun c15_2 => ?_) (fun c15_2 => ?_)
    · refine rch_run rfl (by decide) 8 (t' := (44, [some (vR 0), some (vI d), some (vI k)], [vI k, vI d, vR 21, vR 17, vR 44], MW b I L)) (ps := []) rfl trivial ?_
      refine rch_call (h' := 2) (k' := 34) (as := [vR 44, vR 17, vR 21, vI d, vI k]) (t1 := (47, [some (vR 0), some (vI d), some (vI k)], [], MW b I L)) rfl rfl (k_X5_take l E b I L d k hV) (by decide) mw_le ?_
      rintro rt9 w9 (⟨J2, rfl, rfl, t2⟩) _ _
      show Rch l E 3 93 _ _ _ _ (47, [some (vR 0), some (vI d), some (vI k)], [], MW b J2 L)
      refine rch_run rfl (by decide) 6 (t' := (57, [some (vR 0), some (vI d), some (vI k)], [], MW b (upI (upI J2 0 1 1) 0 2 0) L)) (ps := [(1 : Int) = 0 ∨ (1 : Int) = 1, (0 : Int) = 0 ∨ (0 : Int) = 1]) rfl (by simp only [all_, i32, i64]; first | omega | (simp; done) | (simp; omega)) ?_
      refine rch_ret rfl (rt := none) rfl trivial mw_c ?_
      exact ⟨_, rfl, rfl, Or.inr ⟨J2, t2, rfl⟩⟩
    · refine rch_run rfl (by decide) 4 (t' := (26, [some (vR 0), some (vI d), some (vI k)], [vI k, vI (I 44 1)], MW b I L)) (ps := []) rfl trivial ?_
      refine rch_br rfl (cd := I 44 1 ≠ k) (t1 := (30, [some (vR 0), some (vI d), some (vI k)], [], MW b I L)) (t2 := (29, [some (vR 0), some (vI d), some (vI k)], [], MW b I L)) rfl (fun c26_3 => ?_) (fun c26_3 => ?_)
      · refine rch_run rfl (by decide) 8 (t' := (44, [some (vR 0), some (vI d), some (vI k)], [vI k, vI d, vR 21, vR 17, vR 44], MW b I L)) (ps := []) rfl trivial ?_
        refine rch_call (h' := 2) (k' := 34) (as := [vR 44, vR 17, vR 21, vI d, vI k]) (t1 := (47, [some (vR 0), some (vI d), some (vI k)], [], MW b I L)) rfl rfl (k_X5_take l E b I L d k hV) (by decide) mw_le ?_
        rintro rt9 w9 (⟨J3, rfl, rfl, t3⟩) _ _
        show Rch l E 3 93 _ _ _ _ (47, [some (vR 0), some (vI d), some (vI k)], [], MW b J3 L)
        refine rch_run rfl (by decide) 6 (t' := (57, [some (vR 0), some (vI d), some (vI k)], [], MW b (upI (upI J3 0 1 1) 0 2 0) L)) (ps := [(1 : Int) = 0 ∨ (1 : Int) = 1, (0 : Int) = 0 ∨ (0 : Int) = 1]) rfl (by simp only [all_, i32, i64]; first | omega | (simp; done) | (simp; omega)) ?_
        refine rch_ret rfl (rt := none) rfl trivial mw_c ?_
        exact ⟨_, rfl, rfl, Or.inr ⟨J3, t3, rfl⟩⟩
      · refine rch_ret rfl (rt := none) rfl trivial mw_c ?_
        exact ⟨I, rfl, rfl, Or.inl ⟨rfl, by omega, by omega, by omega⟩⟩

theorem k_X11_value (l : Launch) (E : AX) (b : Bool) (I L : Nat → Nat → Int) (r f d k : Int) (hV : VOK I) : Con l E 4 67 [vR 0, vI r, vI f, vI d, vI k] (MW b I L) 0 0 (fun rt w => ∃ J, w = MW b J L ∧ LookR I J d k ∧ (((0 ≤ r ∧ r < 10 ∧ J 45 r.toNat ≠ 0) ∧ 0 ≤ f ∧ f ≤ 5) ∧ rt = some (vI (J 46 ((r * 6) + f).toNat)) ∨ ¬ ((0 ≤ r ∧ r < 10 ∧ J 45 r.toNat ≠ 0) ∧ 0 ≤ f ∧ f ≤ 5) ∧ rt = some (vI (-1)))) := by
  refine con_ok (fun hw9 hs9 => ?_)
  refine con_intro (by decide) (Nat.le_of_ble_eq_true rfl) ?_
  show Rch l E 4 67 _ _ _ _ (0, [some (vR 0), some (vI r), some (vI f), some (vI d), some (vI k)], [], MW b I L)
  refine rch_run rfl (by decide) 3 (t' := (4, [some (vR 0), some (vI r), some (vI f), some (vI d), some (vI k)], [vI k, vI d, vR 0], MW b I L)) (ps := []) rfl trivial ?_
  refine rch_call (h' := 3) (k' := 93) (as := [vR 0, vI d, vI k]) (t1 := (7, [some (vR 0), some (vI r), some (vI f), some (vI d), some (vI k)], [], MW b I L)) rfl rfl (k_X11_look l E b I L d k hV) (by decide) mw_le ?_
  rintro rt9 w9 (⟨J11, rfl, rfl, t11⟩) _ _
  show Rch l E 4 67 _ _ _ _ (7, [some (vR 0), some (vI r), some (vI f), some (vI d), some (vI k)], [], MW b J11 L)
  refine rch_run rfl (by decide) 4 (t' := (13, [some (vR 0), some (vI r), some (vI f), some (vI d), some (vI k)], [vI f, vI r, vR 44], MW b J11 L)) (ps := []) rfl trivial ?_
  refine rch_call (h' := 2) (k' := 37) (as := [vR 44, vI r, vI f]) (t1 := (16, [some (vR 0), some (vI r), some (vI f), some (vI d), some (vI k)], [], MW b J11 L)) rfl rfl (k_X5_valueOf l E b J11 L r f ) (by decide) mw_le ?_
  rintro rt9 w9 (⟨k42, rfl, rfl⟩ | ⟨k42, rfl, rfl⟩) _ _
  · show Rch l E 4 67 _ _ _ _ (16, [some (vR 0), some (vI r), some (vI f), some (vI d), some (vI k)], [vI (J11 46 ((r * 6) + f).toNat)], MW b J11 L)
    have k42 : (0 ≤ r ∧ r < 10 ∧ J11 45 r.toNat ≠ 0) ∧ 0 ≤ f ∧ f ≤ 5 := k42
    refine rch_ret rfl (rt := some (vI (J11 46 ((r * 6) + f).toNat))) rfl trivial mw_c ?_
    exact ⟨J11, rfl, t11, by first | exact Or.inl ⟨by omega, rfl⟩ | exact Or.inr ⟨by omega, rfl⟩⟩
  · show Rch l E 4 67 _ _ _ _ (16, [some (vR 0), some (vI r), some (vI f), some (vI d), some (vI k)], [vI (-1)], MW b J11 L)
    have k42 : ¬ ((0 ≤ r ∧ r < 10 ∧ J11 45 r.toNat ≠ 0) ∧ 0 ≤ f ∧ f ≤ 5) := k42
    refine rch_ret rfl (rt := some (vI (-1))) rfl trivial mw_c ?_
    exact ⟨J11, rfl, t11, by first | exact Or.inl ⟨by omega, rfl⟩ | exact Or.inr ⟨by omega, rfl⟩⟩

theorem k_X12_value (l : Launch) (E : AX) (b : Bool) (I L : Nat → Nat → Int) (r f d k : Int) (hn : I 74 4 ≤ 10) (hv : 0 ≤ I 74 5 ∧ I 74 5 ≤ 150) : Con l E 3 116 [vR 74, vI r, vI f, vI d, vI k] (MW b I L) 0 0 (fun rt w => (((0 ≤ r ∧ r < I 74 4 ∧ I 80 r.toNat = 0) ∧ 0 ≤ f ∧ f ≤ 5) ∧ rt = some (vI (vo (I 81) (I 82) (I 83) (I 84) (I 85) r f d k (I 74 5).toNat)) ∧ w = MW b I L) ∨ (¬ ((0 ≤ r ∧ r < I 74 4 ∧ I 80 r.toNat = 0) ∧ 0 ≤ f ∧ f ≤ 5) ∧ rt = some (vI (-1)) ∧ w = MW b I L)) := by
  refine con_ok (fun hw9 hs9 => ?_)
  refine con_intro (by decide) (Nat.le_of_ble_eq_true rfl) ?_
  show Rch l E 3 116 _ _ _ _ (0, [some (vR 74), some (vI r), some (vI f), some (vI d), some (vI k)], [], MW b I L)
  refine rch_run rfl (by decide) 2 (t' := (2, [some (vR 74), some (vI r), some (vI f), some (vI d), some (vI k)], [vI r, vR 74], MW b I L)) (ps := []) rfl trivial ?_
  refine rch_call (h' := 1) (k' := 109) (as := [vR 74, vI r]) (t1 := (5, [some (vR 74), some (vI r), some (vI f), some (vI d), some (vI k)], [], MW b I L)) rfl rfl (k_X12_isRow l E b I L r (by show I 74 4 ≤ 10; omega)) (by decide) mw_le ?_
  rintro rt9 w9 (⟨k43, rfl, rfl⟩ | ⟨k43, rfl, rfl⟩) _ _
  · show Rch l E 3 116 _ _ _ _ (5, [some (vR 74), some (vI r), some (vI f), some (vI d), some (vI k)], [vI 1], MW b I L)
    have k43 : 0 ≤ r ∧ r < I 74 4 ∧ I 80 r.toNat = 0 := k43
    refine rch_br rfl (cd := (1 : Int) = 0) (t1 := (27, [some (vR 74), some (vI r), some (vI f), some (vI d), some (vI k)], [], MW b I L)) (t2 := (8, [some (vR 74), some (vI r), some (vI f), some (vI d), some (vI k)], [], MW b I L)) rfl (fun c9 => absurd c9 (by decide)) (fun _ => ?_)
    refine rch_run rfl (by decide) 1 (t' := (9, [some (vR 74), some (vI r), some (vI f), some (vI d), some (vI k)], [vI f], MW b I L)) (ps := []) rfl trivial ?_
    refine rch_call (h' := 1) (k' := 104) (as := [vI f]) (t1 := (12, [some (vR 74), some (vI r), some (vI f), some (vI d), some (vI k)], [], MW b I L)) rfl rfl (k_X12_isField l E b I L f ) (by decide) mw_le ?_
    rintro rt9 w9 (⟨k44, rfl, rfl⟩ | ⟨k44, rfl, rfl⟩) _ _
    · show Rch l E 3 116 _ _ _ _ (12, [some (vR 74), some (vI r), some (vI f), some (vI d), some (vI k)], [vI 1], MW b I L)
      have k44 : 0 ≤ f ∧ f ≤ 5 := k44
      refine rch_br rfl (cd := (1 : Int) = 0) (t1 := (27, [some (vR 74), some (vI r), some (vI f), some (vI d), some (vI k)], [], MW b I L)) (t2 := (15, [some (vR 74), some (vI r), some (vI f), some (vI d), some (vI k)], [], MW b I L)) rfl (fun c9 => absurd c9 (by decide)) (fun _ => ?_)
      refine rch_run rfl (by decide) 5 (t' := (21, [some (vR 74), some (vI r), some (vI f), some (vI d), some (vI k)], [vI k, vI d, vI f, vI r, vR 74], MW b I L)) (ps := []) rfl trivial ?_
      refine rch_call (h' := 2) (k' := 115) (as := [vR 74, vI r, vI f, vI d, vI k]) (t1 := (24, [some (vR 74), some (vI r), some (vI f), some (vI d), some (vI k)], [], MW b I L)) rfl rfl (k_X12_valueOf l E b I L r f d k (by show 0 ≤ I 74 5 ∧ I 74 5 ≤ 150; omega)) (by decide) mw_le ?_
      rintro rt9 w9 (⟨rfl, rfl⟩) _ _
      show Rch l E 3 116 _ _ _ _ (24, [some (vR 74), some (vI r), some (vI f), some (vI d), some (vI k)], [vI (vo (I 81) (I 82) (I 83) (I 84) (I 85) r f d k (I 74 5).toNat)], MW b I L)
      refine rch_run rfl (by decide) 1 (t' := (28, [some (vR 74), some (vI r), some (vI f), some (vI d), some (vI k)], [vI (vo (I 81) (I 82) (I 83) (I 84) (I 85) r f d k (I 74 5).toNat)], MW b I L)) (ps := []) rfl trivial ?_
      refine rch_ret rfl (rt := some (vI (vo (I 81) (I 82) (I 83) (I 84) (I 85) r f d k (I 74 5).toNat))) rfl trivial mw_c ?_
      first | exact Or.inl ⟨by omega, rfl, rfl⟩ | exact Or.inr ⟨by omega, rfl, rfl⟩
    · show Rch l E 3 116 _ _ _ _ (12, [some (vR 74), some (vI r), some (vI f), some (vI d), some (vI k)], [vI 0], MW b I L)
      have k44 : ¬ (0 ≤ f ∧ f ≤ 5) := k44
      refine rch_br rfl (cd := (0 : Int) = 0) (t1 := (27, [some (vR 74), some (vI r), some (vI f), some (vI d), some (vI k)], [], MW b I L)) (t2 := (15, [some (vR 74), some (vI r), some (vI f), some (vI d), some (vI k)], [], MW b I L)) rfl (fun _ => ?_) (fun c9 => absurd (by decide) c9)
      refine rch_run rfl (by decide) 1 (t' := (28, [some (vR 74), some (vI r), some (vI f), some (vI d), some (vI k)], [vI (-1)], MW b I L)) (ps := []) rfl trivial ?_
      refine rch_ret rfl (rt := some (vI (-1))) rfl trivial mw_c ?_
      first | exact Or.inl ⟨by omega, rfl, rfl⟩ | exact Or.inr ⟨by omega, rfl, rfl⟩
  · show Rch l E 3 116 _ _ _ _ (5, [some (vR 74), some (vI r), some (vI f), some (vI d), some (vI k)], [vI 0], MW b I L)
    have k43 : ¬ (0 ≤ r ∧ r < I 74 4 ∧ I 80 r.toNat = 0) := k43
    refine rch_br rfl (cd := (0 : Int) = 0) (t1 := (27, [some (vR 74), some (vI r), some (vI f), some (vI d), some (vI k)], [], MW b I L)) (t2 := (8, [some (vR 74), some (vI r), some (vI f), some (vI d), some (vI k)], [], MW b I L)) rfl (fun _ => ?_) (fun c9 => absurd (by decide) c9)
    refine rch_run rfl (by decide) 1 (t' := (28, [some (vR 74), some (vI r), some (vI f), some (vI d), some (vI k)], [vI (-1)], MW b I L)) (ps := []) rfl trivial ?_
    refine rch_ret rfl (rt := some (vI (-1))) rfl trivial mw_c ?_
    first | exact Or.inl ⟨by omega, rfl, rfl⟩ | exact Or.inr ⟨by omega, rfl, rfl⟩
end
