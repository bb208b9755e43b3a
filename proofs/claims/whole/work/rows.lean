section
-- ===== PART A: goes FIRST, ahead of the names: the tables' words, and 'selects' of the private methods out of them =====
/-- a private method of a class that the tables say can be made, by its rows of tables_1 -/
def lw_okq (q : MethodName × Nat) : Prop := (q.1.cls ≠ "java/lang/invoke/MethodHandle" ∧ q.1.cls ≠ "java/lang/invoke/VarHandle") ∧ Cond.instantiable q.1.cls q.2 ∈ tables_1 ∧ Cond.privateMethod q.1 ∈ tables_1 ∧ Cond.instanceMethod q.1 ∈ tables_1
theorem lw_p0 : lw_okq (⟨"GoldenRows", "look", "(II)V"⟩, 18) := ⟨⟨by decide +kernel, by decide +kernel⟩, List.mem_of_getElem? (i := 21) (by decide +kernel), List.mem_of_getElem? (i := 472) (by decide +kernel), List.mem_of_getElem? (i := 473) (by decide +kernel)⟩
theorem lw_p1 : lw_okq (⟨"GoldenRows$Sight", "takeVersion", "(LGoldenRows$Versions;I)V"⟩, 6) := ⟨⟨by decide +kernel, by decide +kernel⟩, List.mem_of_getElem? (i := 223) (by decide +kernel), List.mem_of_getElem? (i := 481) (by decide +kernel), List.mem_of_getElem? (i := 482) (by decide +kernel)⟩
theorem lw_p2 : lw_okq (⟨"GoldenRows$Tape", "takeWord", "()V"⟩, 7) := ⟨⟨by decide +kernel, by decide +kernel⟩, List.mem_of_getElem? (i := 140) (by decide +kernel), List.mem_of_getElem? (i := 537) (by decide +kernel), List.mem_of_getElem? (i := 538) (by decide +kernel)⟩
theorem lw_p3 : lw_okq (⟨"GoldenRows$Tape", "takeNumber", "()V"⟩, 7) := ⟨⟨by decide +kernel, by decide +kernel⟩, List.mem_of_getElem? (i := 140) (by decide +kernel), List.mem_of_getElem? (i := 541) (by decide +kernel), List.mem_of_getElem? (i := 542) (by decide +kernel)⟩
theorem lw_p4 : lw_okq (⟨"GoldenRows$Parser", "stop", "(LGoldenRows$Tape;I)Z"⟩, 2) := ⟨⟨by decide +kernel, by decide +kernel⟩, List.mem_of_getElem? (i := 172) (by decide +kernel), List.mem_of_getElem? (i := 545) (by decide +kernel), List.mem_of_getElem? (i := 546) (by decide +kernel)⟩
theorem lw_p5 : lw_okq (⟨"GoldenRows$Parser", "readLine", "(LGoldenRows$Tape;LGoldenRows$Book;)Z"⟩, 2) := ⟨⟨by decide +kernel, by decide +kernel⟩, List.mem_of_getElem? (i := 172) (by decide +kernel), List.mem_of_getElem? (i := 549) (by decide +kernel), List.mem_of_getElem? (i := 550) (by decide +kernel)⟩
theorem lw_p6 : lw_okq (⟨"GoldenRows$Parser", "readNumber", "(LGoldenRows$Tape;II)Z"⟩, 2) := ⟨⟨by decide +kernel, by decide +kernel⟩, List.mem_of_getElem? (i := 172) (by decide +kernel), List.mem_of_getElem? (i := 608) (by decide +kernel), List.mem_of_getElem? (i := 609) (by decide +kernel)⟩
theorem lw_p7 : lw_okq (⟨"GoldenRows$Parser", "readEither", "(LGoldenRows$Tape;LGoldenRows$Book;I)Z"⟩, 2) := ⟨⟨by decide +kernel, by decide +kernel⟩, List.mem_of_getElem? (i := 172) (by decide +kernel), List.mem_of_getElem? (i := 613) (by decide +kernel), List.mem_of_getElem? (i := 614) (by decide +kernel)⟩
theorem lw_p8 : lw_okq (⟨"GoldenRows$Parser", "readOne", "(LGoldenRows$Tape;LGoldenRows$Book;I)Z"⟩, 2) := ⟨⟨by decide +kernel, by decide +kernel⟩, List.mem_of_getElem? (i := 172) (by decide +kernel), List.mem_of_getElem? (i := 617) (by decide +kernel), List.mem_of_getElem? (i := 618) (by decide +kernel)⟩
theorem lw_p9 : lw_okq (⟨"GoldenRows$Parser", "readTest", "(LGoldenRows$Tape;LGoldenRows$Book;)Z"⟩, 2) := ⟨⟨by decide +kernel, by decide +kernel⟩, List.mem_of_getElem? (i := 172) (by decide +kernel), List.mem_of_getElem? (i := 626) (by decide +kernel), List.mem_of_getElem? (i := 627) (by decide +kernel)⟩
theorem lw_p10 : lw_okq (⟨"GoldenRows$Book", "isMet", "(IILGoldenRows$Sight;LGoldenRows$Rows;II)Z"⟩, 8) := ⟨⟨by decide +kernel, by decide +kernel⟩, List.mem_of_getElem? (i := 29) (by decide +kernel), List.mem_of_getElem? (i := 655) (by decide +kernel), List.mem_of_getElem? (i := 656) (by decide +kernel)⟩
theorem lw_p11 : lw_okq (⟨"GoldenRows$Book", "isTestMet", "(ILGoldenRows$Sight;LGoldenRows$Rows;II)Z"⟩, 8) := ⟨⟨by decide +kernel, by decide +kernel⟩, List.mem_of_getElem? (i := 29) (by decide +kernel), List.mem_of_getElem? (i := 660) (by decide +kernel), List.mem_of_getElem? (i := 661) (by decide +kernel)⟩
theorem lw_p12 : lw_okq (⟨"GoldenRows", "part", "(II)Z"⟩, 18) := ⟨⟨by decide +kernel, by decide +kernel⟩, List.mem_of_getElem? (i := 21) (by decide +kernel), List.mem_of_getElem? (i := 684) (by decide +kernel), List.mem_of_getElem? (i := 685) (by decide +kernel)⟩
theorem lw_p13 : lw_okq (⟨"GoldenRows$Parting", "weighSets", "()V"⟩, 15) := ⟨⟨by decide +kernel, by decide +kernel⟩, List.mem_of_getElem? (i := 256) (by decide +kernel), List.mem_of_getElem? (i := 709) (by decide +kernel), List.mem_of_getElem? (i := 710) (by decide +kernel)⟩
theorem lw_p14 : lw_okq (⟨"GoldenRows$Parting", "weighBonds", "(I)V"⟩, 15) := ⟨⟨by decide +kernel, by decide +kernel⟩, List.mem_of_getElem? (i := 256) (by decide +kernel), List.mem_of_getElem? (i := 713) (by decide +kernel), List.mem_of_getElem? (i := 714) (by decide +kernel)⟩
theorem lw_p15 : lw_okq (⟨"GoldenRows$Parting", "chooseTails", "()V"⟩, 15) := ⟨⟨by decide +kernel, by decide +kernel⟩, List.mem_of_getElem? (i := 256) (by decide +kernel), List.mem_of_getElem? (i := 718) (by decide +kernel), List.mem_of_getElem? (i := 719) (by decide +kernel)⟩
def lw_privs_1 : List (MethodName × Nat) := [(⟨"GoldenRows", "look", "(II)V"⟩, 18), (⟨"GoldenRows$Sight", "takeVersion", "(LGoldenRows$Versions;I)V"⟩, 6), (⟨"GoldenRows$Tape", "takeWord", "()V"⟩, 7), (⟨"GoldenRows$Tape", "takeNumber", "()V"⟩, 7), (⟨"GoldenRows$Parser", "stop", "(LGoldenRows$Tape;I)Z"⟩, 2), (⟨"GoldenRows$Parser", "readLine", "(LGoldenRows$Tape;LGoldenRows$Book;)Z"⟩, 2), (⟨"GoldenRows$Parser", "readNumber", "(LGoldenRows$Tape;II)Z"⟩, 2), (⟨"GoldenRows$Parser", "readEither", "(LGoldenRows$Tape;LGoldenRows$Book;I)Z"⟩, 2), (⟨"GoldenRows$Parser", "readOne", "(LGoldenRows$Tape;LGoldenRows$Book;I)Z"⟩, 2), (⟨"GoldenRows$Parser", "readTest", "(LGoldenRows$Tape;LGoldenRows$Book;)Z"⟩, 2), (⟨"GoldenRows$Book", "isMet", "(IILGoldenRows$Sight;LGoldenRows$Rows;II)Z"⟩, 8), (⟨"GoldenRows$Book", "isTestMet", "(ILGoldenRows$Sight;LGoldenRows$Rows;II)Z"⟩, 8), (⟨"GoldenRows", "part", "(II)Z"⟩, 18), (⟨"GoldenRows$Parting", "weighSets", "()V"⟩, 15), (⟨"GoldenRows$Parting", "weighBonds", "(I)V"⟩, 15), (⟨"GoldenRows$Parting", "chooseTails", "()V"⟩, 15)]
theorem lw_r1 : ∀ q ∈ lw_privs_1, lw_okq q := List.forall_mem_cons.mpr ⟨lw_p0, List.forall_mem_cons.mpr ⟨lw_p1, List.forall_mem_cons.mpr ⟨lw_p2, List.forall_mem_cons.mpr ⟨lw_p3, List.forall_mem_cons.mpr ⟨lw_p4, List.forall_mem_cons.mpr ⟨lw_p5, List.forall_mem_cons.mpr ⟨lw_p6, List.forall_mem_cons.mpr ⟨lw_p7, List.forall_mem_cons.mpr ⟨lw_p8, List.forall_mem_cons.mpr ⟨lw_p9, List.forall_mem_cons.mpr ⟨lw_p10, List.forall_mem_cons.mpr ⟨lw_p11, List.forall_mem_cons.mpr ⟨lw_p12, List.forall_mem_cons.mpr ⟨lw_p13, List.forall_mem_cons.mpr ⟨lw_p14, List.forall_mem_cons.mpr ⟨lw_p15, fun _ h => absurd h List.not_mem_nil⟩⟩⟩⟩⟩⟩⟩⟩⟩⟩⟩⟩⟩⟩⟩⟩
theorem lw_p16 : lw_okq (⟨"GoldenRows$Parting", "greatestKey", "(II)J"⟩, 15) := ⟨⟨by decide +kernel, by decide +kernel⟩, List.mem_of_getElem? (i := 256) (by decide +kernel), List.mem_of_getElem? (i := 722) (by decide +kernel), List.mem_of_getElem? (i := 723) (by decide +kernel)⟩
theorem lw_p17 : lw_okq (⟨"GoldenRows$Parting", "readKey", "(J)V"⟩, 15) := ⟨⟨by decide +kernel, by decide +kernel⟩, List.mem_of_getElem? (i := 256) (by decide +kernel), List.mem_of_getElem? (i := 736) (by decide +kernel), List.mem_of_getElem? (i := 737) (by decide +kernel)⟩
theorem lw_p18 : lw_okq (⟨"GoldenRows", "personAsked", "(IIII)I"⟩, 18) := ⟨⟨by decide +kernel, by decide +kernel⟩, List.mem_of_getElem? (i := 21) (by decide +kernel), List.mem_of_getElem? (i := 758) (by decide +kernel), List.mem_of_getElem? (i := 759) (by decide +kernel)⟩
theorem lw_p19 : lw_okq (⟨"GoldenRows", "goldenOf", "(II)I"⟩, 18) := ⟨⟨by decide +kernel, by decide +kernel⟩, List.mem_of_getElem? (i := 21) (by decide +kernel), List.mem_of_getElem? (i := 762) (by decide +kernel), List.mem_of_getElem? (i := 763) (by decide +kernel)⟩
theorem lw_p20 : lw_okq (⟨"GoldenRows", "latestFix", "(II)I"⟩, 18) := ⟨⟨by decide +kernel, by decide +kernel⟩, List.mem_of_getElem? (i := 21) (by decide +kernel), List.mem_of_getElem? (i := 766) (by decide +kernel), List.mem_of_getElem? (i := 767) (by decide +kernel)⟩
theorem lw_p21 : lw_okq (⟨"GoldenRows", "hear", "(II)V"⟩, 18) := ⟨⟨by decide +kernel, by decide +kernel⟩, List.mem_of_getElem? (i := 21) (by decide +kernel), List.mem_of_getElem? (i := 771) (by decide +kernel), List.mem_of_getElem? (i := 772) (by decide +kernel)⟩
theorem lw_p22 : lw_okq (⟨"GoldenRows$Voices", "isFirst", "(I)Z"⟩, 8) := ⟨⟨by decide +kernel, by decide +kernel⟩, List.mem_of_getElem? (i := 312) (by decide +kernel), List.mem_of_getElem? (i := 789) (by decide +kernel), List.mem_of_getElem? (i := 790) (by decide +kernel)⟩
theorem lw_p23 : lw_okq (⟨"GoldenRows$Voices", "sumFor", "(I)I"⟩, 8) := ⟨⟨by decide +kernel, by decide +kernel⟩, List.mem_of_getElem? (i := 312) (by decide +kernel), List.mem_of_getElem? (i := 793) (by decide +kernel), List.mem_of_getElem? (i := 794) (by decide +kernel)⟩
theorem lw_p24 : lw_okq (⟨"GoldenRows$Voices", "latestFor", "(I)I"⟩, 8) := ⟨⟨by decide +kernel, by decide +kernel⟩, List.mem_of_getElem? (i := 312) (by decide +kernel), List.mem_of_getElem? (i := 797) (by decide +kernel), List.mem_of_getElem? (i := 798) (by decide +kernel)⟩
theorem lw_p25 : lw_okq (⟨"GoldenRows$Voices", "strongestFor", "(I)I"⟩, 8) := ⟨⟨by decide +kernel, by decide +kernel⟩, List.mem_of_getElem? (i := 312) (by decide +kernel), List.mem_of_getElem? (i := 805) (by decide +kernel), List.mem_of_getElem? (i := 806) (by decide +kernel)⟩
theorem lw_p26 : lw_okq (⟨"GoldenRows", "listWishes", "(I)V"⟩, 18) := ⟨⟨by decide +kernel, by decide +kernel⟩, List.mem_of_getElem? (i := 21) (by decide +kernel), List.mem_of_getElem? (i := 829) (by decide +kernel), List.mem_of_getElem? (i := 830) (by decide +kernel)⟩
theorem lw_p27 : lw_okq (⟨"GoldenRows", "listWishesOf", "(II)V"⟩, 18) := ⟨⟨by decide +kernel, by decide +kernel⟩, List.mem_of_getElem? (i := 21) (by decide +kernel), List.mem_of_getElem? (i := 833) (by decide +kernel), List.mem_of_getElem? (i := 834) (by decide +kernel)⟩
theorem lw_p28 : lw_okq (⟨"GoldenRows", "hasWish", "(II)Z"⟩, 18) := ⟨⟨by decide +kernel, by decide +kernel⟩, List.mem_of_getElem? (i := 21) (by decide +kernel), List.mem_of_getElem? (i := 849) (by decide +kernel), List.mem_of_getElem? (i := 850) (by decide +kernel)⟩
theorem lw_p29 : lw_okq (⟨"GoldenRowsModel", "isRow", "(I)Z"⟩, 83) := ⟨⟨by decide +kernel, by decide +kernel⟩, List.mem_of_getElem? (i := 865) (by decide +kernel), List.mem_of_getElem? (i := 1147) (by decide +kernel), List.mem_of_getElem? (i := 1148) (by decide +kernel)⟩
theorem lw_p30 : lw_okq (⟨"GoldenRowsModel", "tell", "(IIIIZ)V"⟩, 83) := ⟨⟨by decide +kernel, by decide +kernel⟩, List.mem_of_getElem? (i := 865) (by decide +kernel), List.mem_of_getElem? (i := 1156) (by decide +kernel), List.mem_of_getElem? (i := 1157) (by decide +kernel)⟩
theorem lw_p31 : lw_okq (⟨"GoldenRowsModel", "valueOf", "(IIII)I"⟩, 83) := ⟨⟨by decide +kernel, by decide +kernel⟩, List.mem_of_getElem? (i := 865) (by decide +kernel), List.mem_of_getElem? (i := 1164) (by decide +kernel), List.mem_of_getElem? (i := 1165) (by decide +kernel)⟩
def lw_privs_2 : List (MethodName × Nat) := [(⟨"GoldenRows$Parting", "greatestKey", "(II)J"⟩, 15), (⟨"GoldenRows$Parting", "readKey", "(J)V"⟩, 15), (⟨"GoldenRows", "personAsked", "(IIII)I"⟩, 18), (⟨"GoldenRows", "goldenOf", "(II)I"⟩, 18), (⟨"GoldenRows", "latestFix", "(II)I"⟩, 18), (⟨"GoldenRows", "hear", "(II)V"⟩, 18), (⟨"GoldenRows$Voices", "isFirst", "(I)Z"⟩, 8), (⟨"GoldenRows$Voices", "sumFor", "(I)I"⟩, 8), (⟨"GoldenRows$Voices", "latestFor", "(I)I"⟩, 8), (⟨"GoldenRows$Voices", "strongestFor", "(I)I"⟩, 8), (⟨"GoldenRows", "listWishes", "(I)V"⟩, 18), (⟨"GoldenRows", "listWishesOf", "(II)V"⟩, 18), (⟨"GoldenRows", "hasWish", "(II)Z"⟩, 18), (⟨"GoldenRowsModel", "isRow", "(I)Z"⟩, 83), (⟨"GoldenRowsModel", "tell", "(IIIIZ)V"⟩, 83), (⟨"GoldenRowsModel", "valueOf", "(IIII)I"⟩, 83)]
theorem lw_r2 : ∀ q ∈ lw_privs_2, lw_okq q := List.forall_mem_cons.mpr ⟨lw_p16, List.forall_mem_cons.mpr ⟨lw_p17, List.forall_mem_cons.mpr ⟨lw_p18, List.forall_mem_cons.mpr ⟨lw_p19, List.forall_mem_cons.mpr ⟨lw_p20, List.forall_mem_cons.mpr ⟨lw_p21, List.forall_mem_cons.mpr ⟨lw_p22, List.forall_mem_cons.mpr ⟨lw_p23, List.forall_mem_cons.mpr ⟨lw_p24, List.forall_mem_cons.mpr ⟨lw_p25, List.forall_mem_cons.mpr ⟨lw_p26, List.forall_mem_cons.mpr ⟨lw_p27, List.forall_mem_cons.mpr ⟨lw_p28, List.forall_mem_cons.mpr ⟨lw_p29, List.forall_mem_cons.mpr ⟨lw_p30, List.forall_mem_cons.mpr ⟨lw_p31, fun _ h => absurd h List.not_mem_nil⟩⟩⟩⟩⟩⟩⟩⟩⟩⟩⟩⟩⟩⟩⟩⟩
theorem lw_p32 : lw_okq (⟨"GoldenRowsModel", "version", "(IIII)I"⟩, 83) := ⟨⟨by decide +kernel, by decide +kernel⟩, List.mem_of_getElem? (i := 865) (by decide +kernel), List.mem_of_getElem? (i := 1168) (by decide +kernel), List.mem_of_getElem? (i := 1169) (by decide +kernel)⟩
theorem lw_p33 : lw_okq (⟨"GoldenRowsModel", "four", "(I)V"⟩, 83) := ⟨⟨by decide +kernel, by decide +kernel⟩, List.mem_of_getElem? (i := 865) (by decide +kernel), List.mem_of_getElem? (i := 1184) (by decide +kernel), List.mem_of_getElem? (i := 1185) (by decide +kernel)⟩
theorem lw_p34 : lw_okq (⟨"GoldenRowsModel", "next", "()V"⟩, 83) := ⟨⟨by decide +kernel, by decide +kernel⟩, List.mem_of_getElem? (i := 865) (by decide +kernel), List.mem_of_getElem? (i := 1196) (by decide +kernel), List.mem_of_getElem? (i := 1197) (by decide +kernel)⟩
theorem lw_p35 : lw_okq (⟨"GoldenRowsModel", "here", "(I)I"⟩, 83) := ⟨⟨by decide +kernel, by decide +kernel⟩, List.mem_of_getElem? (i := 865) (by decide +kernel), List.mem_of_getElem? (i := 1200) (by decide +kernel), List.mem_of_getElem? (i := 1201) (by decide +kernel)⟩
theorem lw_p36 : lw_okq (⟨"GoldenRowsModel", "isWord", "(J)Z"⟩, 83) := ⟨⟨by decide +kernel, by decide +kernel⟩, List.mem_of_getElem? (i := 865) (by decide +kernel), List.mem_of_getElem? (i := 1211) (by decide +kernel), List.mem_of_getElem? (i := 1212) (by decide +kernel)⟩
theorem lw_p37 : lw_okq (⟨"GoldenRowsModel", "wrong", "(I)V"⟩, 83) := ⟨⟨by decide +kernel, by decide +kernel⟩, List.mem_of_getElem? (i := 865) (by decide +kernel), List.mem_of_getElem? (i := 1216) (by decide +kernel), List.mem_of_getElem? (i := 1217) (by decide +kernel)⟩
theorem lw_p38 : lw_okq (⟨"GoldenRowsModel", "told", "(II)I"⟩, 83) := ⟨⟨by decide +kernel, by decide +kernel⟩, List.mem_of_getElem? (i := 865) (by decide +kernel), List.mem_of_getElem? (i := 1220) (by decide +kernel), List.mem_of_getElem? (i := 1221) (by decide +kernel)⟩
theorem lw_p39 : lw_okq (⟨"GoldenRowsModel", "readE", "()V"⟩, 83) := ⟨⟨by decide +kernel, by decide +kernel⟩, List.mem_of_getElem? (i := 865) (by decide +kernel), List.mem_of_getElem? (i := 1225) (by decide +kernel), List.mem_of_getElem? (i := 1226) (by decide +kernel)⟩
theorem lw_p40 : lw_okq (⟨"GoldenRowsModel", "isOpen", "()Z"⟩, 83) := ⟨⟨by decide +kernel, by decide +kernel⟩, List.mem_of_getElem? (i := 865) (by decide +kernel), List.mem_of_getElem? (i := 1229) (by decide +kernel), List.mem_of_getElem? (i := 1230) (by decide +kernel)⟩
theorem lw_p41 : lw_okq (⟨"GoldenRowsModel", "sign", "()Z"⟩, 83) := ⟨⟨by decide +kernel, by decide +kernel⟩, List.mem_of_getElem? (i := 865) (by decide +kernel), List.mem_of_getElem? (i := 1233) (by decide +kernel), List.mem_of_getElem? (i := 1234) (by decide +kernel)⟩
theorem lw_p42 : lw_okq (⟨"GoldenRowsModel", "settle", "(Z)V"⟩, 83) := ⟨⟨by decide +kernel, by decide +kernel⟩, List.mem_of_getElem? (i := 865) (by decide +kernel), List.mem_of_getElem? (i := 1239) (by decide +kernel), List.mem_of_getElem? (i := 1240) (by decide +kernel)⟩
theorem lw_p43 : lw_okq (⟨"GoldenRowsModel", "pop", "()V"⟩, 83) := ⟨⟨by decide +kernel, by decide +kernel⟩, List.mem_of_getElem? (i := 865) (by decide +kernel), List.mem_of_getElem? (i := 1243) (by decide +kernel), List.mem_of_getElem? (i := 1244) (by decide +kernel)⟩
theorem lw_p44 : lw_okq (⟨"GoldenRowsModel", "step", "(III)V"⟩, 83) := ⟨⟨by decide +kernel, by decide +kernel⟩, List.mem_of_getElem? (i := 865) (by decide +kernel), List.mem_of_getElem? (i := 1247) (by decide +kernel), List.mem_of_getElem? (i := 1248) (by decide +kernel)⟩
theorem lw_p45 : lw_okq (⟨"GoldenRowsModel", "hold", "(I)V"⟩, 83) := ⟨⟨by decide +kernel, by decide +kernel⟩, List.mem_of_getElem? (i := 865) (by decide +kernel), List.mem_of_getElem? (i := 1251) (by decide +kernel), List.mem_of_getElem? (i := 1252) (by decide +kernel)⟩
theorem lw_p46 : lw_okq (⟨"GoldenRowsModel", "operand", "()Z"⟩, 83) := ⟨⟨by decide +kernel, by decide +kernel⟩, List.mem_of_getElem? (i := 865) (by decide +kernel), List.mem_of_getElem? (i := 1255) (by decide +kernel), List.mem_of_getElem? (i := 1256) (by decide +kernel)⟩
theorem lw_p47 : lw_okq (⟨"GoldenRowsModel", "isThere", "(II)Z"⟩, 83) := ⟨⟨by decide +kernel, by decide +kernel⟩, List.mem_of_getElem? (i := 865) (by decide +kernel), List.mem_of_getElem? (i := 1272) (by decide +kernel), List.mem_of_getElem? (i := 1273) (by decide +kernel)⟩
def lw_privs_3 : List (MethodName × Nat) := [(⟨"GoldenRowsModel", "version", "(IIII)I"⟩, 83), (⟨"GoldenRowsModel", "four", "(I)V"⟩, 83), (⟨"GoldenRowsModel", "next", "()V"⟩, 83), (⟨"GoldenRowsModel", "here", "(I)I"⟩, 83), (⟨"GoldenRowsModel", "isWord", "(J)Z"⟩, 83), (⟨"GoldenRowsModel", "wrong", "(I)V"⟩, 83), (⟨"GoldenRowsModel", "told", "(II)I"⟩, 83), (⟨"GoldenRowsModel", "readE", "()V"⟩, 83), (⟨"GoldenRowsModel", "isOpen", "()Z"⟩, 83), (⟨"GoldenRowsModel", "sign", "()Z"⟩, 83), (⟨"GoldenRowsModel", "settle", "(Z)V"⟩, 83), (⟨"GoldenRowsModel", "pop", "()V"⟩, 83), (⟨"GoldenRowsModel", "step", "(III)V"⟩, 83), (⟨"GoldenRowsModel", "hold", "(I)V"⟩, 83), (⟨"GoldenRowsModel", "operand", "()Z"⟩, 83), (⟨"GoldenRowsModel", "isThere", "(II)Z"⟩, 83)]
theorem lw_r3 : ∀ q ∈ lw_privs_3, lw_okq q := List.forall_mem_cons.mpr ⟨lw_p32, List.forall_mem_cons.mpr ⟨lw_p33, List.forall_mem_cons.mpr ⟨lw_p34, List.forall_mem_cons.mpr ⟨lw_p35, List.forall_mem_cons.mpr ⟨lw_p36, List.forall_mem_cons.mpr ⟨lw_p37, List.forall_mem_cons.mpr ⟨lw_p38, List.forall_mem_cons.mpr ⟨lw_p39, List.forall_mem_cons.mpr ⟨lw_p40, List.forall_mem_cons.mpr ⟨lw_p41, List.forall_mem_cons.mpr ⟨lw_p42, List.forall_mem_cons.mpr ⟨lw_p43, List.forall_mem_cons.mpr ⟨lw_p44, List.forall_mem_cons.mpr ⟨lw_p45, List.forall_mem_cons.mpr ⟨lw_p46, List.forall_mem_cons.mpr ⟨lw_p47, fun _ h => absurd h List.not_mem_nil⟩⟩⟩⟩⟩⟩⟩⟩⟩⟩⟩⟩⟩⟩⟩⟩
theorem lw_p48 : lw_okq (⟨"GoldenRowsModel", "scoreOf", "(IIII)I"⟩, 83) := ⟨⟨by decide +kernel, by decide +kernel⟩, List.mem_of_getElem? (i := 865) (by decide +kernel), List.mem_of_getElem? (i := 1276) (by decide +kernel), List.mem_of_getElem? (i := 1277) (by decide +kernel)⟩
theorem lw_p49 : lw_okq (⟨"GoldenRowsModel", "holds", "(IIIII)Z"⟩, 83) := ⟨⟨by decide +kernel, by decide +kernel⟩, List.mem_of_getElem? (i := 865) (by decide +kernel), List.mem_of_getElem? (i := 1280) (by decide +kernel), List.mem_of_getElem? (i := 1281) (by decide +kernel)⟩
theorem lw_p50 : lw_okq (⟨"GoldenRowsModel", "part", "(II)V"⟩, 83) := ⟨⟨by decide +kernel, by decide +kernel⟩, List.mem_of_getElem? (i := 865) (by decide +kernel), List.mem_of_getElem? (i := 1304) (by decide +kernel), List.mem_of_getElem? (i := 1305) (by decide +kernel)⟩
theorem lw_p51 : lw_okq (⟨"GoldenRowsModel", "canBe", "(II)Z"⟩, 83) := ⟨⟨by decide +kernel, by decide +kernel⟩, List.mem_of_getElem? (i := 865) (by decide +kernel), List.mem_of_getElem? (i := 1311) (by decide +kernel), List.mem_of_getElem? (i := 1312) (by decide +kernel)⟩
theorem lw_p52 : lw_okq (⟨"GoldenRowsModel", "look", "()V"⟩, 83) := ⟨⟨by decide +kernel, by decide +kernel⟩, List.mem_of_getElem? (i := 865) (by decide +kernel), List.mem_of_getElem? (i := 1315) (by decide +kernel), List.mem_of_getElem? (i := 1316) (by decide +kernel)⟩
theorem lw_p53 : lw_okq (⟨"GoldenRowsModel", "tells", "(IIII)Z"⟩, 83) := ⟨⟨by decide +kernel, by decide +kernel⟩, List.mem_of_getElem? (i := 865) (by decide +kernel), List.mem_of_getElem? (i := 1332) (by decide +kernel), List.mem_of_getElem? (i := 1333) (by decide +kernel)⟩
theorem lw_p54 : lw_okq (⟨"GoldenRowsModel", "gold", "(IIII)V"⟩, 83) := ⟨⟨by decide +kernel, by decide +kernel⟩, List.mem_of_getElem? (i := 865) (by decide +kernel), List.mem_of_getElem? (i := 1336) (by decide +kernel), List.mem_of_getElem? (i := 1337) (by decide +kernel)⟩
theorem lw_p55 : lw_okq (⟨"GoldenRowsModel", "seek", "(I)V"⟩, 83) := ⟨⟨by decide +kernel, by decide +kernel⟩, List.mem_of_getElem? (i := 865) (by decide +kernel), List.mem_of_getElem? (i := 1354) (by decide +kernel), List.mem_of_getElem? (i := 1355) (by decide +kernel)⟩
theorem lw_p56 : lw_okq (⟨"GoldenRowsModel", "isRefused", "(III)Z"⟩, 83) := ⟨⟨by decide +kernel, by decide +kernel⟩, List.mem_of_getElem? (i := 865) (by decide +kernel), List.mem_of_getElem? (i := 1358) (by decide +kernel), List.mem_of_getElem? (i := 1359) (by decide +kernel)⟩
theorem lw_p57 : lw_okq (⟨"GoldenRowsModel", "isChange", "(II)Z"⟩, 83) := ⟨⟨by decide +kernel, by decide +kernel⟩, List.mem_of_getElem? (i := 865) (by decide +kernel), List.mem_of_getElem? (i := 1366) (by decide +kernel), List.mem_of_getElem? (i := 1367) (by decide +kernel)⟩
def lw_privs_4 : List (MethodName × Nat) := [(⟨"GoldenRowsModel", "scoreOf", "(IIII)I"⟩, 83), (⟨"GoldenRowsModel", "holds", "(IIIII)Z"⟩, 83), (⟨"GoldenRowsModel", "part", "(II)V"⟩, 83), (⟨"GoldenRowsModel", "canBe", "(II)Z"⟩, 83), (⟨"GoldenRowsModel", "look", "()V"⟩, 83), (⟨"GoldenRowsModel", "tells", "(IIII)Z"⟩, 83), (⟨"GoldenRowsModel", "gold", "(IIII)V"⟩, 83), (⟨"GoldenRowsModel", "seek", "(I)V"⟩, 83), (⟨"GoldenRowsModel", "isRefused", "(III)Z"⟩, 83), (⟨"GoldenRowsModel", "isChange", "(II)Z"⟩, 83)]
theorem lw_r4 : ∀ q ∈ lw_privs_4, lw_okq q := List.forall_mem_cons.mpr ⟨lw_p48, List.forall_mem_cons.mpr ⟨lw_p49, List.forall_mem_cons.mpr ⟨lw_p50, List.forall_mem_cons.mpr ⟨lw_p51, List.forall_mem_cons.mpr ⟨lw_p52, List.forall_mem_cons.mpr ⟨lw_p53, List.forall_mem_cons.mpr ⟨lw_p54, List.forall_mem_cons.mpr ⟨lw_p55, List.forall_mem_cons.mpr ⟨lw_p56, List.forall_mem_cons.mpr ⟨lw_p57, fun _ h => absurd h List.not_mem_nil⟩⟩⟩⟩⟩⟩⟩⟩⟩⟩
def lw_privs : List (MethodName × Nat) := lw_privs_1 ++ (lw_privs_2 ++ (lw_privs_3 ++ (lw_privs_4)))
def lw_tbl : List Cond := k2_sels lw_privs ++ tables_1
theorem lw_privs_ok : ∀ q ∈ lw_privs, lw_okq q := by
  show ∀ q ∈ lw_privs_1 ++ (lw_privs_2 ++ (lw_privs_3 ++ (lw_privs_4))), lw_okq q
  exact List.forall_mem_append.mpr ⟨lw_r1, List.forall_mem_append.mpr ⟨lw_r2, List.forall_mem_append.mpr ⟨lw_r3, lw_r4⟩⟩⟩
end
section
def RX0 : String := "GoldenRows$Book"
def TX0 : u_T := fun k => match k with
  | 0 => ("GoldenRows$Book", "lines", "I", false)
  | 1 => ("GoldenRows$Book", "tests", "I", false)
  | 2 => ("GoldenRows$Book", "steps", "I", false)
  | 3 => ("GoldenRows$Book", "number", "[I", true)
  | 4 => ("GoldenRows$Book", "stepsBehind", "[I", true)
  | 5 => ("GoldenRows$Book", "kind", "[I", true)
  | 6 => ("GoldenRows$Book", "field", "[I", true)
  | _ => ("GoldenRows$Book", "reach", "[I", true)
def tyX0 : Nat → FieldType := fun k => match k with
  | 0 => .int
  | 1 => .int
  | 2 => .int
  | 3 => .array .int
  | 4 => .array .int
  | 5 => .array .int
  | 6 => .array .int
  | _ => .array .int
theorem nmX0 : ∀ a, a < 8 → ∀ b, b < 8 → a ≠ b → (TX0 a).2.1 ≠ (TX0 b).2.1 := by decide +kernel
theorem tyX0_ok : ∀ k, k < 8 → parseFieldDescriptor (TX0 k).2.2.1 = some (tyX0 k) := by decide +kernel
abbrev cX0_init : ByteArray := prog_2_method_1_code
def yX0_init : MethodName := ⟨RX0, "<init>", "()V"⟩
abbrev cX0_clear : ByteArray := prog_2_method_2_code
def yX0_clear : MethodName := ⟨RX0, "clear", "()V"⟩
abbrev cX0_addStep : ByteArray := prog_2_method_3_code
def yX0_addStep : MethodName := ⟨RX0, "addStep", "(III)V"⟩
abbrev cX0_closeLine : ByteArray := prog_2_method_4_code
def yX0_closeLine : MethodName := ⟨RX0, "closeLine", "(I)V"⟩
abbrev cX0_sum : ByteArray := prog_2_method_5_code
def yX0_sum : MethodName := ⟨RX0, "sum", "(LGoldenRows$Sight;LGoldenRows$Rows;II)I"⟩
abbrev cX0_isMet : ByteArray := prog_2_method_6_code
def yX0_isMet : MethodName := ⟨RX0, "isMet", "(IILGoldenRows$Sight;LGoldenRows$Rows;II)Z"⟩
abbrev cX0_isTestMet : ByteArray := prog_2_method_7_code
def yX0_isTestMet : MethodName := ⟨RX0, "isTestMet", "(ILGoldenRows$Sight;LGoldenRows$Rows;II)Z"⟩
def RX1 : String := "GoldenRows$ByHand"
def TX1 : u_T := fun k => match k with
  | 0 => ("GoldenRows$ByHand", "count", "I", false)
  | 1 => ("GoldenRows$ByHand", "row", "[I", true)
  | 2 => ("GoldenRows$ByHand", "aim", "[I", true)
  | 3 => ("GoldenRows$ByHand", "value", "[I", true)
  | 4 => ("GoldenRows$ByHand", "told", "[I", true)
  | _ => ("GoldenRows$ByHand", "untold", "[I", true)
def tyX1 : Nat → FieldType := fun k => match k with
  | 0 => .int
  | 1 => .array .int
  | 2 => .array .int
  | 3 => .array .int
  | 4 => .array .int
  | _ => .array .int
theorem nmX1 : ∀ a, a < 6 → ∀ b, b < 6 → a ≠ b → (TX1 a).2.1 ≠ (TX1 b).2.1 := by decide +kernel
theorem tyX1_ok : ∀ k, k < 6 → parseFieldDescriptor (TX1 k).2.2.1 = some (tyX1 k) := by decide +kernel
abbrev cX1_init : ByteArray := prog_3_method_1_code
def yX1_init : MethodName := ⟨RX1, "<init>", "(I)V"⟩
abbrev cX1_tell : ByteArray := prog_3_method_2_code
def yX1_tell : MethodName := ⟨RX1, "tell", "(IIII)I"⟩
abbrev cX1_untell : ByteArray := prog_3_method_3_code
def yX1_untell : MethodName := ⟨RX1, "untell", "(II)Z"⟩
abbrev cX1_isHeld : ByteArray := prog_3_method_4_code
def yX1_isHeld : MethodName := ⟨RX1, "isHeld", "(II)Z"⟩
def RX2 : String := "GoldenRows$Parser"
def TX2 : u_T := fun k => match k with
  | 0 => ("GoldenRows$Parser", "faultKind", "I", false)
  | _ => ("GoldenRows$Parser", "faultPlace", "I", false)
def tyX2 : Nat → FieldType := fun k => match k with
  | 0 => .int
  | _ => .int
theorem nmX2 : ∀ a, a < 2 → ∀ b, b < 2 → a ≠ b → (TX2 a).2.1 ≠ (TX2 b).2.1 := by decide +kernel
theorem tyX2_ok : ∀ k, k < 2 → parseFieldDescriptor (TX2 k).2.2.1 = some (tyX2 k) := by decide +kernel
abbrev cX2_init : ByteArray := prog_4_method_1_code
def yX2_init : MethodName := ⟨RX2, "<init>", "()V"⟩
abbrev cX2_readAll : ByteArray := prog_4_method_2_code
def yX2_readAll : MethodName := ⟨RX2, "readAll", "(LGoldenRows$Tape;LGoldenRows$Book;)Z"⟩
abbrev cX2_stop : ByteArray := prog_4_method_3_code
def yX2_stop : MethodName := ⟨RX2, "stop", "(LGoldenRows$Tape;I)Z"⟩
abbrev cX2_readLine : ByteArray := prog_4_method_4_code
def yX2_readLine : MethodName := ⟨RX2, "readLine", "(LGoldenRows$Tape;LGoldenRows$Book;)Z"⟩
abbrev cX2_readNumber : ByteArray := prog_4_method_5_code
def yX2_readNumber : MethodName := ⟨RX2, "readNumber", "(LGoldenRows$Tape;II)Z"⟩
abbrev cX2_readEither : ByteArray := prog_4_method_6_code
def yX2_readEither : MethodName := ⟨RX2, "readEither", "(LGoldenRows$Tape;LGoldenRows$Book;I)Z"⟩
abbrev cX2_readOne : ByteArray := prog_4_method_7_code
def yX2_readOne : MethodName := ⟨RX2, "readOne", "(LGoldenRows$Tape;LGoldenRows$Book;I)Z"⟩
abbrev cX2_readTest : ByteArray := prog_4_method_8_code
def yX2_readTest : MethodName := ⟨RX2, "readTest", "(LGoldenRows$Tape;LGoldenRows$Book;)Z"⟩
def RX3 : String := "GoldenRows$Parting"
def TX3 : u_T := fun k => match k with
  | 0 => ("GoldenRows$Parting", "found", "Z", false)
  | 1 => ("GoldenRows$Parting", "persons", "I", false)
  | 2 => ("GoldenRows$Parting", "total", "I", false)
  | 3 => ("GoldenRows$Parting", "size", "I", false)
  | 4 => ("GoldenRows$Parting", "person", "[I", true)
  | 5 => ("GoldenRows$Parting", "rowOf", "[I", true)
  | 6 => ("GoldenRows$Parting", "bitOf", "[I", true)
  | 7 => ("GoldenRows$Parting", "score", "[I", true)
  | 8 => ("GoldenRows$Parting", "with", "[I", true)
  | 9 => ("GoldenRows$Parting", "without", "[I", true)
  | 10 => ("GoldenRows$Parting", "bond", "[I", true)
  | 11 => ("GoldenRows$Parting", "worthOf", "[I", true)
  | 12 => ("GoldenRows$Parting", "needs", "[I", true)
  | 13 => ("GoldenRows$Parting", "tail", "[J", true)
  | _ => ("GoldenRows$Parting", "ones", "[J", true)
def tyX3 : Nat → FieldType := fun k => match k with
  | 0 => .boolean
  | 1 => .int
  | 2 => .int
  | 3 => .int
  | 4 => .array .int
  | 5 => .array .int
  | 6 => .array .int
  | 7 => .array .int
  | 8 => .array .int
  | 9 => .array .int
  | 10 => .array .int
  | 11 => .array .int
  | 12 => .array .int
  | 13 => .array .long
  | _ => .array .long
theorem nmX3 : ∀ a, a < 15 → ∀ b, b < 15 → a ≠ b → (TX3 a).2.1 ≠ (TX3 b).2.1 := by decide +kernel
theorem tyX3_ok : ∀ k, k < 15 → parseFieldDescriptor (TX3 k).2.2.1 = some (tyX3 k) := by decide +kernel
abbrev cX3_init : ByteArray := prog_5_method_1_code
def yX3_init : MethodName := ⟨RX3, "<init>", "()V"⟩
abbrev cX3_personOf : ByteArray := prog_5_method_2_code
def yX3_personOf : MethodName := ⟨RX3, "personOf", "(I)I"⟩
abbrev cX3_gather : ByteArray := prog_5_method_3_code
def yX3_gather : MethodName := ⟨RX3, "gather", "(LGoldenRows$Sight;)V"⟩
abbrev cX3_bind : ByteArray := prog_5_method_4_code
def yX3_bind : MethodName := ⟨RX3, "bind", "(LGoldenRows$ByHand;I)V"⟩
abbrev cX3_weighPairs : ByteArray := prog_5_method_5_code
def yX3_weighPairs : MethodName := ⟨RX3, "weighPairs", "(LGoldenRows$Book;LGoldenRows$Sight;LGoldenRows$Rows;)V"⟩
abbrev cX3_choose : ByteArray := prog_5_method_6_code
def yX3_choose : MethodName := ⟨RX3, "choose", "()V"⟩
abbrev cX3_weighSets : ByteArray := prog_5_method_7_code
def yX3_weighSets : MethodName := ⟨RX3, "weighSets", "()V"⟩
abbrev cX3_weighBonds : ByteArray := prog_5_method_8_code
def yX3_weighBonds : MethodName := ⟨RX3, "weighBonds", "(I)V"⟩
abbrev cX3_chooseTails : ByteArray := prog_5_method_9_code
def yX3_chooseTails : MethodName := ⟨RX3, "chooseTails", "()V"⟩
abbrev cX3_greatestKey : ByteArray := prog_5_method_10_code
def yX3_greatestKey : MethodName := ⟨RX3, "greatestKey", "(II)J"⟩
abbrev cX3_readKey : ByteArray := prog_5_method_11_code
def yX3_readKey : MethodName := ⟨RX3, "readKey", "(J)V"⟩
def RX4 : String := "GoldenRows$Rows"
def TX4 : u_T := fun k => match k with
  | 0 => ("GoldenRows$Rows", "count", "I", false)
  | 1 => ("GoldenRows$Rows", "source", "[I", true)
  | 2 => ("GoldenRows$Rows", "told", "[I", true)
  | _ => ("GoldenRows$Rows", "forgotten", "[Z", true)
def tyX4 : Nat → FieldType := fun k => match k with
  | 0 => .int
  | 1 => .array .int
  | 2 => .array .int
  | _ => .array .boolean
theorem nmX4 : ∀ a, a < 4 → ∀ b, b < 4 → a ≠ b → (TX4 a).2.1 ≠ (TX4 b).2.1 := by decide +kernel
theorem tyX4_ok : ∀ k, k < 4 → parseFieldDescriptor (TX4 k).2.2.1 = some (tyX4 k) := by decide +kernel
abbrev cX4_init : ByteArray := prog_6_method_1_code
def yX4_init : MethodName := ⟨RX4, "<init>", "()V"⟩
abbrev cX4_add : ByteArray := prog_6_method_2_code
def yX4_add : MethodName := ⟨RX4, "add", "(II)I"⟩
abbrev cX4_isAlive : ByteArray := prog_6_method_3_code
def yX4_isAlive : MethodName := ⟨RX4, "isAlive", "(I)Z"⟩
def RX5 : String := "GoldenRows$Sight"
def TX5 : u_T := fun k => match k with
  | 0 => ("GoldenRows$Sight", "d", "I", false)
  | 1 => ("GoldenRows$Sight", "k", "I", false)
  | 2 => ("GoldenRows$Sight", "there", "[Z", true)
  | 3 => ("GoldenRows$Sight", "value", "[I", true)
  | 4 => ("GoldenRows$Sight", "since", "[I", true)
  | _ => ("GoldenRows$Sight", "echo", "[Z", true)
def tyX5 : Nat → FieldType := fun k => match k with
  | 0 => .int
  | 1 => .int
  | 2 => .array .boolean
  | 3 => .array .int
  | 4 => .array .int
  | _ => .array .boolean
theorem nmX5 : ∀ a, a < 6 → ∀ b, b < 6 → a ≠ b → (TX5 a).2.1 ≠ (TX5 b).2.1 := by decide +kernel
theorem tyX5_ok : ∀ k, k < 6 → parseFieldDescriptor (TX5 k).2.2.1 = some (tyX5 k) := by decide +kernel
abbrev cX5_init : ByteArray := prog_7_method_1_code
def yX5_init : MethodName := ⟨RX5, "<init>", "()V"⟩
abbrev cX5_take : ByteArray := prog_7_method_2_code
def yX5_take : MethodName := ⟨RX5, "take", "(LGoldenRows$Rows;LGoldenRows$Versions;II)V"⟩
abbrev cX5_takeVersion : ByteArray := prog_7_method_3_code
def yX5_takeVersion : MethodName := ⟨RX5, "takeVersion", "(LGoldenRows$Versions;I)V"⟩
abbrev cX5_isThere : ByteArray := prog_7_method_4_code
def yX5_isThere : MethodName := ⟨RX5, "isThere", "(I)Z"⟩
abbrev cX5_valueOf : ByteArray := prog_7_method_5_code
def yX5_valueOf : MethodName := ⟨RX5, "valueOf", "(II)I"⟩
def RX6 : String := "GoldenRows$Tape"
def TX6 : u_T := fun k => match k with
  | 0 => ("GoldenRows$Tape", "length", "I", false)
  | 1 => ("GoldenRows$Tape", "kind", "I", false)
  | 2 => ("GoldenRows$Tape", "place", "I", false)
  | 3 => ("GoldenRows$Tape", "number", "I", false)
  | 4 => ("GoldenRows$Tape", "behind", "I", false)
  | 5 => ("GoldenRows$Tape", "bytes", "[I", true)
  | _ => ("GoldenRows$Tape", "sort", "[I", true)
def tyX6 : Nat → FieldType := fun k => match k with
  | 0 => .int
  | 1 => .int
  | 2 => .int
  | 3 => .int
  | 4 => .int
  | 5 => .array .int
  | _ => .array .int
theorem nmX6 : ∀ a, a < 7 → ∀ b, b < 7 → a ≠ b → (TX6 a).2.1 ≠ (TX6 b).2.1 := by decide +kernel
theorem tyX6_ok : ∀ k, k < 7 → parseFieldDescriptor (TX6 k).2.2.1 = some (tyX6 k) := by decide +kernel
abbrev cX6_init : ByteArray := prog_8_method_1_code
def yX6_init : MethodName := ⟨RX6, "<init>", "()V"⟩
abbrev cX6_append : ByteArray := prog_8_method_2_code
def yX6_append : MethodName := ⟨RX6, "append", "(I)V"⟩
abbrev cX6_sortOf : ByteArray := prog_8_method_3_code
def yX6_sortOf : MethodName := ⟨RX6, "sortOf", "(I)I"⟩
abbrev cX6_rewind : ByteArray := prog_8_method_4_code
def yX6_rewind : MethodName := ⟨RX6, "rewind", "()V"⟩
abbrev cX6_advance : ByteArray := prog_8_method_5_code
def yX6_advance : MethodName := ⟨RX6, "advance", "()V"⟩
abbrev cX6_takeWord : ByteArray := prog_8_method_6_code
def yX6_takeWord : MethodName := ⟨RX6, "takeWord", "()V"⟩
abbrev cX6_takeNumber : ByteArray := prog_8_method_7_code
def yX6_takeNumber : MethodName := ⟨RX6, "takeNumber", "()V"⟩
abbrev cX6_reads : ByteArray := prog_8_method_8_code
def yX6_reads : MethodName := ⟨RX6, "reads", "(Ljava/lang/String;)Z"⟩
def RX7 : String := "GoldenRows$Versions"
def TX7 : u_T := fun k => match k with
  | 0 => ("GoldenRows$Versions", "count", "I", false)
  | 1 => ("GoldenRows$Versions", "row", "[I", true)
  | 2 => ("GoldenRows$Versions", "field", "[I", true)
  | 3 => ("GoldenRows$Versions", "value", "[I", true)
  | 4 => ("GoldenRows$Versions", "since", "[I", true)
  | 5 => ("GoldenRows$Versions", "told", "[I", true)
  | _ => ("GoldenRows$Versions", "echo", "[Z", true)
def tyX7 : Nat → FieldType := fun k => match k with
  | 0 => .int
  | 1 => .array .int
  | 2 => .array .int
  | 3 => .array .int
  | 4 => .array .int
  | 5 => .array .int
  | _ => .array .boolean
theorem nmX7 : ∀ a, a < 7 → ∀ b, b < 7 → a ≠ b → (TX7 a).2.1 ≠ (TX7 b).2.1 := by decide +kernel
theorem tyX7_ok : ∀ k, k < 7 → parseFieldDescriptor (TX7 k).2.2.1 = some (tyX7 k) := by decide +kernel
abbrev cX7_init : ByteArray := prog_9_method_1_code
def yX7_init : MethodName := ⟨RX7, "<init>", "()V"⟩
abbrev cX7_add : ByteArray := prog_9_method_2_code
def yX7_add : MethodName := ⟨RX7, "add", "(IIIIIZ)V"⟩
def RX8 : String := "GoldenRows$Voices"
def TX8 : u_T := fun k => match k with
  | 0 => ("GoldenRows$Voices", "loudest", "I", false)
  | 1 => ("GoldenRows$Voices", "strongest", "I", false)
  | 2 => ("GoldenRows$Voices", "different", "I", false)
  | 3 => ("GoldenRows$Voices", "count", "I", false)
  | 4 => ("GoldenRows$Voices", "row", "[I", true)
  | 5 => ("GoldenRows$Voices", "value", "[I", true)
  | 6 => ("GoldenRows$Voices", "since", "[I", true)
  | _ => ("GoldenRows$Voices", "weight", "[I", true)
def tyX8 : Nat → FieldType := fun k => match k with
  | 0 => .int
  | 1 => .int
  | 2 => .int
  | 3 => .int
  | 4 => .array .int
  | 5 => .array .int
  | 6 => .array .int
  | _ => .array .int
theorem nmX8 : ∀ a, a < 8 → ∀ b, b < 8 → a ≠ b → (TX8 a).2.1 ≠ (TX8 b).2.1 := by decide +kernel
theorem tyX8_ok : ∀ k, k < 8 → parseFieldDescriptor (TX8 k).2.2.1 = some (tyX8 k) := by decide +kernel
abbrev cX8_init : ByteArray := prog_10_method_1_code
def yX8_init : MethodName := ⟨RX8, "<init>", "()V"⟩
abbrev cX8_gather : ByteArray := prog_10_method_2_code
def yX8_gather : MethodName := ⟨RX8, "gather", "(LGoldenRows$Sight;LGoldenRows$Rows;LGoldenRows$Parting;LGoldenRows$Weights;II)V"⟩
abbrev cX8_choose : ByteArray := prog_10_method_3_code
def yX8_choose : MethodName := ⟨RX8, "choose", "()V"⟩
abbrev cX8_isAhead : ByteArray := prog_10_method_4_code
def yX8_isAhead : MethodName := ⟨RX8, "isAhead", "(III)Z"⟩
abbrev cX8_isFirst : ByteArray := prog_10_method_5_code
def yX8_isFirst : MethodName := ⟨RX8, "isFirst", "(I)Z"⟩
abbrev cX8_sumFor : ByteArray := prog_10_method_6_code
def yX8_sumFor : MethodName := ⟨RX8, "sumFor", "(I)I"⟩
abbrev cX8_latestFor : ByteArray := prog_10_method_7_code
def yX8_latestFor : MethodName := ⟨RX8, "latestFor", "(I)I"⟩
abbrev cX8_strongestFor : ByteArray := prog_10_method_8_code
def yX8_strongestFor : MethodName := ⟨RX8, "strongestFor", "(I)I"⟩
def RX9 : String := "GoldenRows$Weights"
def TX9 : u_T := fun k => match k with
  | 0 => ("GoldenRows$Weights", "trust", "[I", true)
  | _ => ("GoldenRows$Weights", "fade", "[I", true)
def tyX9 : Nat → FieldType := fun k => match k with
  | 0 => .array .int
  | _ => .array .int
theorem nmX9 : ∀ a, a < 2 → ∀ b, b < 2 → a ≠ b → (TX9 a).2.1 ≠ (TX9 b).2.1 := by decide +kernel
theorem tyX9_ok : ∀ k, k < 2 → parseFieldDescriptor (TX9 k).2.2.1 = some (tyX9 k) := by decide +kernel
abbrev cX9_init : ByteArray := prog_11_method_1_code
def yX9_init : MethodName := ⟨RX9, "<init>", "()V"⟩
abbrev cX9_weight : ByteArray := prog_11_method_2_code
def yX9_weight : MethodName := ⟨RX9, "weight", "(IIJ)I"⟩
def RX10 : String := "GoldenRows$Wishes"
def TX10 : u_T := fun k => match k with
  | 0 => ("GoldenRows$Wishes", "count", "I", false)
  | 1 => ("GoldenRows$Wishes", "row", "[I", true)
  | 2 => ("GoldenRows$Wishes", "field", "[I", true)
  | _ => ("GoldenRows$Wishes", "value", "[I", true)
def tyX10 : Nat → FieldType := fun k => match k with
  | 0 => .int
  | 1 => .array .int
  | 2 => .array .int
  | _ => .array .int
theorem nmX10 : ∀ a, a < 4 → ∀ b, b < 4 → a ≠ b → (TX10 a).2.1 ≠ (TX10 b).2.1 := by decide +kernel
theorem tyX10_ok : ∀ k, k < 4 → parseFieldDescriptor (TX10 k).2.2.1 = some (tyX10 k) := by decide +kernel
abbrev cX10_init : ByteArray := prog_12_method_1_code
def yX10_init : MethodName := ⟨RX10, "<init>", "(I)V"⟩
abbrev cX10_add : ByteArray := prog_12_method_2_code
def yX10_add : MethodName := ⟨RX10, "add", "(III)V"⟩
abbrev cX10_has : ByteArray := prog_12_method_3_code
def yX10_has : MethodName := ⟨RX10, "has", "(III)Z"⟩
def RX11 : String := "GoldenRows"
def TX11 : u_T := fun k => match k with
  | 0 => ("GoldenRows", "day", "I", false)
  | 1 => ("GoldenRows", "seen", "Z", false)
  | 2 => ("GoldenRows", "parted", "Z", false)
  | 3 => ("GoldenRows", "book", "LGoldenRows$Book;", false)
  | 4 => ("GoldenRows", "spareBook", "LGoldenRows$Book;", false)
  | 5 => ("GoldenRows", "weights", "LGoldenRows$Weights;", true)
  | 6 => ("GoldenRows", "allowed", "[I", true)
  | 7 => ("GoldenRows", "rows", "LGoldenRows$Rows;", true)
  | 8 => ("GoldenRows", "versions", "LGoldenRows$Versions;", true)
  | 9 => ("GoldenRows", "tape", "LGoldenRows$Tape;", true)
  | 10 => ("GoldenRows", "parser", "LGoldenRows$Parser;", true)
  | 11 => ("GoldenRows", "hands", "LGoldenRows$ByHand;", true)
  | 12 => ("GoldenRows", "fixes", "LGoldenRows$ByHand;", true)
  | 13 => ("GoldenRows", "sight", "LGoldenRows$Sight;", true)
  | 14 => ("GoldenRows", "parting", "LGoldenRows$Parting;", true)
  | 15 => ("GoldenRows", "voices", "LGoldenRows$Voices;", true)
  | 16 => ("GoldenRows", "refused", "LGoldenRows$Wishes;", true)
  | _ => ("GoldenRows", "wishes", "LGoldenRows$Wishes;", true)
def tyX11 : Nat → FieldType := fun k => match k with
  | 0 => .int
  | 1 => .boolean
  | 2 => .boolean
  | 3 => .object "GoldenRows$Book"
  | 4 => .object "GoldenRows$Book"
  | 5 => .object "GoldenRows$Weights"
  | 6 => .array .int
  | 7 => .object "GoldenRows$Rows"
  | 8 => .object "GoldenRows$Versions"
  | 9 => .object "GoldenRows$Tape"
  | 10 => .object "GoldenRows$Parser"
  | 11 => .object "GoldenRows$ByHand"
  | 12 => .object "GoldenRows$ByHand"
  | 13 => .object "GoldenRows$Sight"
  | 14 => .object "GoldenRows$Parting"
  | 15 => .object "GoldenRows$Voices"
  | 16 => .object "GoldenRows$Wishes"
  | _ => .object "GoldenRows$Wishes"
theorem nmX11 : ∀ a, a < 18 → ∀ b, b < 18 → a ≠ b → (TX11 a).2.1 ≠ (TX11 b).2.1 := by decide +kernel
theorem tyX11_ok : ∀ k, k < 18 → parseFieldDescriptor (TX11 k).2.2.1 = some (tyX11 k) := by decide +kernel
abbrev cX11_init : ByteArray := prog_1_method_1_code
def yX11_init : MethodName := ⟨RX11, "<init>", "()V"⟩
abbrev cX11_trust : ByteArray := prog_1_method_2_code
def yX11_trust : MethodName := ⟨RX11, "trust", "(III)Z"⟩
abbrev cX11_fade : ByteArray := prog_1_method_3_code
def yX11_fade : MethodName := ⟨RX11, "fade", "(II)Z"⟩
abbrev cX11_rights : ByteArray := prog_1_method_4_code
def yX11_rights : MethodName := ⟨RX11, "rights", "(II)Z"⟩
abbrev cX11_row : ByteArray := prog_1_method_5_code
def yX11_row : MethodName := ⟨RX11, "row", "(I)I"⟩
abbrev cX11_set : ByteArray := prog_1_method_6_code
def yX11_set : MethodName := ⟨RX11, "set", "(IIII)I"⟩
abbrev cX11_value : ByteArray := prog_1_method_7_code
def yX11_value : MethodName := ⟨RX11, "value", "(IIII)I"⟩
abbrev cX11_forget : ByteArray := prog_1_method_8_code
def yX11_forget : MethodName := ⟨RX11, "forget", "(I)Z"⟩
abbrev cX11_later : ByteArray := prog_1_method_9_code
def yX11_later : MethodName := ⟨RX11, "later", "(I)I"⟩
abbrev cX11_feed : ByteArray := prog_1_method_10_code
def yX11_feed : MethodName := ⟨RX11, "feed", "(IIIII)I"⟩
abbrev cX11_end : ByteArray := prog_1_method_11_code
def yX11_end : MethodName := ⟨RX11, "end", "(I)I"⟩
abbrev cX11_rules : ByteArray := prog_1_method_12_code
def yX11_rules : MethodName := ⟨RX11, "rules", "()I"⟩
abbrev cX11_fault : ByteArray := prog_1_method_13_code
def yX11_fault : MethodName := ⟨RX11, "fault", "(I)I"⟩
abbrev cX11_score : ByteArray := prog_1_method_14_code
def yX11_score : MethodName := ⟨RX11, "score", "(IIII)I"⟩
abbrev cX11_hand : ByteArray := prog_1_method_15_code
def yX11_hand : MethodName := ⟨RX11, "hand", "(IIZ)I"⟩
abbrev cX11_unhand : ByteArray := prog_1_method_16_code
def yX11_unhand : MethodName := ⟨RX11, "unhand", "(I)Z"⟩
abbrev cX11_persons : ByteArray := prog_1_method_17_code
def yX11_persons : MethodName := ⟨RX11, "persons", "(II)I"⟩
abbrev cX11_worth : ByteArray := prog_1_method_18_code
def yX11_worth : MethodName := ⟨RX11, "worth", "(II)I"⟩
abbrev cX11_person : ByteArray := prog_1_method_19_code
def yX11_person : MethodName := ⟨RX11, "person", "(III)I"⟩
abbrev cX11_golden : ByteArray := prog_1_method_20_code
def yX11_golden : MethodName := ⟨RX11, "golden", "(IIII)I"⟩
abbrev cX11_from : ByteArray := prog_1_method_21_code
def yX11_from : MethodName := ⟨RX11, "from", "(IIII)I"⟩
abbrev cX11_torn : ByteArray := prog_1_method_22_code
def yX11_torn : MethodName := ⟨RX11, "torn", "(IIII)I"⟩
abbrev cX11_fix : ByteArray := prog_1_method_23_code
def yX11_fix : MethodName := ⟨RX11, "fix", "(III)I"⟩
abbrev cX11_unfix : ByteArray := prog_1_method_24_code
def yX11_unfix : MethodName := ⟨RX11, "unfix", "(I)Z"⟩
abbrev cX11_changes : ByteArray := prog_1_method_25_code
def yX11_changes : MethodName := ⟨RX11, "changes", "(I)I"⟩
abbrev cX11_change : ByteArray := prog_1_method_26_code
def yX11_change : MethodName := ⟨RX11, "change", "(III)I"⟩
abbrev cX11_accept : ByteArray := prog_1_method_27_code
def yX11_accept : MethodName := ⟨RX11, "accept", "(II)Z"⟩
abbrev cX11_refuse : ByteArray := prog_1_method_28_code
def yX11_refuse : MethodName := ⟨RX11, "refuse", "(II)Z"⟩
abbrev cX11_about : ByteArray := prog_1_method_29_code
def yX11_about : MethodName := ⟨RX11, "about", "(I)I"⟩
abbrev cX11_isSource : ByteArray := prog_1_method_30_code
def yX11_isSource : MethodName := ⟨RX11, "isSource", "(I)Z"⟩
abbrev cX11_isField : ByteArray := prog_1_method_31_code
def yX11_isField : MethodName := ⟨RX11, "isField", "(I)Z"⟩
abbrev cX11_isValue : ByteArray := prog_1_method_32_code
def yX11_isValue : MethodName := ⟨RX11, "isValue", "(I)Z"⟩
abbrev cX11_look : ByteArray := prog_1_method_33_code
def yX11_look : MethodName := ⟨RX11, "look", "(II)V"⟩
abbrev cX11_part : ByteArray := prog_1_method_34_code
def yX11_part : MethodName := ⟨RX11, "part", "(II)Z"⟩
abbrev cX11_personAsked : ByteArray := prog_1_method_35_code
def yX11_personAsked : MethodName := ⟨RX11, "personAsked", "(IIII)I"⟩
abbrev cX11_hear : ByteArray := prog_1_method_36_code
def yX11_hear : MethodName := ⟨RX11, "hear", "(II)V"⟩
abbrev cX11_goldenOf : ByteArray := prog_1_method_37_code
def yX11_goldenOf : MethodName := ⟨RX11, "goldenOf", "(II)I"⟩
abbrev cX11_latestFix : ByteArray := prog_1_method_38_code
def yX11_latestFix : MethodName := ⟨RX11, "latestFix", "(II)I"⟩
abbrev cX11_hasWish : ByteArray := prog_1_method_39_code
def yX11_hasWish : MethodName := ⟨RX11, "hasWish", "(II)Z"⟩
abbrev cX11_listWishes : ByteArray := prog_1_method_40_code
def yX11_listWishes : MethodName := ⟨RX11, "listWishes", "(I)V"⟩
abbrev cX11_listWishesOf : ByteArray := prog_1_method_41_code
def yX11_listWishesOf : MethodName := ⟨RX11, "listWishesOf", "(II)V"⟩
def RX12 : String := "GoldenRowsModel"
def TX12 : u_T := fun k => match k with
  | 0 => ("GoldenRowsModel", "today", "I", false)
  | 1 => ("GoldenRowsModel", "trust", "[I", true)
  | 2 => ("GoldenRowsModel", "fade", "[I", true)
  | 3 => ("GoldenRowsModel", "rights", "[I", true)
  | 4 => ("GoldenRowsModel", "rows", "I", false)
  | 5 => ("GoldenRowsModel", "versions", "I", false)
  | 6 => ("GoldenRowsModel", "sourceOf", "[I", true)
  | 7 => ("GoldenRowsModel", "rowDay", "[I", true)
  | 8 => ("GoldenRowsModel", "isForgotten", "[Z", true)
  | 9 => ("GoldenRowsModel", "verRow", "[I", true)
  | 10 => ("GoldenRowsModel", "verField", "[I", true)
  | 11 => ("GoldenRowsModel", "verValue", "[I", true)
  | 12 => ("GoldenRowsModel", "verFrom", "[I", true)
  | 13 => ("GoldenRowsModel", "verTold", "[I", true)
  | 14 => ("GoldenRowsModel", "isEcho", "[Z", true)
  | 15 => ("GoldenRowsModel", "steps", "[I", true)
  | 16 => ("GoldenRowsModel", "fields", "[I", true)
  | 17 => ("GoldenRowsModel", "nears", "[I", true)
  | 18 => ("GoldenRowsModel", "lineAt", "[I", true)
  | 19 => ("GoldenRowsModel", "gives", "[I", true)
  | 20 => ("GoldenRowsModel", "lines", "I", false)
  | 21 => ("GoldenRowsModel", "newSteps", "[I", true)
  | 22 => ("GoldenRowsModel", "newFields", "[I", true)
  | 23 => ("GoldenRowsModel", "newNears", "[I", true)
  | 24 => ("GoldenRowsModel", "newAt", "[I", true)
  | 25 => ("GoldenRowsModel", "newGives", "[I", true)
  | 26 => ("GoldenRowsModel", "newLines", "I", false)
  | 27 => ("GoldenRowsModel", "newMany", "I", false)
  | 28 => ("GoldenRowsModel", "tests", "I", false)
  | 29 => ("GoldenRowsModel", "tape", "[I", true)
  | 30 => ("GoldenRowsModel", "taped", "I", false)
  | 31 => ("GoldenRowsModel", "fault", "I", false)
  | 32 => ("GoldenRowsModel", "faultPlace", "I", false)
  | 33 => ("GoldenRowsModel", "at", "I", false)
  | 34 => ("GoldenRowsModel", "size", "I", false)
  | 35 => ("GoldenRowsModel", "sort", "I", false)
  | 36 => ("GoldenRowsModel", "place", "I", false)
  | 37 => ("GoldenRowsModel", "number", "I", false)
  | 38 => ("GoldenRowsModel", "word", "J", false)
  | 39 => ("GoldenRowsModel", "waits", "[I", true)
  | 40 => ("GoldenRowsModel", "waiting", "I", false)
  | 41 => ("GoldenRowsModel", "deep", "I", false)
  | 42 => ("GoldenRowsModel", "pile", "[Z", true)
  | 43 => ("GoldenRowsModel", "hands", "I", false)
  | 44 => ("GoldenRowsModel", "fixes", "I", false)
  | 45 => ("GoldenRowsModel", "handA", "[I", true)
  | 46 => ("GoldenRowsModel", "handB", "[I", true)
  | 47 => ("GoldenRowsModel", "handTold", "[I", true)
  | 48 => ("GoldenRowsModel", "handUntold", "[I", true)
  | 49 => ("GoldenRowsModel", "isMust", "[Z", true)
  | 50 => ("GoldenRowsModel", "fixRow", "[I", true)
  | 51 => ("GoldenRowsModel", "fixField", "[I", true)
  | 52 => ("GoldenRowsModel", "fixValue", "[I", true)
  | 53 => ("GoldenRowsModel", "fixTold", "[I", true)
  | 54 => ("GoldenRowsModel", "fixUntold", "[I", true)
  | 55 => ("GoldenRowsModel", "there", "I", false)
  | 56 => ("GoldenRowsModel", "bestWorth", "I", false)
  | 57 => ("GoldenRowsModel", "bestMany", "I", false)
  | 58 => ("GoldenRowsModel", "isParted", "Z", false)
  | 59 => ("GoldenRowsModel", "rowAt", "[I", true)
  | 60 => ("GoldenRowsModel", "personOf", "[I", true)
  | 61 => ("GoldenRowsModel", "now", "[I", true)
  | 62 => ("GoldenRowsModel", "next0", "[I", true)
  | 63 => ("GoldenRowsModel", "used", "[I", true)
  | 64 => ("GoldenRowsModel", "worths", "[I", true)
  | 65 => ("GoldenRowsModel", "scores", "[I", true)
  | 66 => ("GoldenRowsModel", "says", "[I", true)
  | 67 => ("GoldenRowsModel", "goldValue", "I", false)
  | 68 => ("GoldenRowsModel", "goldFrom", "I", false)
  | 69 => ("GoldenRowsModel", "goldMany", "I", false)
  | 70 => ("GoldenRowsModel", "said", "[I", true)
  | 71 => ("GoldenRowsModel", "saidBy", "[I", true)
  | 72 => ("GoldenRowsModel", "saidDay", "[I", true)
  | 73 => ("GoldenRowsModel", "sums", "[J", true)
  | 74 => ("GoldenRowsModel", "greatest", "[J", true)
  | 75 => ("GoldenRowsModel", "refusals", "I", false)
  | 76 => ("GoldenRowsModel", "changeMany", "I", false)
  | 77 => ("GoldenRowsModel", "refRow", "[I", true)
  | 78 => ("GoldenRowsModel", "refField", "[I", true)
  | 79 => ("GoldenRowsModel", "refValue", "[I", true)
  | 80 => ("GoldenRowsModel", "changeRow", "[I", true)
  | 81 => ("GoldenRowsModel", "changeField", "[I", true)
  | _ => ("GoldenRowsModel", "changeValue", "[I", true)
def tyX12 : Nat → FieldType := fun k => match k with
  | 0 => .int
  | 1 => .array .int
  | 2 => .array .int
  | 3 => .array .int
  | 4 => .int
  | 5 => .int
  | 6 => .array .int
  | 7 => .array .int
  | 8 => .array .boolean
  | 9 => .array .int
  | 10 => .array .int
  | 11 => .array .int
  | 12 => .array .int
  | 13 => .array .int
  | 14 => .array .boolean
  | 15 => .array .int
  | 16 => .array .int
  | 17 => .array .int
  | 18 => .array .int
  | 19 => .array .int
  | 20 => .int
  | 21 => .array .int
  | 22 => .array .int
  | 23 => .array .int
  | 24 => .array .int
  | 25 => .array .int
  | 26 => .int
  | 27 => .int
  | 28 => .int
  | 29 => .array .int
  | 30 => .int
  | 31 => .int
  | 32 => .int
  | 33 => .int
  | 34 => .int
  | 35 => .int
  | 36 => .int
  | 37 => .int
  | 38 => .long
  | 39 => .array .int
  | 40 => .int
  | 41 => .int
  | 42 => .array .boolean
  | 43 => .int
  | 44 => .int
  | 45 => .array .int
  | 46 => .array .int
  | 47 => .array .int
  | 48 => .array .int
  | 49 => .array .boolean
  | 50 => .array .int
  | 51 => .array .int
  | 52 => .array .int
  | 53 => .array .int
  | 54 => .array .int
  | 55 => .int
  | 56 => .int
  | 57 => .int
  | 58 => .boolean
  | 59 => .array .int
  | 60 => .array .int
  | 61 => .array .int
  | 62 => .array .int
  | 63 => .array .int
  | 64 => .array .int
  | 65 => .array .int
  | 66 => .array .int
  | 67 => .int
  | 68 => .int
  | 69 => .int
  | 70 => .array .int
  | 71 => .array .int
  | 72 => .array .int
  | 73 => .array .long
  | 74 => .array .long
  | 75 => .int
  | 76 => .int
  | 77 => .array .int
  | 78 => .array .int
  | 79 => .array .int
  | 80 => .array .int
  | 81 => .array .int
  | _ => .array .int
theorem nmX12 : ∀ a, a < 83 → ∀ b, b < 83 → a ≠ b → (TX12 a).2.1 ≠ (TX12 b).2.1 := by decide +kernel
theorem tyX12_ok : ∀ k, k < 83 → parseFieldDescriptor (TX12 k).2.2.1 = some (tyX12 k) := by decide +kernel
abbrev cX12_init : ByteArray := prog_14_method_1_code
def yX12_init : MethodName := ⟨RX12, "<init>", "()V"⟩
abbrev cX12_isSource : ByteArray := prog_14_method_2_code
def yX12_isSource : MethodName := ⟨RX12, "isSource", "(I)Z"⟩
abbrev cX12_isField : ByteArray := prog_14_method_3_code
def yX12_isField : MethodName := ⟨RX12, "isField", "(I)Z"⟩
abbrev cX12_trust : ByteArray := prog_14_method_4_code
def yX12_trust : MethodName := ⟨RX12, "trust", "(III)Z"⟩
abbrev cX12_fade : ByteArray := prog_14_method_5_code
def yX12_fade : MethodName := ⟨RX12, "fade", "(II)Z"⟩
abbrev cX12_rights : ByteArray := prog_14_method_6_code
def yX12_rights : MethodName := ⟨RX12, "rights", "(II)Z"⟩
abbrev cX12_row : ByteArray := prog_14_method_7_code
def yX12_row : MethodName := ⟨RX12, "row", "(I)I"⟩
abbrev cX12_isRow : ByteArray := prog_14_method_8_code
def yX12_isRow : MethodName := ⟨RX12, "isRow", "(I)Z"⟩
abbrev cX12_isThere : ByteArray := prog_14_method_9_code
def yX12_isThere : MethodName := ⟨RX12, "isThere", "(II)Z"⟩
abbrev cX12_isValue : ByteArray := prog_14_method_10_code
def yX12_isValue : MethodName := ⟨RX12, "isValue", "(I)Z"⟩
abbrev cX12_tell : ByteArray := prog_14_method_11_code
def yX12_tell : MethodName := ⟨RX12, "tell", "(IIIIZ)V"⟩
abbrev cX12_set : ByteArray := prog_14_method_12_code
def yX12_set : MethodName := ⟨RX12, "set", "(IIII)I"⟩
abbrev cX12_version : ByteArray := prog_14_method_13_code
def yX12_version : MethodName := ⟨RX12, "version", "(IIII)I"⟩
abbrev cX12_valueOf : ByteArray := prog_14_method_14_code
def yX12_valueOf : MethodName := ⟨RX12, "valueOf", "(IIII)I"⟩
abbrev cX12_value : ByteArray := prog_14_method_15_code
def yX12_value : MethodName := ⟨RX12, "value", "(IIII)I"⟩
abbrev cX12_forget : ByteArray := prog_14_method_16_code
def yX12_forget : MethodName := ⟨RX12, "forget", "(I)Z"⟩
abbrev cX12_later : ByteArray := prog_14_method_17_code
def yX12_later : MethodName := ⟨RX12, "later", "(I)I"⟩
abbrev cX12_feed : ByteArray := prog_14_method_18_code
def yX12_feed : MethodName := ⟨RX12, "feed", "(IIIII)I"⟩
abbrev cX12_four : ByteArray := prog_14_method_19_code
def yX12_four : MethodName := ⟨RX12, "four", "(I)V"⟩
abbrev cX12_end : ByteArray := prog_14_method_20_code
def yX12_end : MethodName := ⟨RX12, "end", "(I)I"⟩
abbrev cX12_here : ByteArray := prog_14_method_21_code
def yX12_here : MethodName := ⟨RX12, "here", "(I)I"⟩
abbrev cX12_isLetter : ByteArray := prog_14_method_22_code
def yX12_isLetter : MethodName := ⟨RX12, "isLetter", "(I)Z"⟩
abbrev cX12_isDigit : ByteArray := prog_14_method_23_code
def yX12_isDigit : MethodName := ⟨RX12, "isDigit", "(I)Z"⟩
abbrev cX12_next : ByteArray := prog_14_method_24_code
def yX12_next : MethodName := ⟨RX12, "next", "()V"⟩
abbrev cX12_wrong : ByteArray := prog_14_method_25_code
def yX12_wrong : MethodName := ⟨RX12, "wrong", "(I)V"⟩
abbrev cX12_isWord : ByteArray := prog_14_method_26_code
def yX12_isWord : MethodName := ⟨RX12, "isWord", "(J)Z"⟩
abbrev cX12_step : ByteArray := prog_14_method_27_code
def yX12_step : MethodName := ⟨RX12, "step", "(III)V"⟩
abbrev cX12_told : ByteArray := prog_14_method_28_code
def yX12_told : MethodName := ⟨RX12, "told", "(II)I"⟩
abbrev cX12_hold : ByteArray := prog_14_method_29_code
def yX12_hold : MethodName := ⟨RX12, "hold", "(I)V"⟩
abbrev cX12_pop : ByteArray := prog_14_method_30_code
def yX12_pop : MethodName := ⟨RX12, "pop", "()V"⟩
abbrev cX12_settle : ByteArray := prog_14_method_31_code
def yX12_settle : MethodName := ⟨RX12, "settle", "(Z)V"⟩
abbrev cX12_isOpen : ByteArray := prog_14_method_32_code
def yX12_isOpen : MethodName := ⟨RX12, "isOpen", "()Z"⟩
abbrev cX12_readE : ByteArray := prog_14_method_33_code
def yX12_readE : MethodName := ⟨RX12, "readE", "()V"⟩
abbrev cX12_operand : ByteArray := prog_14_method_34_code
def yX12_operand : MethodName := ⟨RX12, "operand", "()Z"⟩
abbrev cX12_sign : ByteArray := prog_14_method_35_code
def yX12_sign : MethodName := ⟨RX12, "sign", "()Z"⟩
abbrev cX12_rules : ByteArray := prog_14_method_36_code
def yX12_rules : MethodName := ⟨RX12, "rules", "()I"⟩
abbrev cX12_fault : ByteArray := prog_14_method_37_code
def yX12_fault : MethodName := ⟨RX12, "fault", "(I)I"⟩
abbrev cX12_holds : ByteArray := prog_14_method_38_code
def yX12_holds : MethodName := ⟨RX12, "holds", "(IIIII)Z"⟩
abbrev cX12_scoreOf : ByteArray := prog_14_method_39_code
def yX12_scoreOf : MethodName := ⟨RX12, "scoreOf", "(IIII)I"⟩
abbrev cX12_score : ByteArray := prog_14_method_40_code
def yX12_score : MethodName := ⟨RX12, "score", "(IIII)I"⟩
abbrev cX12_isKnown : ByteArray := prog_14_method_41_code
def yX12_isKnown : MethodName := ⟨RX12, "isKnown", "(III)Z"⟩
abbrev cX12_hand : ByteArray := prog_14_method_42_code
def yX12_hand : MethodName := ⟨RX12, "hand", "(IIZ)I"⟩
abbrev cX12_unhand : ByteArray := prog_14_method_43_code
def yX12_unhand : MethodName := ⟨RX12, "unhand", "(I)Z"⟩
abbrev cX12_fix : ByteArray := prog_14_method_44_code
def yX12_fix : MethodName := ⟨RX12, "fix", "(III)I"⟩
abbrev cX12_unfix : ByteArray := prog_14_method_45_code
def yX12_unfix : MethodName := ⟨RX12, "unfix", "(I)Z"⟩
abbrev cX12_part : ByteArray := prog_14_method_46_code
def yX12_part : MethodName := ⟨RX12, "part", "(II)V"⟩
abbrev cX12_canBe : ByteArray := prog_14_method_47_code
def yX12_canBe : MethodName := ⟨RX12, "canBe", "(II)Z"⟩
abbrev cX12_look : ByteArray := prog_14_method_48_code
def yX12_look : MethodName := ⟨RX12, "look", "()V"⟩
abbrev cX12_persons : ByteArray := prog_14_method_49_code
def yX12_persons : MethodName := ⟨RX12, "persons", "(II)I"⟩
abbrev cX12_worth : ByteArray := prog_14_method_50_code
def yX12_worth : MethodName := ⟨RX12, "worth", "(II)I"⟩
abbrev cX12_person : ByteArray := prog_14_method_51_code
def yX12_person : MethodName := ⟨RX12, "person", "(III)I"⟩
abbrev cX12_gold : ByteArray := prog_14_method_52_code
def yX12_gold : MethodName := ⟨RX12, "gold", "(IIII)V"⟩
abbrev cX12_tells : ByteArray := prog_14_method_53_code
def yX12_tells : MethodName := ⟨RX12, "tells", "(IIII)Z"⟩
abbrev cX12_golden : ByteArray := prog_14_method_54_code
def yX12_golden : MethodName := ⟨RX12, "golden", "(IIII)I"⟩
abbrev cX12_from : ByteArray := prog_14_method_55_code
def yX12_from : MethodName := ⟨RX12, "from", "(IIII)I"⟩
abbrev cX12_torn : ByteArray := prog_14_method_56_code
def yX12_torn : MethodName := ⟨RX12, "torn", "(IIII)I"⟩
abbrev cX12_isRefused : ByteArray := prog_14_method_57_code
def yX12_isRefused : MethodName := ⟨RX12, "isRefused", "(III)Z"⟩
abbrev cX12_seek : ByteArray := prog_14_method_58_code
def yX12_seek : MethodName := ⟨RX12, "seek", "(I)V"⟩
abbrev cX12_changes : ByteArray := prog_14_method_59_code
def yX12_changes : MethodName := ⟨RX12, "changes", "(I)I"⟩
abbrev cX12_isChange : ByteArray := prog_14_method_60_code
def yX12_isChange : MethodName := ⟨RX12, "isChange", "(II)Z"⟩
abbrev cX12_change : ByteArray := prog_14_method_61_code
def yX12_change : MethodName := ⟨RX12, "change", "(III)I"⟩
abbrev cX12_accept : ByteArray := prog_14_method_62_code
def yX12_accept : MethodName := ⟨RX12, "accept", "(II)Z"⟩
abbrev cX12_refuse : ByteArray := prog_14_method_63_code
def yX12_refuse : MethodName := ⟨RX12, "refuse", "(II)Z"⟩
abbrev cX12_about : ByteArray := prog_14_method_64_code
def yX12_about : MethodName := ⟨RX12, "about", "(I)I"⟩
def RJ6 : String := "java/lang/Integer"
def TJ6 : u_T := fun k => match k with
  | _ => ("", "", "", false)
def tyJ6 : Nat → FieldType := fun k => match k with
  | _ => .int
theorem nmJ6 : ∀ a, a < 0 → ∀ b, b < 0 → a ≠ b → (TJ6 a).2.1 ≠ (TJ6 b).2.1 := by decide +kernel
theorem tyJ6_ok : ∀ k, k < 0 → parseFieldDescriptor (TJ6 k).2.2.1 = some (tyJ6 k) := by decide +kernel
abbrev cJ6_bitCount_0f7a4 : ByteArray := prog_15_method_49_code
def yJ6_bitCount_0f7a4 : MethodName := ⟨RJ6, "bitCount", "(I)I"⟩
def RJ9 : String := "java/lang/Math"
def TJ9 : u_T := fun k => match k with
  | _ => ("", "", "", false)
def tyJ9 : Nat → FieldType := fun k => match k with
  | _ => .int
theorem nmJ9 : ∀ a, a < 0 → ∀ b, b < 0 → a ≠ b → (TJ9 a).2.1 ≠ (TJ9 b).2.1 := by decide +kernel
theorem tyJ9_ok : ∀ k, k < 0 → parseFieldDescriptor (TJ9 k).2.2.1 = some (tyJ9 k) := by decide +kernel
abbrev cJ9_max_7cf53 : ByteArray := prog_16_method_65_code
def yJ9_max_7cf53 : MethodName := ⟨RJ9, "max", "(II)I"⟩
abbrev cJ9_max_f86c9 : ByteArray := prog_16_method_66_code
def yJ9_max_f86c9 : MethodName := ⟨RJ9, "max", "(JJ)J"⟩
def RJ0 : String := "java/lang/String"
def TJ0 : u_T := fun k => match k with
  | _ => ("", "", "", false)
def tyJ0 : Nat → FieldType := fun k => match k with
  | _ => .int
theorem nmJ0 : ∀ a, a < 0 → ∀ b, b < 0 → a ≠ b → (TJ0 a).2.1 ≠ (TJ0 b).2.1 := by decide +kernel
theorem tyJ0_ok : ∀ k, k < 0 → parseFieldDescriptor (TJ0 k).2.2.1 = some (tyJ0 k) := by decide +kernel
abbrev cJ0_length_8abf5 : ByteArray := prog_17_method_54_code
def yJ0_length_8abf5 : MethodName := ⟨RJ0, "length", "()I"⟩
abbrev cJ0_charAt_5068e : ByteArray := prog_17_method_56_code
def yJ0_charAt_5068e : MethodName := ⟨RJ0, "charAt", "(I)C"⟩
abbrev cJ0_coder_7d493 : ByteArray := prog_17_method_152_code
def yJ0_coder_7d493 : MethodName := ⟨RJ0, "coder", "()B"⟩
abbrev cJ0_isLatin1_aae02 : ByteArray := prog_17_method_154_code
def yJ0_isLatin1_aae02 : MethodName := ⟨RJ0, "isLatin1", "()Z"⟩
abbrev cJ0_checkIndex_df160 : ByteArray := prog_17_method_155_code
def yJ0_checkIndex_df160 : MethodName := ⟨RJ0, "checkIndex", "(II)V"⟩
def RJ1 : String := "java/lang/StringLatin1"
def TJ1 : u_T := fun k => match k with
  | _ => ("", "", "", false)
def tyJ1 : Nat → FieldType := fun k => match k with
  | _ => .int
theorem nmJ1 : ∀ a, a < 0 → ∀ b, b < 0 → a ≠ b → (TJ1 a).2.1 ≠ (TJ1 b).2.1 := by decide +kernel
theorem tyJ1_ok : ∀ k, k < 0 → parseFieldDescriptor (TJ1 k).2.2.1 = some (tyJ1 k) := by decide +kernel
abbrev cJ1_charAt_3b067 : ByteArray := prog_18_method_2_code
def yJ1_charAt_3b067 : MethodName := ⟨RJ1, "charAt", "([BI)C"⟩
def RJ2 : String := "java/lang/StringUTF16"
def TJ2 : u_T := fun k => match k with
  | _ => ("", "", "", false)
def tyJ2 : Nat → FieldType := fun k => match k with
  | _ => .int
theorem nmJ2 : ∀ a, a < 0 → ∀ b, b < 0 → a ≠ b → (TJ2 a).2.1 ≠ (TJ2 b).2.1 := by decide +kernel
theorem tyJ2_ok : ∀ k, k < 0 → parseFieldDescriptor (TJ2 k).2.2.1 = some (tyJ2 k) := by decide +kernel
abbrev cJ2_getChar_3b067 : ByteArray := prog_19_method_5_code
def yJ2_getChar_3b067 : MethodName := ⟨RJ2, "getChar", "([BI)C"⟩
abbrev cJ2_length_9d52b : ByteArray := prog_19_method_6_code
def yJ2_length_9d52b : MethodName := ⟨RJ2, "length", "([B)I"⟩
abbrev cJ2_charAt_3b067 : ByteArray := prog_19_method_83_code
def yJ2_charAt_3b067 : MethodName := ⟨RJ2, "charAt", "([BI)C"⟩
abbrev cJ2_checkIndex_2214a : ByteArray := prog_19_method_91_code
def yJ2_checkIndex_2214a : MethodName := ⟨RJ2, "checkIndex", "(I[B)V"⟩
def RJ3 : String := "jdk/internal/util/Preconditions"
def TJ3 : u_T := fun k => match k with
  | _ => ("", "", "", false)
def tyJ3 : Nat → FieldType := fun k => match k with
  | _ => .int
theorem nmJ3 : ∀ a, a < 0 → ∀ b, b < 0 → a ≠ b → (TJ3 a).2.1 ≠ (TJ3 b).2.1 := by decide +kernel
theorem tyJ3_ok : ∀ k, k < 0 → parseFieldDescriptor (TJ3 k).2.2.1 = some (tyJ3 k) := by decide +kernel
abbrev cJ3_checkIndex_8e157 : ByteArray := prog_20_method_11_code
def yJ3_checkIndex_8e157 : MethodName := ⟨RJ3, "checkIndex", "(IILjava/util/function/BiFunction;)I"⟩
def RL : String := "GoldenRowsLaw"
abbrev cL_law : ByteArray := code
def yL_law : MethodName := ⟨RL, "law", "([I)Z"⟩
abbrev classes : List vw_C := [(RX0, TX0, 8), (RX1, TX1, 6), (RX2, TX2, 2), (RX3, TX3, 15), (RX4, TX4, 4), (RX5, TX5, 6), (RX6, TX6, 7), (RX7, TX7, 7), (RX8, TX8, 8), (RX9, TX9, 2), (RX10, TX10, 4), (RX11, TX11, 18), (RX12, TX12, 83)]
def fTL : List (List Nat) := [[0, 0, 0, 3, 3, 3, 3, 3], [0, 3, 3, 3, 3, 3], [0, 0], [1, 0, 0, 0, 3, 3, 3, 3, 3, 3, 3, 3, 3, 3, 3], [0, 3, 3, 3], [0, 0, 3, 3, 3, 3], [0, 0, 0, 0, 0, 3, 3], [0, 3, 3, 3, 3, 3, 3], [0, 0, 0, 0, 3, 3, 3, 3], [3, 3], [0, 3, 3, 3], [0, 1, 1, 3, 3, 3, 3, 3, 3, 3, 3, 3, 3, 3, 3, 3, 3, 3], [0, 3, 3, 3, 0, 0, 3, 3, 3, 3, 3, 3, 3, 3, 3, 3, 3, 3, 3, 3, 0, 3, 3, 3, 3, 3, 0, 0, 0, 3, 0, 0, 0, 0, 0, 0, 0, 0, 2, 3, 0, 0, 3, 0, 0, 3, 3, 3, 3, 3, 3, 3, 3, 3, 3, 0, 0, 0, 1, 3, 3, 3, 3, 3, 3, 3, 3, 0, 0, 0, 3, 3, 3, 3, 3, 0, 0, 3, 3, 3, 3, 3, 3]]
def strB : List (List Int) := [[98, 97, 114], [108, 105, 110, 107], [119, 104, 101, 110], [110, 111, 116], [115, 111, 117, 114, 99, 101], [108, 97, 99, 107, 115], [110, 101, 97, 114], [115, 97, 109, 101], [111, 114], [97, 110, 100]]
def strN : List (Nat × String) := [(42, "bar"), (48, "link"), (60, "when"), (81, "not"), (86, "source"), (88, "lacks"), (90, "near"), (92, "same"), (73, "or"), (75, "and")]
end
section
-- THE ABSTRACT MACHINE: values, worlds, one step of straight code, branches, calls; no proofs of the real machine here
abbrev AV : Type := Int ⊕ (Int ⊕ Option Nat)
abbrev vI (x : Int) : AV := Sum.inl x
abbrev vL (x : Int) : AV := Sum.inr (Sum.inl x)
abbrev vR (r : Nat) : AV := Sum.inr (Sum.inr (some r))
abbrev vO (r : Option Nat) : AV := Sum.inr (Sum.inr r)
/-- a world: its cells' kinds ((0, class, fields) or (1, kind of element, length)), its ints, its longs, its references -/
abbrev AW : Type := List (Nat × Nat × Nat) × (Nat → Nat → Int) × (Nat → Nat → Int) × (Nat → Nat → Option Nat)
/-- place in the code, locals, operands, world -/
abbrev AS : Type := Nat × List (Option AV) × List AV × AW
/-- place, instruction, length, a number, two places -/
abbrev AE : Type := Nat × Instr × Nat × Int × Nat × Nat
/-- the script: its length and its ints -/
abbrev AX : Type := Nat × (Nat → Int32)
def wI (w : AW) (a j : Nat) : Int := w.2.1 a j
def wL (w : AW) (a j : Nat) : Int := w.2.2.1 a j
def wR (w : AW) (a j : Nat) : Option Nat := w.2.2.2 a j
def uI (w : AW) (a j : Nat) (x : Int) : AW := (w.1, (fun b i => if b = a ∧ i = j then x else w.2.1 b i), w.2.2.1, w.2.2.2)
def uL (w : AW) (a j : Nat) (x : Int) : AW := (w.1, w.2.1, (fun b i => if b = a ∧ i = j then x else w.2.2.1 b i), w.2.2.2)
def uR (w : AW) (a j : Nat) (x : Option Nat) : AW := (w.1, w.2.1, w.2.2.1, (fun b i => if b = a ∧ i = j then x else w.2.2.2 b i))
/-- one more cell, all zero -/
def uN (w : AW) (q : Nat × Nat × Nat) : AW := (w.1 ++ [q], (fun b i => if b = w.1.length then 0 else w.2.1 b i), (fun b i => if b = w.1.length then 0 else w.2.2.1 b i), (fun b i => if b = w.1.length then none else w.2.2.2 b i))
/-- how many cells, how many slots -/
def cN (w : AW) : Nat := w.1.length
def sN (w : AW) : Nat := (w.1.map (fun q => q.2.2)).sum
def i32 (x : Int) : Prop := -2147483648 ≤ x ∧ x ≤ 2147483647
def i64 (x : Int) : Prop := -9223372036854775808 ≤ x ∧ x ≤ 9223372036854775807
def w32 (x : Int) : Int := Int.bmod x 4294967296
def w64 (x : Int) : Int := Int.bmod x 18446744073709551616
def bAnd (x y : Int) : Int := (Int32.ofInt x &&& Int32.ofInt y).toInt
def bOr (x y : Int) : Int := (Int32.ofInt x ||| Int32.ofInt y).toInt
def bXor (x y : Int) : Int := (Int32.ofInt x ^^^ Int32.ofInt y).toInt
def bShl (x y : Int) : Int := (Int32.ofInt x <<< (Int32.ofInt y &&& 31)).toInt
def bShr (x y : Int) : Int := (Int32.ofInt x >>> (Int32.ofInt y &&& 31)).toInt
def bUshr (x y : Int) : Int := ((Int32.ofInt x).toUInt32 >>> ((Int32.ofInt y).toUInt32 &&& Int32.toUInt32 31)).toInt32.toInt
def lAnd (x y : Int) : Int := (Int64.ofInt x &&& Int64.ofInt y).toInt
def lOr (x y : Int) : Int := (Int64.ofInt x ||| Int64.ofInt y).toInt
def lXor (x y : Int) : Int := (Int64.ofInt x ^^^ Int64.ofInt y).toInt
def lShl (x y : Int) : Int := (Int64.ofInt x <<< ((Int32.ofInt y).toInt64 &&& 63)).toInt
def lShr (x y : Int) : Int := (Int64.ofInt x >>> ((Int32.ofInt y).toInt64 &&& 63)).toInt
def lUshr (x y : Int) : Int := ((Int64.ofInt x).toUInt64 >>> ((Int32.ofInt y).toInt64.toUInt64 &&& Int64.toUInt64 63)).toInt64.toInt
def lCmp (x y : Int) : Int := if x < y then -1 else if x = y then 0 else 1
def iMax (x y : Int) : Int := if x < y then y else x
def lMax (x y : Int) : Int := if y < x then x else y
def c16 (x : Int) : Int := ((Int32.ofInt x).toUInt32 % 65536).toInt32.toInt
def kL (lv : List (Option AV)) (i : Nat) : List (Option AV) := match lv[i]? with
  | some (some (Sum.inr (Sum.inl _))) => lv.set i none
  | _ => lv
/-- locals behind a store of one word, of two -/
def s1 (lv : List (Option AV)) (i : Nat) (v : AV) : List (Option AV) := (match i with
  | 0 => lv
  | j + 1 => kL lv j).set i (some v)
def s2 (lv : List (Option AV)) (i : Nat) (v : AV) : List (Option AV) := ((match i with
  | 0 => lv
  | j + 1 => kL lv j).set (i + 1) none).set i (some v)
def cat (v : AV) : Nat := match v with
  | Sum.inr (Sum.inl _) => 2
  | _ => 1
def catS (st : List AV) : Nat := (st.map cat).sum
/-- the kinds of a class's fields: 0 int, 1 boolean, 2 long, 3 a reference -/
def fT (ci j : Nat) : Nat := (fTL.getD ci []).getD j 0
def tgt (pc : Nat) (off : Int) : Nat := ((pc : Int) + off).toNat
def lInt (lv : List (Option AV)) (i : Nat) : Option Int := match lv[i]? with
  | some (some (Sum.inl x)) => some x
  | _ => none
def lLng (lv : List (Option AV)) (i : Nat) : Option Int := match lv[i]? with
  | some (some (Sum.inr (Sum.inl x))) => some x
  | _ => none
def lRef (lv : List (Option AV)) (i : Nat) : Option Nat := match lv[i]? with
  | some (some (Sum.inr (Sum.inr (some x)))) => some x
  | _ => none
def fGet (w : AW) (st : List AV) (a b : Nat) : Option (List AV) := match st with
  | Sum.inr (Sum.inr (some r)) :: st =>
    if a = 100 then (if 2000 ≤ r ∧ r < 2010 then some ((if b = 0 then vR (r + 1000) else vI 0) :: st) else none) else
    match w.1[r]? with
    | some (0, ci, n) => if ci = a ∧ b < n then some ((match fT a b with
      | 0 => vI (wI w r b)
      | 1 => vI (wI w r b)
      | 2 => vL (wL w r b)
      | _ => vO (wR w r b)) :: st) else none
    | _ => none
  | _ => none
def fPut (w : AW) (st : List AV) (a b : Nat) : Option (List Prop × List AV × AW) := match st with
  | v :: Sum.inr (Sum.inr (some r)) :: st =>
    match w.1[r]? with
    | some (0, ci, n) => if ci = a ∧ b < n then (match fT a b, v with
      | 0, Sum.inl x => some ([], st, uI w r b x)
      | 1, Sum.inl x => some ([x = 0 ∨ x = 1], st, uI w r b x)
      | 2, Sum.inr (Sum.inl x) => some ([], st, uL w r b x)
      | 3, Sum.inr (Sum.inr x) => some ([], st, uR w r b x)
      | _, _ => none) else none
    | _ => none
  | _ => none
def aGet (E : AX) (w : AW) (st : List AV) (t : Nat) : Option (List Prop × List AV) := match st with
  | Sum.inl i :: Sum.inr (Sum.inr (some r)) :: st =>
    match w.1[r]? with
    | some (1, ty, n) => if ty = t then some ([0 ≤ i ∧ i < (n : Int)], (if t = 2 then vL (wL w r i.toNat) else vI (wI w r i.toNat)) :: st) else none
    | some _ => none
    | none => if r = 1000 ∧ t = 0 then some ([0 ≤ i ∧ i < (E.1 : Int)], vI (E.2 i.toNat).toInt :: st) else
      if 3000 ≤ r ∧ r < 3010 ∧ t = 1 then some ([0 ≤ i ∧ i < ((strB.getD (r - 3000) []).length : Int)], vI ((strB.getD (r - 3000) []).getD i.toNat 0) :: st) else none
  | _ => none
def aPut (w : AW) (st : List AV) (t : Nat) : Option (List Prop × List AV × AW) := match st with
  | v :: Sum.inl i :: Sum.inr (Sum.inr (some r)) :: st =>
    match w.1[r]? with
    | some (1, ty, n) => if ty = t then (match t, v with
      | 0, Sum.inl x => some ([0 ≤ i ∧ i < (n : Int)], st, uI w r i.toNat x)
      | 1, Sum.inl x => some ([0 ≤ i ∧ i < (n : Int), x = 0 ∨ x = 1], st, uI w r i.toNat x)
      | 2, Sum.inr (Sum.inl x) => some ([0 ≤ i ∧ i < (n : Int)], st, uL w r i.toNat x)
      | _, _ => none) else none
    | _ => none
  | _ => none
def aLen (E : AX) (w : AW) (st : List AV) : Option (List AV) := match st with
  | Sum.inr (Sum.inr (some r)) :: st =>
    match w.1[r]? with
    | some (1, _, n) => some (vI (n : Int) :: st)
    | some _ => none
    | none => if r = 1000 then some (vI (E.1 : Int) :: st) else if 3000 ≤ r ∧ r < 3010 then some (vI ((strB.getD (r - 3000) []).length : Int) :: st) else none
  | _ => none
/-- one instruction that goes on: what it asks, and the state behind it -/
def ex (E : AX) (e : AE) (pc : Nat) (lv : List (Option AV)) (st : List AV) (w : AW) : Option (List Prop × AS) :=
  match e.2.1 with
  | .iconst n => some ([], pc + 1, lv, vI n :: st, w)
  | .bipush n => some ([], pc + 2, lv, vI n :: st, w)
  | .sipush n => some ([], pc + 3, lv, vI n :: st, w)
  | .lconst n => some ([], pc + 1, lv, vL ((n : Nat) : Int) :: st, w)
  | .ldc _ => if e.2.2.2.2.1 = 0 then some ([], pc + 2, lv, vI e.2.2.2.1 :: st, w) else some ([], pc + 2, lv, vR (2000 + e.2.2.2.2.2) :: st, w)
  | .ldc_w _ => some ([], pc + 3, lv, vI e.2.2.2.1 :: st, w)
  | .ldc2_w _ => some ([], pc + 3, lv, vL e.2.2.2.1 :: st, w)
  | .iload i => (lInt lv i).map (fun x => ([], pc + 2, lv, vI x :: st, w))
  | .iload_n i => (lInt lv i).map (fun x => ([], pc + 1, lv, vI x :: st, w))
  | .lload i => (lLng lv i).map (fun x => ([], pc + 2, lv, vL x :: st, w))
  | .lload_n i => (lLng lv i).map (fun x => ([], pc + 1, lv, vL x :: st, w))
  | .aload i => (lRef lv i).map (fun x => ([], pc + 2, lv, vR x :: st, w))
  | .aload_n i => (lRef lv i).map (fun x => ([], pc + 1, lv, vR x :: st, w))
  | .istore i => match st with
    | Sum.inl x :: st => some ([], pc + 2, s1 lv i (vI x), st, w)
    | _ => none
  | .istore_n i => match st with
    | Sum.inl x :: st => some ([], pc + 1, s1 lv i (vI x), st, w)
    | _ => none
  | .lstore i => match st with
    | Sum.inr (Sum.inl x) :: st => some ([], pc + 2, s2 lv i (vL x), st, w)
    | _ => none
  | .lstore_n i => match st with
    | Sum.inr (Sum.inl x) :: st => some ([], pc + 1, s2 lv i (vL x), st, w)
    | _ => none
  | .astore i => match st with
    | Sum.inr (Sum.inr (some x)) :: st => some ([], pc + 2, s1 lv i (vR x), st, w)
    | _ => none
  | .astore_n i => match st with
    | Sum.inr (Sum.inr (some x)) :: st => some ([], pc + 1, s1 lv i (vR x), st, w)
    | _ => none
  | .iinc i n => (lInt lv i).map (fun x => ([i32 (x + n)], pc + 3, s1 lv i (vI (x + n)), st, w))
  | .iadd => match st with
    | Sum.inl y :: Sum.inl x :: st => if e.2.2.2.1 = 0 then some ([i32 (x + y)], pc + 1, lv, vI (x + y) :: st, w) else some ([], pc + 1, lv, vI (w32 (x + y)) :: st, w)
    | _ => none
  | .isub => match st with
    | Sum.inl y :: Sum.inl x :: st => if e.2.2.2.1 = 0 then some ([i32 (x - y)], pc + 1, lv, vI (x - y) :: st, w) else some ([], pc + 1, lv, vI (w32 (x - y)) :: st, w)
    | _ => none
  | .imul => match st with
    | Sum.inl y :: Sum.inl x :: st => if e.2.2.2.1 = 0 then some ([i32 (x * y)], pc + 1, lv, vI (x * y) :: st, w) else some ([], pc + 1, lv, vI (w32 (x * y)) :: st, w)
    | _ => none
  | .ineg => match st with
    | Sum.inl x :: st => some ([i32 (-x)], pc + 1, lv, vI (-x) :: st, w)
    | _ => none
  | .iand => match st with
    | Sum.inl y :: Sum.inl x :: st => some ([], pc + 1, lv, vI (bAnd x y) :: st, w)
    | _ => none
  | .ior => match st with
    | Sum.inl y :: Sum.inl x :: st => some ([], pc + 1, lv, vI (bOr x y) :: st, w)
    | _ => none
  | .ixor => match st with
    | Sum.inl y :: Sum.inl x :: st => some ([], pc + 1, lv, vI (bXor x y) :: st, w)
    | _ => none
  | .ishl => match st with
    | Sum.inl y :: Sum.inl x :: st => some ([], pc + 1, lv, vI (bShl x y) :: st, w)
    | _ => none
  | .ishr => match st with
    | Sum.inl y :: Sum.inl x :: st => some ([], pc + 1, lv, vI (bShr x y) :: st, w)
    | _ => none
  | .iushr => match st with
    | Sum.inl y :: Sum.inl x :: st => some ([], pc + 1, lv, vI (bUshr x y) :: st, w)
    | _ => none
  | .ladd => match st with
    | Sum.inr (Sum.inl y) :: Sum.inr (Sum.inl x) :: st => some ([i64 (x + y)], pc + 1, lv, vL (x + y) :: st, w)
    | _ => none
  | .lsub => match st with
    | Sum.inr (Sum.inl y) :: Sum.inr (Sum.inl x) :: st => some ([i64 (x - y)], pc + 1, lv, vL (x - y) :: st, w)
    | _ => none
  | .lmul => match st with
    | Sum.inr (Sum.inl y) :: Sum.inr (Sum.inl x) :: st => some ([i64 (x * y)], pc + 1, lv, vL (x * y) :: st, w)
    | _ => none
  | .land => match st with
    | Sum.inr (Sum.inl y) :: Sum.inr (Sum.inl x) :: st => some ([], pc + 1, lv, vL (lAnd x y) :: st, w)
    | _ => none
  | .lor => match st with
    | Sum.inr (Sum.inl y) :: Sum.inr (Sum.inl x) :: st => some ([], pc + 1, lv, vL (lOr x y) :: st, w)
    | _ => none
  | .lxor => match st with
    | Sum.inr (Sum.inl y) :: Sum.inr (Sum.inl x) :: st => some ([], pc + 1, lv, vL (lXor x y) :: st, w)
    | _ => none
  | .lshl => match st with
    | Sum.inl y :: Sum.inr (Sum.inl x) :: st => some ([], pc + 1, lv, vL (lShl x y) :: st, w)
    | _ => none
  | .lshr => match st with
    | Sum.inl y :: Sum.inr (Sum.inl x) :: st => some ([], pc + 1, lv, vL (lShr x y) :: st, w)
    | _ => none
  | .lushr => match st with
    | Sum.inl y :: Sum.inr (Sum.inl x) :: st => some ([], pc + 1, lv, vL (lUshr x y) :: st, w)
    | _ => none
  | .lcmp => match st with
    | Sum.inr (Sum.inl y) :: Sum.inr (Sum.inl x) :: st => some ([], pc + 1, lv, vI (lCmp x y) :: st, w)
    | _ => none
  | .i2l => match st with
    | Sum.inl x :: st => some ([], pc + 1, lv, vL x :: st, w)
    | _ => none
  | .l2i => match st with
    | Sum.inr (Sum.inl x) :: st => some ([], pc + 1, lv, vI (w32 x) :: st, w)
    | _ => none
  | .i2c => match st with
    | Sum.inl x :: st => some ([], pc + 1, lv, vI (c16 x) :: st, w)
    | _ => none
  | .dup => match st with
    | v :: st => if cat v = 1 then some ([], pc + 1, lv, v :: v :: st, w) else none
    | _ => none
  | .dup2 => match st with
    | v :: u :: st => if cat v = 1 ∧ cat u = 1 then some ([], pc + 1, lv, v :: u :: v :: u :: st, w) else none
    | _ => none
  | .pop => match st with
    | v :: st => if cat v = 1 then some ([], pc + 1, lv, st, w) else none
    | _ => none
  | .goto off => some ([], tgt pc off, lv, st, w)
  | .getfield _ => (fGet w st e.2.2.2.2.1 e.2.2.2.2.2).map (fun st => ([], pc + 3, lv, st, w))
  | .getstatic _ => if e.2.2.2.2.1 = 0 then some ([], pc + 3, lv, vI 1 :: st, w) else if e.2.2.2.2.1 = 1 then some ([], pc + 3, lv, vR 5000 :: st, w) else none
  | .putfield _ => (fPut w st e.2.2.2.2.1 e.2.2.2.2.2).map (fun q => (q.1, pc + 3, lv, q.2.1, q.2.2))
  | .iaload => (aGet E w st 0).map (fun q => (q.1, pc + 1, lv, q.2, w))
  | .baload => (aGet E w st 1).map (fun q => (q.1, pc + 1, lv, q.2, w))
  | .laload => (aGet E w st 2).map (fun q => (q.1, pc + 1, lv, q.2, w))
  | .iastore => (aPut w st 0).map (fun q => (q.1, pc + 1, lv, q.2.1, q.2.2))
  | .bastore => (aPut w st 1).map (fun q => (q.1, pc + 1, lv, q.2.1, q.2.2))
  | .lastore => (aPut w st 2).map (fun q => (q.1, pc + 1, lv, q.2.1, q.2.2))
  | .arraylength => (aLen E w st).map (fun st => ([], pc + 1, lv, st, w))
  | .invokespecial _ => if e.2.2.2.2.1 = 990 then (match st with
    | Sum.inr (Sum.inr (some _)) :: st => if catS st ≤ 8 then some ([], pc + 3, lv, st, w) else none
    | _ => none) else none
  | .invokestatic _ => if e.2.2.2.2.1 = 991 then (match st with
    | Sum.inl y :: Sum.inl x :: st => if catS st ≤ 8 then some ([], pc + 3, lv, vI (iMax x y) :: st, w) else none
    | _ => none) else if e.2.2.2.2.1 = 992 then (match st with
    | Sum.inr (Sum.inl y) :: Sum.inr (Sum.inl x) :: st => if catS st ≤ 8 then some ([], pc + 3, lv, vL (lMax x y) :: st, w) else none
    | _ => none) else none
  | _ => none
def en (cs : List AE) (pc : Nat) : Option AE := cs.find? (fun e => Nat.beq e.1 pc)
def nx (E : AX) (cs : List AE) (t : AS) : Option (List Prop × AS) := match en cs t.1 with
  | none => none
  | some e => ex E e t.1 t.2.1 t.2.2.1 t.2.2.2
def rn (E : AX) (cs : List AE) : Nat → AS → Option (List Prop × AS)
  | 0, t => some ([], t)
  | n + 1, t => match nx E cs t with
    | none => none
    | some (ps, t') => match rn E cs n t' with
      | none => none
      | some (qs, t'') => some (ps ++ qs, t'')
def all_ : List Prop → Prop
  | [] => True
  | [p] => p
  | p :: q :: ps => p ∧ all_ (q :: ps)
/-- a branch: its condition, the two states -/
def bcE (e : AE) (pc : Nat) (lv : List (Option AV)) (st : List AV) (w : AW) : Option (Prop × AS × AS) :=
  match e.2.1, st with
  | .ifCond .eq off, Sum.inl x :: st => some (x = 0, (tgt pc off, lv, st, w), (pc + 3, lv, st, w))
  | .ifCond .ne off, Sum.inl x :: st => some (x ≠ 0, (tgt pc off, lv, st, w), (pc + 3, lv, st, w))
  | .ifCond .lt off, Sum.inl x :: st => some (x < 0, (tgt pc off, lv, st, w), (pc + 3, lv, st, w))
  | .ifCond .ge off, Sum.inl x :: st => some (0 ≤ x, (tgt pc off, lv, st, w), (pc + 3, lv, st, w))
  | .ifCond .gt off, Sum.inl x :: st => some (0 < x, (tgt pc off, lv, st, w), (pc + 3, lv, st, w))
  | .ifCond .le off, Sum.inl x :: st => some (x ≤ 0, (tgt pc off, lv, st, w), (pc + 3, lv, st, w))
  | .if_icmp .eq off, Sum.inl y :: Sum.inl x :: st => some (x = y, (tgt pc off, lv, st, w), (pc + 3, lv, st, w))
  | .if_icmp .ne off, Sum.inl y :: Sum.inl x :: st => some (x ≠ y, (tgt pc off, lv, st, w), (pc + 3, lv, st, w))
  | .if_icmp .lt off, Sum.inl y :: Sum.inl x :: st => some (x < y, (tgt pc off, lv, st, w), (pc + 3, lv, st, w))
  | .if_icmp .ge off, Sum.inl y :: Sum.inl x :: st => some (y ≤ x, (tgt pc off, lv, st, w), (pc + 3, lv, st, w))
  | .if_icmp .gt off, Sum.inl y :: Sum.inl x :: st => some (y < x, (tgt pc off, lv, st, w), (pc + 3, lv, st, w))
  | .if_icmp .le off, Sum.inl y :: Sum.inl x :: st => some (x ≤ y, (tgt pc off, lv, st, w), (pc + 3, lv, st, w))
  | _, _ => none
def bc (cs : List AE) (t : AS) : Option (Prop × AS × AS) := match en cs t.1 with
  | none => none
  | some e => bcE e t.1 t.2.1 t.2.2.1 t.2.2.2
end
