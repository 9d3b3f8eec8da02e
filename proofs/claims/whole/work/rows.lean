section
-- ===== PART A: goes FIRST, ahead of the names: the tables' words, and 'selects' of the private methods out of them =====
/-- a private method of a class that the tables say can be made, by its rows of tables_1 -/
def lw_okq (q : MethodName × Nat) : Prop := (q.1.cls ≠ "java/lang/invoke/MethodHandle" ∧ q.1.cls ≠ "java/lang/invoke/VarHandle") ∧ Cond.instantiable q.1.cls q.2 ∈ tables_1 ∧ Cond.privateMethod q.1 ∈ tables_1 ∧ Cond.instanceMethod q.1 ∈ tables_1
theorem lw_p0 : lw_okq (⟨"FlaringWords$Text", "readPiece", "(II)I"⟩, 6) := ⟨⟨by decide +kernel, by decide +kernel⟩, List.mem_of_getElem? (i := 160) (by decide +kernel), List.mem_of_getElem? (i := 302) (by decide +kernel), List.mem_of_getElem? (i := 303) (by decide +kernel)⟩
theorem lw_p1 : lw_okq (⟨"FlaringWords$Text", "letterAt", "(I)I"⟩, 6) := ⟨⟨by decide +kernel, by decide +kernel⟩, List.mem_of_getElem? (i := 160) (by decide +kernel), List.mem_of_getElem? (i := 306) (by decide +kernel), List.mem_of_getElem? (i := 307) (by decide +kernel)⟩
theorem lw_p2 : lw_okq (⟨"FlaringWords$Text", "hasTwoFigures", "()Z"⟩, 6) := ⟨⟨by decide +kernel, by decide +kernel⟩, List.mem_of_getElem? (i := 160) (by decide +kernel), List.mem_of_getElem? (i := 313) (by decide +kernel), List.mem_of_getElem? (i := 314) (by decide +kernel)⟩
theorem lw_p3 : lw_okq (⟨"FlaringWords$Text", "passes", "(C)Z"⟩, 6) := ⟨⟨by decide +kernel, by decide +kernel⟩, List.mem_of_getElem? (i := 160) (by decide +kernel), List.mem_of_getElem? (i := 317) (by decide +kernel), List.mem_of_getElem? (i := 318) (by decide +kernel)⟩
theorem lw_p4 : lw_okq (⟨"FlaringWords$Text", "readWords", "()I"⟩, 6) := ⟨⟨by decide +kernel, by decide +kernel⟩, List.mem_of_getElem? (i := 160) (by decide +kernel), List.mem_of_getElem? (i := 321) (by decide +kernel), List.mem_of_getElem? (i := 322) (by decide +kernel)⟩
theorem lw_p5 : lw_okq (⟨"FlaringWords", "aheadOfDeed", "()V"⟩, 9) := ⟨⟨by decide +kernel, by decide +kernel⟩, List.mem_of_getElem? (i := 16) (by decide +kernel), List.mem_of_getElem? (i := 339) (by decide +kernel), List.mem_of_getElem? (i := 340) (by decide +kernel)⟩
theorem lw_p6 : lw_okq (⟨"FlaringWords$Deeds", "dropOldest", "()V"⟩, 2) := ⟨⟨by decide +kernel, by decide +kernel⟩, List.mem_of_getElem? (i := 185) (by decide +kernel), List.mem_of_getElem? (i := 347) (by decide +kernel), List.mem_of_getElem? (i := 348) (by decide +kernel)⟩
theorem lw_p7 : lw_okq (⟨"FlaringWords", "found", "()LFlaringWords$Findings;"⟩, 9) := ⟨⟨by decide +kernel, by decide +kernel⟩, List.mem_of_getElem? (i := 16) (by decide +kernel), List.mem_of_getElem? (i := 386) (by decide +kernel), List.mem_of_getElem? (i := 387) (by decide +kernel)⟩
theorem lw_p8 : lw_okq (⟨"FlaringWords$Tally", "countWord", "(LFlaringWords$News;I)V"⟩, 8) := ⟨⟨by decide +kernel, by decide +kernel⟩, List.mem_of_getElem? (i := 62) (by decide +kernel), List.mem_of_getElem? (i := 415) (by decide +kernel), List.mem_of_getElem? (i := 416) (by decide +kernel)⟩
theorem lw_p9 : lw_okq (⟨"FlaringWords$Levels", "costRests", "(LFlaringWords$Tally;I)V"⟩, 3) := ⟨⟨by decide +kernel, by decide +kernel⟩, List.mem_of_getElem? (i := 95) (by decide +kernel), List.mem_of_getElem? (i := 429) (by decide +kernel), List.mem_of_getElem? (i := 430) (by decide +kernel)⟩
theorem lw_p10 : lw_okq (⟨"FlaringWords$Levels", "leastFrom", "(LFlaringWords$Tally;II)I"⟩, 3) := ⟨⟨by decide +kernel, by decide +kernel⟩, List.mem_of_getElem? (i := 95) (by decide +kernel), List.mem_of_getElem? (i := 441) (by decide +kernel), List.mem_of_getElem? (i := 442) (by decide +kernel)⟩
theorem lw_p11 : lw_okq (⟨"FlaringWords$Levels", "costFrom", "(LFlaringWords$Tally;III)I"⟩, 3) := ⟨⟨by decide +kernel, by decide +kernel⟩, List.mem_of_getElem? (i := 95) (by decide +kernel), List.mem_of_getElem? (i := 445) (by decide +kernel), List.mem_of_getElem? (i := 446) (by decide +kernel)⟩
theorem lw_p12 : lw_okq (⟨"FlaringWords$Levels", "walk", "(LFlaringWords$Tally;I)V"⟩, 3) := ⟨⟨by decide +kernel, by decide +kernel⟩, List.mem_of_getElem? (i := 95) (by decide +kernel), List.mem_of_getElem? (i := 473) (by decide +kernel), List.mem_of_getElem? (i := 474) (by decide +kernel)⟩
theorem lw_p13 : lw_okq (⟨"FlaringWords$Flares", "findAt", "(LFlaringWords$Levels;III)V"⟩, 2) := ⟨⟨by decide +kernel, by decide +kernel⟩, List.mem_of_getElem? (i := 112) (by decide +kernel), List.mem_of_getElem? (i := 483) (by decide +kernel), List.mem_of_getElem? (i := 484) (by decide +kernel)⟩
theorem lw_p14 : lw_okq (⟨"FlaringWords$Flares", "add", "(IIII)V"⟩, 2) := ⟨⟨by decide +kernel, by decide +kernel⟩, List.mem_of_getElem? (i := 112) (by decide +kernel), List.mem_of_getElem? (i := 492) (by decide +kernel), List.mem_of_getElem? (i := 493) (by decide +kernel)⟩
theorem lw_p15 : lw_okq (⟨"FlaringWords$Flares", "around", "(I)I"⟩, 2) := ⟨⟨by decide +kernel, by decide +kernel⟩, List.mem_of_getElem? (i := 112) (by decide +kernel), List.mem_of_getElem? (i := 496) (by decide +kernel), List.mem_of_getElem? (i := 497) (by decide +kernel)⟩
def lw_privs_1 : List (MethodName × Nat) := [(⟨"FlaringWords$Text", "readPiece", "(II)I"⟩, 6), (⟨"FlaringWords$Text", "letterAt", "(I)I"⟩, 6), (⟨"FlaringWords$Text", "hasTwoFigures", "()Z"⟩, 6), (⟨"FlaringWords$Text", "passes", "(C)Z"⟩, 6), (⟨"FlaringWords$Text", "readWords", "()I"⟩, 6), (⟨"FlaringWords", "aheadOfDeed", "()V"⟩, 9), (⟨"FlaringWords$Deeds", "dropOldest", "()V"⟩, 2), (⟨"FlaringWords", "found", "()LFlaringWords$Findings;"⟩, 9), (⟨"FlaringWords$Tally", "countWord", "(LFlaringWords$News;I)V"⟩, 8), (⟨"FlaringWords$Levels", "costRests", "(LFlaringWords$Tally;I)V"⟩, 3), (⟨"FlaringWords$Levels", "leastFrom", "(LFlaringWords$Tally;II)I"⟩, 3), (⟨"FlaringWords$Levels", "costFrom", "(LFlaringWords$Tally;III)I"⟩, 3), (⟨"FlaringWords$Levels", "walk", "(LFlaringWords$Tally;I)V"⟩, 3), (⟨"FlaringWords$Flares", "findAt", "(LFlaringWords$Levels;III)V"⟩, 2), (⟨"FlaringWords$Flares", "add", "(IIII)V"⟩, 2), (⟨"FlaringWords$Flares", "around", "(I)I"⟩, 2)]
theorem lw_r1 : ∀ q ∈ lw_privs_1, lw_okq q := List.forall_mem_cons.mpr ⟨lw_p0, List.forall_mem_cons.mpr ⟨lw_p1, List.forall_mem_cons.mpr ⟨lw_p2, List.forall_mem_cons.mpr ⟨lw_p3, List.forall_mem_cons.mpr ⟨lw_p4, List.forall_mem_cons.mpr ⟨lw_p5, List.forall_mem_cons.mpr ⟨lw_p6, List.forall_mem_cons.mpr ⟨lw_p7, List.forall_mem_cons.mpr ⟨lw_p8, List.forall_mem_cons.mpr ⟨lw_p9, List.forall_mem_cons.mpr ⟨lw_p10, List.forall_mem_cons.mpr ⟨lw_p11, List.forall_mem_cons.mpr ⟨lw_p12, List.forall_mem_cons.mpr ⟨lw_p13, List.forall_mem_cons.mpr ⟨lw_p14, List.forall_mem_cons.mpr ⟨lw_p15, fun _ h => absurd h List.not_mem_nil⟩⟩⟩⟩⟩⟩⟩⟩⟩⟩⟩⟩⟩⟩⟩⟩
theorem lw_p16 : lw_okq (⟨"FlaringWords$Flares", "weightOf", "(LFlaringWords$Tally;I)I"⟩, 2) := ⟨⟨by decide +kernel, by decide +kernel⟩, List.mem_of_getElem? (i := 112) (by decide +kernel), List.mem_of_getElem? (i := 508) (by decide +kernel), List.mem_of_getElem? (i := 509) (by decide +kernel)⟩
theorem lw_p17 : lw_okq (⟨"FlaringWords$Flares", "peakOf", "(LFlaringWords$Tally;I)I"⟩, 2) := ⟨⟨by decide +kernel, by decide +kernel⟩, List.mem_of_getElem? (i := 112) (by decide +kernel), List.mem_of_getElem? (i := 513) (by decide +kernel), List.mem_of_getElem? (i := 514) (by decide +kernel)⟩
theorem lw_p18 : lw_okq (⟨"FlaringWords$Flares", "fadeOf", "(LFlaringWords$Tally;I)I"⟩, 2) := ⟨⟨by decide +kernel, by decide +kernel⟩, List.mem_of_getElem? (i := 112) (by decide +kernel), List.mem_of_getElem? (i := 518) (by decide +kernel), List.mem_of_getElem? (i := 519) (by decide +kernel)⟩
theorem lw_p19 : lw_okq (⟨"FlaringWords$Stories", "tieBy", "(LFlaringWords$Flares;II)V"⟩, 3) := ⟨⟨by decide +kernel, by decide +kernel⟩, List.mem_of_getElem? (i := 126) (by decide +kernel), List.mem_of_getElem? (i := 547) (by decide +kernel), List.mem_of_getElem? (i := 548) (by decide +kernel)⟩
theorem lw_p20 : lw_okq (⟨"FlaringWords$Stories", "joined", "(III)I"⟩, 3) := ⟨⟨by decide +kernel, by decide +kernel⟩, List.mem_of_getElem? (i := 126) (by decide +kernel), List.mem_of_getElem? (i := 557) (by decide +kernel), List.mem_of_getElem? (i := 558) (by decide +kernel)⟩
theorem lw_p21 : lw_okq (⟨"FlaringWords$Stories", "numberHeaps", "(LFlaringWords$Flares;)V"⟩, 3) := ⟨⟨by decide +kernel, by decide +kernel⟩, List.mem_of_getElem? (i := 126) (by decide +kernel), List.mem_of_getElem? (i := 567) (by decide +kernel), List.mem_of_getElem? (i := 568) (by decide +kernel)⟩
theorem lw_p22 : lw_okq (⟨"FlaringWords$Stories", "begun", "(LFlaringWords$Flares;I)I"⟩, 3) := ⟨⟨by decide +kernel, by decide +kernel⟩, List.mem_of_getElem? (i := 126) (by decide +kernel), List.mem_of_getElem? (i := 571) (by decide +kernel), List.mem_of_getElem? (i := 572) (by decide +kernel)⟩
theorem lw_p23 : lw_okq (⟨"FlaringWords$Stories", "grow", "(ILFlaringWords$Flares;I)V"⟩, 3) := ⟨⟨by decide +kernel, by decide +kernel⟩, List.mem_of_getElem? (i := 126) (by decide +kernel), List.mem_of_getElem? (i := 586) (by decide +kernel), List.mem_of_getElem? (i := 587) (by decide +kernel)⟩
theorem lw_p24 : lw_okq (⟨"FlaringWords$Findings", "isAbove", "(III)Z"⟩, 4) := ⟨⟨by decide +kernel, by decide +kernel⟩, List.mem_of_getElem? (i := 56) (by decide +kernel), List.mem_of_getElem? (i := 647) (by decide +kernel), List.mem_of_getElem? (i := 648) (by decide +kernel)⟩
theorem lw_p25 : lw_okq (⟨"FlaringWords", "comes", "(II)V"⟩, 9) := ⟨⟨by decide +kernel, by decide +kernel⟩, List.mem_of_getElem? (i := 16) (by decide +kernel), List.mem_of_getElem? (i := 713) (by decide +kernel), List.mem_of_getElem? (i := 714) (by decide +kernel)⟩
theorem lw_p26 : lw_okq (⟨"FlaringWords", "draw", "(I)I"⟩, 9) := ⟨⟨by decide +kernel, by decide +kernel⟩, List.mem_of_getElem? (i := 16) (by decide +kernel), List.mem_of_getElem? (i := 776) (by decide +kernel), List.mem_of_getElem? (i := 777) (by decide +kernel)⟩
theorem lw_p27 : lw_okq (⟨"FlaringWords", "imageOf", "(I)LFlaringWords$Image;"⟩, 9) := ⟨⟨by decide +kernel, by decide +kernel⟩, List.mem_of_getElem? (i := 16) (by decide +kernel), List.mem_of_getElem? (i := 821) (by decide +kernel), List.mem_of_getElem? (i := 822) (by decide +kernel)⟩
theorem lw_p28 : lw_okq (⟨"FlaringWordsModel", "readText", "()I"⟩, 24) := ⟨⟨by decide +kernel, by decide +kernel⟩, List.mem_of_getElem? (i := 851) (by decide +kernel), List.mem_of_getElem? (i := 944) (by decide +kernel), List.mem_of_getElem? (i := 945) (by decide +kernel)⟩
theorem lw_p29 : lw_okq (⟨"FlaringWordsModel", "faultOf", "(I)I"⟩, 24) := ⟨⟨by decide +kernel, by decide +kernel⟩, List.mem_of_getElem? (i := 851) (by decide +kernel), List.mem_of_getElem? (i := 948) (by decide +kernel), List.mem_of_getElem? (i := 949) (by decide +kernel)⟩
theorem lw_p30 : lw_okq (⟨"FlaringWordsModel", "dayAt", "(I)I"⟩, 24) := ⟨⟨by decide +kernel, by decide +kernel⟩, List.mem_of_getElem? (i := 851) (by decide +kernel), List.mem_of_getElem? (i := 957) (by decide +kernel), List.mem_of_getElem? (i := 958) (by decide +kernel)⟩
theorem lw_p31 : lw_okq (⟨"FlaringWordsModel", "goOn", "(I)V"⟩, 24) := ⟨⟨by decide +kernel, by decide +kernel⟩, List.mem_of_getElem? (i := 851) (by decide +kernel), List.mem_of_getElem? (i := 963) (by decide +kernel), List.mem_of_getElem? (i := 964) (by decide +kernel)⟩
def lw_privs_2 : List (MethodName × Nat) := [(⟨"FlaringWords$Flares", "weightOf", "(LFlaringWords$Tally;I)I"⟩, 2), (⟨"FlaringWords$Flares", "peakOf", "(LFlaringWords$Tally;I)I"⟩, 2), (⟨"FlaringWords$Flares", "fadeOf", "(LFlaringWords$Tally;I)I"⟩, 2), (⟨"FlaringWords$Stories", "tieBy", "(LFlaringWords$Flares;II)V"⟩, 3), (⟨"FlaringWords$Stories", "joined", "(III)I"⟩, 3), (⟨"FlaringWords$Stories", "numberHeaps", "(LFlaringWords$Flares;)V"⟩, 3), (⟨"FlaringWords$Stories", "begun", "(LFlaringWords$Flares;I)I"⟩, 3), (⟨"FlaringWords$Stories", "grow", "(ILFlaringWords$Flares;I)V"⟩, 3), (⟨"FlaringWords$Findings", "isAbove", "(III)Z"⟩, 4), (⟨"FlaringWords", "comes", "(II)V"⟩, 9), (⟨"FlaringWords", "draw", "(I)I"⟩, 9), (⟨"FlaringWords", "imageOf", "(I)LFlaringWords$Image;"⟩, 9), (⟨"FlaringWordsModel", "readText", "()I"⟩, 24), (⟨"FlaringWordsModel", "faultOf", "(I)I"⟩, 24), (⟨"FlaringWordsModel", "dayAt", "(I)I"⟩, 24), (⟨"FlaringWordsModel", "goOn", "(I)V"⟩, 24)]
theorem lw_r2 : ∀ q ∈ lw_privs_2, lw_okq q := List.forall_mem_cons.mpr ⟨lw_p16, List.forall_mem_cons.mpr ⟨lw_p17, List.forall_mem_cons.mpr ⟨lw_p18, List.forall_mem_cons.mpr ⟨lw_p19, List.forall_mem_cons.mpr ⟨lw_p20, List.forall_mem_cons.mpr ⟨lw_p21, List.forall_mem_cons.mpr ⟨lw_p22, List.forall_mem_cons.mpr ⟨lw_p23, List.forall_mem_cons.mpr ⟨lw_p24, List.forall_mem_cons.mpr ⟨lw_p25, List.forall_mem_cons.mpr ⟨lw_p26, List.forall_mem_cons.mpr ⟨lw_p27, List.forall_mem_cons.mpr ⟨lw_p28, List.forall_mem_cons.mpr ⟨lw_p29, List.forall_mem_cons.mpr ⟨lw_p30, List.forall_mem_cons.mpr ⟨lw_p31, fun _ h => absurd h List.not_mem_nil⟩⟩⟩⟩⟩⟩⟩⟩⟩⟩⟩⟩⟩⟩⟩⟩
theorem lw_p32 : lw_okq (⟨"FlaringWordsModel", "remember", "()V"⟩, 24) := ⟨⟨by decide +kernel, by decide +kernel⟩, List.mem_of_getElem? (i := 851) (by decide +kernel), List.mem_of_getElem? (i := 967) (by decide +kernel), List.mem_of_getElem? (i := 968) (by decide +kernel)⟩
theorem lw_p33 : lw_okq (⟨"FlaringWordsModel", "copyRow", "(II)V"⟩, 24) := ⟨⟨by decide +kernel, by decide +kernel⟩, List.mem_of_getElem? (i := 851) (by decide +kernel), List.mem_of_getElem? (i := 971) (by decide +kernel), List.mem_of_getElem? (i := 972) (by decide +kernel)⟩
theorem lw_p34 : lw_okq (⟨"FlaringWordsModel", "add", "(II)V"⟩, 24) := ⟨⟨by decide +kernel, by decide +kernel⟩, List.mem_of_getElem? (i := 851) (by decide +kernel), List.mem_of_getElem? (i := 975) (by decide +kernel), List.mem_of_getElem? (i := 976) (by decide +kernel)⟩
theorem lw_p35 : lw_okq (⟨"FlaringWordsModel", "flaresNow", "()I"⟩, 24) := ⟨⟨by decide +kernel, by decide +kernel⟩, List.mem_of_getElem? (i := 851) (by decide +kernel), List.mem_of_getElem? (i := 987) (by decide +kernel), List.mem_of_getElem? (i := 988) (by decide +kernel)⟩
theorem lw_p36 : lw_okq (⟨"FlaringWordsModel", "layFlares", "()V"⟩, 24) := ⟨⟨by decide +kernel, by decide +kernel⟩, List.mem_of_getElem? (i := 851) (by decide +kernel), List.mem_of_getElem? (i := 991) (by decide +kernel), List.mem_of_getElem? (i := 992) (by decide +kernel)⟩
theorem lw_p37 : lw_okq (⟨"FlaringWordsModel", "layLevels", "(I)V"⟩, 24) := ⟨⟨by decide +kernel, by decide +kernel⟩, List.mem_of_getElem? (i := 851) (by decide +kernel), List.mem_of_getElem? (i := 995) (by decide +kernel), List.mem_of_getElem? (i := 996) (by decide +kernel)⟩
theorem lw_p38 : lw_okq (⟨"FlaringWordsModel", "bestLevel", "(III)I"⟩, 24) := ⟨⟨by decide +kernel, by decide +kernel⟩, List.mem_of_getElem? (i := 851) (by decide +kernel), List.mem_of_getElem? (i := 999) (by decide +kernel), List.mem_of_getElem? (i := 1000) (by decide +kernel)⟩
theorem lw_p39 : lw_okq (⟨"FlaringWordsModel", "through", "(IIII)I"⟩, 24) := ⟨⟨by decide +kernel, by decide +kernel⟩, List.mem_of_getElem? (i := 851) (by decide +kernel), List.mem_of_getElem? (i := 1003) (by decide +kernel), List.mem_of_getElem? (i := 1004) (by decide +kernel)⟩
theorem lw_p40 : lw_okq (⟨"FlaringWordsModel", "unlikely", "(III)I"⟩, 24) := ⟨⟨by decide +kernel, by decide +kernel⟩, List.mem_of_getElem? (i := 851) (by decide +kernel), List.mem_of_getElem? (i := 1007) (by decide +kernel), List.mem_of_getElem? (i := 1008) (by decide +kernel)⟩
theorem lw_p41 : lw_okq (⟨"FlaringWordsModel", "count", "(II)I"⟩, 24) := ⟨⟨by decide +kernel, by decide +kernel⟩, List.mem_of_getElem? (i := 851) (by decide +kernel), List.mem_of_getElem? (i := 1011) (by decide +kernel), List.mem_of_getElem? (i := 1012) (by decide +kernel)⟩
theorem lw_p42 : lw_okq (⟨"FlaringWordsModel", "wanted", "(III)I"⟩, 24) := ⟨⟨by decide +kernel, by decide +kernel⟩, List.mem_of_getElem? (i := 851) (by decide +kernel), List.mem_of_getElem? (i := 1015) (by decide +kernel), List.mem_of_getElem? (i := 1016) (by decide +kernel)⟩
theorem lw_p43 : lw_okq (⟨"FlaringWordsModel", "addFlares", "(II)V"⟩, 24) := ⟨⟨by decide +kernel, by decide +kernel⟩, List.mem_of_getElem? (i := 851) (by decide +kernel), List.mem_of_getElem? (i := 1019) (by decide +kernel), List.mem_of_getElem? (i := 1020) (by decide +kernel)⟩
theorem lw_p44 : lw_okq (⟨"FlaringWordsModel", "stories", "()I"⟩, 24) := ⟨⟨by decide +kernel, by decide +kernel⟩, List.mem_of_getElem? (i := 851) (by decide +kernel), List.mem_of_getElem? (i := 1023) (by decide +kernel), List.mem_of_getElem? (i := 1024) (by decide +kernel)⟩
theorem lw_p45 : lw_okq (⟨"FlaringWordsModel", "layHeaps", "()V"⟩, 24) := ⟨⟨by decide +kernel, by decide +kernel⟩, List.mem_of_getElem? (i := 851) (by decide +kernel), List.mem_of_getElem? (i := 1027) (by decide +kernel), List.mem_of_getElem? (i := 1028) (by decide +kernel)⟩
theorem lw_p46 : lw_okq (⟨"FlaringWordsModel", "areTied", "(II)Z"⟩, 24) := ⟨⟨by decide +kernel, by decide +kernel⟩, List.mem_of_getElem? (i := 851) (by decide +kernel), List.mem_of_getElem? (i := 1031) (by decide +kernel), List.mem_of_getElem? (i := 1032) (by decide +kernel)⟩
theorem lw_p47 : lw_okq (⟨"FlaringWordsModel", "isIn", "(II)Z"⟩, 24) := ⟨⟨by decide +kernel, by decide +kernel⟩, List.mem_of_getElem? (i := 851) (by decide +kernel), List.mem_of_getElem? (i := 1035) (by decide +kernel), List.mem_of_getElem? (i := 1036) (by decide +kernel)⟩
def lw_privs_3 : List (MethodName × Nat) := [(⟨"FlaringWordsModel", "remember", "()V"⟩, 24), (⟨"FlaringWordsModel", "copyRow", "(II)V"⟩, 24), (⟨"FlaringWordsModel", "add", "(II)V"⟩, 24), (⟨"FlaringWordsModel", "flaresNow", "()I"⟩, 24), (⟨"FlaringWordsModel", "layFlares", "()V"⟩, 24), (⟨"FlaringWordsModel", "layLevels", "(I)V"⟩, 24), (⟨"FlaringWordsModel", "bestLevel", "(III)I"⟩, 24), (⟨"FlaringWordsModel", "through", "(IIII)I"⟩, 24), (⟨"FlaringWordsModel", "unlikely", "(III)I"⟩, 24), (⟨"FlaringWordsModel", "count", "(II)I"⟩, 24), (⟨"FlaringWordsModel", "wanted", "(III)I"⟩, 24), (⟨"FlaringWordsModel", "addFlares", "(II)V"⟩, 24), (⟨"FlaringWordsModel", "stories", "()I"⟩, 24), (⟨"FlaringWordsModel", "layHeaps", "()V"⟩, 24), (⟨"FlaringWordsModel", "areTied", "(II)Z"⟩, 24), (⟨"FlaringWordsModel", "isIn", "(II)Z"⟩, 24)]
theorem lw_r3 : ∀ q ∈ lw_privs_3, lw_okq q := List.forall_mem_cons.mpr ⟨lw_p32, List.forall_mem_cons.mpr ⟨lw_p33, List.forall_mem_cons.mpr ⟨lw_p34, List.forall_mem_cons.mpr ⟨lw_p35, List.forall_mem_cons.mpr ⟨lw_p36, List.forall_mem_cons.mpr ⟨lw_p37, List.forall_mem_cons.mpr ⟨lw_p38, List.forall_mem_cons.mpr ⟨lw_p39, List.forall_mem_cons.mpr ⟨lw_p40, List.forall_mem_cons.mpr ⟨lw_p41, List.forall_mem_cons.mpr ⟨lw_p42, List.forall_mem_cons.mpr ⟨lw_p43, List.forall_mem_cons.mpr ⟨lw_p44, List.forall_mem_cons.mpr ⟨lw_p45, List.forall_mem_cons.mpr ⟨lw_p46, List.forall_mem_cons.mpr ⟨lw_p47, fun _ h => absurd h List.not_mem_nil⟩⟩⟩⟩⟩⟩⟩⟩⟩⟩⟩⟩⟩⟩⟩⟩
theorem lw_p48 : lw_okq (⟨"FlaringWordsModel", "begins", "(I)Z"⟩, 24) := ⟨⟨by decide +kernel, by decide +kernel⟩, List.mem_of_getElem? (i := 851) (by decide +kernel), List.mem_of_getElem? (i := 1039) (by decide +kernel), List.mem_of_getElem? (i := 1040) (by decide +kernel)⟩
theorem lw_p49 : lw_okq (⟨"FlaringWordsModel", "toldMore", "(I)I"⟩, 24) := ⟨⟨by decide +kernel, by decide +kernel⟩, List.mem_of_getElem? (i := 851) (by decide +kernel), List.mem_of_getElem? (i := 1043) (by decide +kernel), List.mem_of_getElem? (i := 1044) (by decide +kernel)⟩
theorem lw_p50 : lw_okq (⟨"FlaringWordsModel", "wrong", "()I"⟩, 24) := ⟨⟨by decide +kernel, by decide +kernel⟩, List.mem_of_getElem? (i := 851) (by decide +kernel), List.mem_of_getElem? (i := 1047) (by decide +kernel), List.mem_of_getElem? (i := 1048) (by decide +kernel)⟩
theorem lw_p51 : lw_okq (⟨"FlaringWordsModel", "isDay", "(I)Z"⟩, 24) := ⟨⟨by decide +kernel, by decide +kernel⟩, List.mem_of_getElem? (i := 851) (by decide +kernel), List.mem_of_getElem? (i := 1051) (by decide +kernel), List.mem_of_getElem? (i := 1052) (by decide +kernel)⟩
theorem lw_p52 : lw_okq (⟨"FlaringWordsModel", "levelOf", "(II)I"⟩, 24) := ⟨⟨by decide +kernel, by decide +kernel⟩, List.mem_of_getElem? (i := 851) (by decide +kernel), List.mem_of_getElem? (i := 1055) (by decide +kernel), List.mem_of_getElem? (i := 1056) (by decide +kernel)⟩
theorem lw_p53 : lw_okq (⟨"FlaringWordsModel", "isPiece", "(I)Z"⟩, 24) := ⟨⟨by decide +kernel, by decide +kernel⟩, List.mem_of_getElem? (i := 851) (by decide +kernel), List.mem_of_getElem? (i := 1063) (by decide +kernel), List.mem_of_getElem? (i := 1064) (by decide +kernel)⟩
theorem lw_p54 : lw_okq (⟨"FlaringWordsModel", "hot", "(I)I"⟩, 24) := ⟨⟨by decide +kernel, by decide +kernel⟩, List.mem_of_getElem? (i := 851) (by decide +kernel), List.mem_of_getElem? (i := 1072) (by decide +kernel), List.mem_of_getElem? (i := 1073) (by decide +kernel)⟩
theorem lw_p55 : lw_okq (⟨"FlaringWordsModel", "topOf", "(I)I"⟩, 24) := ⟨⟨by decide +kernel, by decide +kernel⟩, List.mem_of_getElem? (i := 851) (by decide +kernel), List.mem_of_getElem? (i := 1076) (by decide +kernel), List.mem_of_getElem? (i := 1077) (by decide +kernel)⟩
theorem lw_p56 : lw_okq (⟨"FlaringWordsModel", "within", "(I)I"⟩, 24) := ⟨⟨by decide +kernel, by decide +kernel⟩, List.mem_of_getElem? (i := 851) (by decide +kernel), List.mem_of_getElem? (i := 1100) (by decide +kernel), List.mem_of_getElem? (i := 1101) (by decide +kernel)⟩
theorem lw_p57 : lw_okq (⟨"FlaringWordsModel", "weight", "(I)I"⟩, 24) := ⟨⟨by decide +kernel, by decide +kernel⟩, List.mem_of_getElem? (i := 851) (by decide +kernel), List.mem_of_getElem? (i := 1104) (by decide +kernel), List.mem_of_getElem? (i := 1105) (by decide +kernel)⟩
theorem lw_p58 : lw_okq (⟨"FlaringWordsModel", "peak", "(I)I"⟩, 24) := ⟨⟨by decide +kernel, by decide +kernel⟩, List.mem_of_getElem? (i := 851) (by decide +kernel), List.mem_of_getElem? (i := 1108) (by decide +kernel), List.mem_of_getElem? (i := 1109) (by decide +kernel)⟩
theorem lw_p59 : lw_okq (⟨"FlaringWordsModel", "storyOf", "(I)I"⟩, 24) := ⟨⟨by decide +kernel, by decide +kernel⟩, List.mem_of_getElem? (i := 851) (by decide +kernel), List.mem_of_getElem? (i := 1112) (by decide +kernel), List.mem_of_getElem? (i := 1113) (by decide +kernel)⟩
theorem lw_p60 : lw_okq (⟨"FlaringWordsModel", "draw", "(I)I"⟩, 24) := ⟨⟨by decide +kernel, by decide +kernel⟩, List.mem_of_getElem? (i := 851) (by decide +kernel), List.mem_of_getElem? (i := 1153) (by decide +kernel), List.mem_of_getElem? (i := 1154) (by decide +kernel)⟩
def lw_privs_4 : List (MethodName × Nat) := [(⟨"FlaringWordsModel", "begins", "(I)Z"⟩, 24), (⟨"FlaringWordsModel", "toldMore", "(I)I"⟩, 24), (⟨"FlaringWordsModel", "wrong", "()I"⟩, 24), (⟨"FlaringWordsModel", "isDay", "(I)Z"⟩, 24), (⟨"FlaringWordsModel", "levelOf", "(II)I"⟩, 24), (⟨"FlaringWordsModel", "isPiece", "(I)Z"⟩, 24), (⟨"FlaringWordsModel", "hot", "(I)I"⟩, 24), (⟨"FlaringWordsModel", "topOf", "(I)I"⟩, 24), (⟨"FlaringWordsModel", "within", "(I)I"⟩, 24), (⟨"FlaringWordsModel", "weight", "(I)I"⟩, 24), (⟨"FlaringWordsModel", "peak", "(I)I"⟩, 24), (⟨"FlaringWordsModel", "storyOf", "(I)I"⟩, 24), (⟨"FlaringWordsModel", "draw", "(I)I"⟩, 24)]
theorem lw_r4 : ∀ q ∈ lw_privs_4, lw_okq q := List.forall_mem_cons.mpr ⟨lw_p48, List.forall_mem_cons.mpr ⟨lw_p49, List.forall_mem_cons.mpr ⟨lw_p50, List.forall_mem_cons.mpr ⟨lw_p51, List.forall_mem_cons.mpr ⟨lw_p52, List.forall_mem_cons.mpr ⟨lw_p53, List.forall_mem_cons.mpr ⟨lw_p54, List.forall_mem_cons.mpr ⟨lw_p55, List.forall_mem_cons.mpr ⟨lw_p56, List.forall_mem_cons.mpr ⟨lw_p57, List.forall_mem_cons.mpr ⟨lw_p58, List.forall_mem_cons.mpr ⟨lw_p59, List.forall_mem_cons.mpr ⟨lw_p60, fun _ h => absurd h List.not_mem_nil⟩⟩⟩⟩⟩⟩⟩⟩⟩⟩⟩⟩⟩
def lw_privs : List (MethodName × Nat) := lw_privs_1 ++ (lw_privs_2 ++ (lw_privs_3 ++ (lw_privs_4)))
def lw_tbl : List Cond := k2_sels lw_privs ++ tables_1
theorem lw_privs_ok : ∀ q ∈ lw_privs, lw_okq q := by
  show ∀ q ∈ lw_privs_1 ++ (lw_privs_2 ++ (lw_privs_3 ++ (lw_privs_4))), lw_okq q
  exact List.forall_mem_append.mpr ⟨lw_r1, List.forall_mem_append.mpr ⟨lw_r2, List.forall_mem_append.mpr ⟨lw_r3, lw_r4⟩⟩⟩
end
section
/-! ===== BEGIN words of one list among another's, by their places ===== -/
theorem goodIn_r {big : List Cond} (ws : List Cond) (ps : List Nat) (hp : ws = ps.filterMap (fun i => big[i]?)) (h : ws.all goodWord = true) : GoodIn big ws := by
  intro w hw
  have h1 := List.all_eq_true.mp h w hw
  rw [hp] at hw
  obtain ⟨i, -, hi⟩ := List.mem_filterMap.mp hw
  have hm : w ∈ big := by first | exact List.mem_of_getElem? hi | exact List.getElem?_mem hi
  exact ⟨hm, good_of_word h1⟩
theorem goodIn_app {big a b : List Cond} (ha : GoodIn big a) (hb : GoodIn big b) : GoodIn big (a ++ b) := fun w h => (List.mem_append.mp h).elim (ha w) (hb w)
theorem goodIn_ca {big a b : List Cond} {c : Cond} (ha : GoodIn big (c :: a)) (hb : GoodIn big b) : GoodIn big (c :: (a ++ b)) := fun w h => (List.mem_cons.mp h).elim (fun e => ha w (List.mem_cons.mpr (Or.inl e))) (fun h => (List.mem_append.mp h).elim (fun h => ha w (List.mem_cons.mpr (Or.inr h))) (hb w))
theorem goodIn_sub {big ws : List Cond} (hm : ∀ w ∈ ws, w ∈ big) (h : ws.all goodWord = true) : GoodIn big ws := fun w hw => ⟨hm w hw, good_of_word (List.all_eq_true.mp h w hw)⟩
/-! ===== END ===== -/

def RX0 : String := "FlaringWords$Book"
def TX0 : u_T := fun k => match k with
  | 0 => ("FlaringWords$Book", "words", "[I", true)
  | 1 => ("FlaringWords$Book", "daysTold", "[I", true)
  | 2 => ("FlaringWords$Book", "levelsTold", "[I", true)
  | _ => ("FlaringWords$Book", "entries", "I", false)
def tyX0 : Nat → FieldType := fun k => match k with
  | 0 => .array .int
  | 1 => .array .int
  | 2 => .array .int
  | _ => .int
abbrev wsX00 : List Cond := u_ws RX0 TX0 4
theorem nmX0 : ∀ a, a < 4 → ∀ b, b < 4 → a ≠ b → (TX0 a).2.1 ≠ (TX0 b).2.1 := by decide +kernel
theorem tyX0_ok : ∀ k, k < 4 → parseFieldDescriptor (TX0 k).2.2.1 = some (tyX0 k) := by decide +kernel
abbrev cX0_init : ByteArray := prog_2_method_1_code
def yX0_init : MethodName := ⟨RX0, "<init>", "()V"⟩
abbrev cX0_hasRoom : ByteArray := prog_2_method_2_code
def yX0_hasRoom : MethodName := ⟨RX0, "hasRoom", "()Z"⟩
abbrev cX0_entries : ByteArray := prog_2_method_3_code
def yX0_entries : MethodName := ⟨RX0, "entries", "()I"⟩
abbrev cX0_add : ByteArray := prog_2_method_4_code
def yX0_add : MethodName := ⟨RX0, "add", "(III)V"⟩
abbrev cX0_clear : ByteArray := prog_2_method_5_code
def yX0_clear : MethodName := ⟨RX0, "clear", "()V"⟩
abbrev cX0_firstWrong : ByteArray := prog_2_method_6_code
def yX0_firstWrong : MethodName := ⟨RX0, "firstWrong", "(LFlaringWords$News;LFlaringWords$Levels;)I"⟩
def RX1 : String := "FlaringWords$Deeds"
def TX1 : u_T := fun k => match k with
  | 0 => ("FlaringWords$Deeds", "ahead", "[LFlaringWords$News;", true)
  | _ => ("FlaringWords$Deeds", "number", "I", false)
def tyX1 : Nat → FieldType := fun k => match k with
  | 0 => .array (.object "FlaringWords$News")
  | _ => .int
abbrev wsX10 : List Cond := u_ws RX1 TX1 2
theorem nmX1 : ∀ a, a < 2 → ∀ b, b < 2 → a ≠ b → (TX1 a).2.1 ≠ (TX1 b).2.1 := by decide +kernel
theorem tyX1_ok : ∀ k, k < 2 → parseFieldDescriptor (TX1 k).2.2.1 = some (tyX1 k) := by decide +kernel
abbrev cX1_init : ByteArray := prog_3_method_1_code
def yX1_init : MethodName := ⟨RX1, "<init>", "()V"⟩
abbrev cX1_number : ByteArray := prog_3_method_2_code
def yX1_number : MethodName := ⟨RX1, "number", "()I"⟩
abbrev cX1_forget : ByteArray := prog_3_method_3_code
def yX1_forget : MethodName := ⟨RX1, "forget", "()V"⟩
abbrev cX1_remember : ByteArray := prog_3_method_4_code
def yX1_remember : MethodName := ⟨RX1, "remember", "(LFlaringWords$News;)V"⟩
abbrev cX1_takeBack : ByteArray := prog_3_method_5_code
def yX1_takeBack : MethodName := ⟨RX1, "takeBack", "(ILFlaringWords$News;)V"⟩
abbrev cX1_dropOldest : ByteArray := prog_3_method_6_code
def yX1_dropOldest : MethodName := ⟨RX1, "dropOldest", "()V"⟩
def RX2 : String := "FlaringWords$Findings"
def TX2 : u_T := fun k => match k with
  | 0 => ("FlaringWords$Findings", "tally", "LFlaringWords$Tally;", true)
  | 1 => ("FlaringWords$Findings", "levels", "LFlaringWords$Levels;", true)
  | 2 => ("FlaringWords$Findings", "flares", "LFlaringWords$Flares;", true)
  | _ => ("FlaringWords$Findings", "stories", "LFlaringWords$Stories;", true)
def tyX2 : Nat → FieldType := fun k => match k with
  | 0 => .object "FlaringWords$Tally"
  | 1 => .object "FlaringWords$Levels"
  | 2 => .object "FlaringWords$Flares"
  | _ => .object "FlaringWords$Stories"
abbrev wsX20 : List Cond := u_ws RX2 TX2 4
theorem nmX2 : ∀ a, a < 4 → ∀ b, b < 4 → a ≠ b → (TX2 a).2.1 ≠ (TX2 b).2.1 := by decide +kernel
theorem tyX2_ok : ∀ k, k < 4 → parseFieldDescriptor (TX2 k).2.2.1 = some (tyX2 k) := by decide +kernel
abbrev cX2_init : ByteArray := prog_4_method_1_code
def yX2_init : MethodName := ⟨RX2, "<init>", "()V"⟩
abbrev cX2_hot : ByteArray := prog_4_method_2_code
def yX2_hot : MethodName := ⟨RX2, "hot", "(I)I"⟩
abbrev cX2_top : ByteArray := prog_4_method_3_code
def yX2_top : MethodName := ⟨RX2, "top", "(I)I"⟩
abbrev cX2_isAbove : ByteArray := prog_4_method_4_code
def yX2_isAbove : MethodName := ⟨RX2, "isAbove", "(III)Z"⟩
def RX3 : String := "FlaringWords$Flares"
def TX3 : u_T := fun k => match k with
  | 0 => ("FlaringWords$Flares", "facts", "[[I", true)
  | _ => ("FlaringWords$Flares", "number", "I", false)
def tyX3 : Nat → FieldType := fun k => match k with
  | 0 => .array (.array .int)
  | _ => .int
abbrev wsX30 : List Cond := u_ws RX3 TX3 2
theorem nmX3 : ∀ a, a < 2 → ∀ b, b < 2 → a ≠ b → (TX3 a).2.1 ≠ (TX3 b).2.1 := by decide +kernel
theorem tyX3_ok : ∀ k, k < 2 → parseFieldDescriptor (TX3 k).2.2.1 = some (tyX3 k) := by decide +kernel
abbrev cX3_init : ByteArray := prog_5_method_1_code
def yX3_init : MethodName := ⟨RX3, "<init>", "()V"⟩
abbrev cX3_number : ByteArray := prog_5_method_2_code
def yX3_number : MethodName := ⟨RX3, "number", "()I"⟩
abbrev cX3_has : ByteArray := prog_5_method_3_code
def yX3_has : MethodName := ⟨RX3, "has", "(I)Z"⟩
abbrev cX3_hasDay : ByteArray := prog_5_method_4_code
def yX3_hasDay : MethodName := ⟨RX3, "hasDay", "(II)Z"⟩
abbrev cX3_isAtOne : ByteArray := prog_5_method_5_code
def yX3_isAtOne : MethodName := ⟨RX3, "isAtOne", "(I)Z"⟩
abbrev cX3_setOf : ByteArray := prog_5_method_6_code
def yX3_setOf : MethodName := ⟨RX3, "setOf", "(I)I"⟩
abbrev cX3_isFact : ByteArray := prog_5_method_7_code
def yX3_isFact : MethodName := ⟨RX3, "isFact", "(I)Z"⟩
abbrev cX3_fact : ByteArray := prog_5_method_8_code
def yX3_fact : MethodName := ⟨RX3, "fact", "(II)I"⟩
abbrev cX3_putStory : ByteArray := prog_5_method_9_code
def yX3_putStory : MethodName := ⟨RX3, "putStory", "(II)V"⟩
abbrev cX3_findAll : ByteArray := prog_5_method_10_code
def yX3_findAll : MethodName := ⟨RX3, "findAll", "(LFlaringWords$Tally;LFlaringWords$Levels;)V"⟩
abbrev cX3_findAt : ByteArray := prog_5_method_11_code
def yX3_findAt : MethodName := ⟨RX3, "findAt", "(LFlaringWords$Levels;III)V"⟩
abbrev cX3_add : ByteArray := prog_5_method_12_code
def yX3_add : MethodName := ⟨RX3, "add", "(IIII)V"⟩
abbrev cX3_around : ByteArray := prog_5_method_13_code
def yX3_around : MethodName := ⟨RX3, "around", "(I)I"⟩
abbrev cX3_weightOf : ByteArray := prog_5_method_14_code
def yX3_weightOf : MethodName := ⟨RX3, "weightOf", "(LFlaringWords$Tally;I)I"⟩
abbrev cX3_peakOf : ByteArray := prog_5_method_15_code
def yX3_peakOf : MethodName := ⟨RX3, "peakOf", "(LFlaringWords$Tally;I)I"⟩
abbrev cX3_fadeOf : ByteArray := prog_5_method_16_code
def yX3_fadeOf : MethodName := ⟨RX3, "fadeOf", "(LFlaringWords$Tally;I)I"⟩
def RX4 : String := "FlaringWords$Image"
def TX4 : u_T := fun k => match k with
  | 0 => ("FlaringWords$Image", "kept", "LFlaringWords$News;", true)
  | 1 => ("FlaringWords$Image", "keptSeed", "I", false)
  | _ => ("FlaringWords$Image", "held", "Z", false)
def tyX4 : Nat → FieldType := fun k => match k with
  | 0 => .object "FlaringWords$News"
  | 1 => .int
  | _ => .boolean
abbrev wsX40 : List Cond := u_ws RX4 TX4 3
theorem nmX4 : ∀ a, a < 3 → ∀ b, b < 3 → a ≠ b → (TX4 a).2.1 ≠ (TX4 b).2.1 := by decide +kernel
theorem tyX4_ok : ∀ k, k < 3 → parseFieldDescriptor (TX4 k).2.2.1 = some (tyX4 k) := by decide +kernel
abbrev cX4_init : ByteArray := prog_6_method_1_code
def yX4_init : MethodName := ⟨RX4, "<init>", "()V"⟩
abbrev cX4_hold : ByteArray := prog_6_method_2_code
def yX4_hold : MethodName := ⟨RX4, "hold", "(LFlaringWords$News;I)V"⟩
abbrev cX4_isHeld : ByteArray := prog_6_method_3_code
def yX4_isHeld : MethodName := ⟨RX4, "isHeld", "()Z"⟩
abbrev cX4_heldNews : ByteArray := prog_6_method_4_code
def yX4_heldNews : MethodName := ⟨RX4, "heldNews", "()LFlaringWords$News;"⟩
abbrev cX4_heldSeed : ByteArray := prog_6_method_5_code
def yX4_heldSeed : MethodName := ⟨RX4, "heldSeed", "()I"⟩
def RX5 : String := "FlaringWords$Levels"
def TX5 : u_T := fun k => match k with
  | 0 => ("FlaringWords$Levels", "found", "[[I", true)
  | 1 => ("FlaringWords$Levels", "costs", "[I", true)
  | _ => ("FlaringWords$Levels", "rest", "[[I", true)
def tyX5 : Nat → FieldType := fun k => match k with
  | 0 => .array (.array .int)
  | 1 => .array .int
  | _ => .array (.array .int)
abbrev wsX50 : List Cond := u_ws RX5 TX5 3
theorem nmX5 : ∀ a, a < 3 → ∀ b, b < 3 → a ≠ b → (TX5 a).2.1 ≠ (TX5 b).2.1 := by decide +kernel
theorem tyX5_ok : ∀ k, k < 3 → parseFieldDescriptor (TX5 k).2.2.1 = some (tyX5 k) := by decide +kernel
abbrev cX5_init : ByteArray := prog_7_method_1_code
def yX5_init : MethodName := ⟨RX5, "<init>", "()V"⟩
abbrev cX5_findAll : ByteArray := prog_7_method_2_code
def yX5_findAll : MethodName := ⟨RX5, "findAll", "(LFlaringWords$Tally;)V"⟩
abbrev cX5_of : ByteArray := prog_7_method_3_code
def yX5_of : MethodName := ⟨RX5, "of", "(II)I"⟩
abbrev cX5_costOf : ByteArray := prog_7_method_4_code
def yX5_costOf : MethodName := ⟨RX5, "costOf", "(I)I"⟩
abbrev cX5_costRests : ByteArray := prog_7_method_5_code
def yX5_costRests : MethodName := ⟨RX5, "costRests", "(LFlaringWords$Tally;I)V"⟩
abbrev cX5_walk : ByteArray := prog_7_method_6_code
def yX5_walk : MethodName := ⟨RX5, "walk", "(LFlaringWords$Tally;I)V"⟩
abbrev cX5_leastFrom : ByteArray := prog_7_method_7_code
def yX5_leastFrom : MethodName := ⟨RX5, "leastFrom", "(LFlaringWords$Tally;II)I"⟩
abbrev cX5_costFrom : ByteArray := prog_7_method_8_code
def yX5_costFrom : MethodName := ⟨RX5, "costFrom", "(LFlaringWords$Tally;III)I"⟩
def RX6 : String := "FlaringWords$News"
def TX6 : u_T := fun k => match k with
  | 0 => ("FlaringWords$News", "terms", "[I", true)
  | 1 => ("FlaringWords$News", "dayOfPiece", "[I", true)
  | 2 => ("FlaringWords$News", "setOfPiece", "[I", true)
  | 3 => ("FlaringWords$News", "dayCount", "I", false)
  | _ => ("FlaringWords$News", "count", "I", false)
def tyX6 : Nat → FieldType := fun k => match k with
  | 0 => .array .int
  | 1 => .array .int
  | 2 => .array .int
  | 3 => .int
  | _ => .int
abbrev wsX60 : List Cond := u_ws RX6 TX6 5
theorem nmX6 : ∀ a, a < 5 → ∀ b, b < 5 → a ≠ b → (TX6 a).2.1 ≠ (TX6 b).2.1 := by decide +kernel
theorem tyX6_ok : ∀ k, k < 5 → parseFieldDescriptor (TX6 k).2.2.1 = some (tyX6 k) := by decide +kernel
abbrev cX6_init : ByteArray := prog_8_method_1_code
def yX6_init : MethodName := ⟨RX6, "<init>", "()V"⟩
abbrev cX6_isTerm : ByteArray := prog_8_method_2_code
def yX6_isTerm : MethodName := ⟨RX6, "isTerm", "(I)Z"⟩
abbrev cX6_isInBounds : ByteArray := prog_8_method_3_code
def yX6_isInBounds : MethodName := ⟨RX6, "isInBounds", "(II)Z"⟩
abbrev cX6_termOf : ByteArray := prog_8_method_4_code
def yX6_termOf : MethodName := ⟨RX6, "termOf", "(I)I"⟩
abbrev cX6_setTerm : ByteArray := prog_8_method_5_code
def yX6_setTerm : MethodName := ⟨RX6, "setTerm", "(II)V"⟩
abbrev cX6_levels : ByteArray := prog_8_method_6_code
def yX6_levels : MethodName := ⟨RX6, "levels", "()I"⟩
abbrev cX6_base : ByteArray := prog_8_method_7_code
def yX6_base : MethodName := ⟨RX6, "base", "()I"⟩
abbrev cX6_step : ByteArray := prog_8_method_8_code
def yX6_step : MethodName := ⟨RX6, "step", "()I"⟩
abbrev cX6_rise : ByteArray := prog_8_method_9_code
def yX6_rise : MethodName := ⟨RX6, "rise", "()I"⟩
abbrev cX6_hasLevel : ByteArray := prog_8_method_10_code
def yX6_hasLevel : MethodName := ⟨RX6, "hasLevel", "(I)Z"⟩
abbrev cX6_dayCount : ByteArray := prog_8_method_11_code
def yX6_dayCount : MethodName := ⟨RX6, "dayCount", "()I"⟩
abbrev cX6_hasDay : ByteArray := prog_8_method_12_code
def yX6_hasDay : MethodName := ⟨RX6, "hasDay", "(I)Z"⟩
abbrev cX6_setDayCount : ByteArray := prog_8_method_13_code
def yX6_setDayCount : MethodName := ⟨RX6, "setDayCount", "(I)V"⟩
abbrev cX6_count : ByteArray := prog_8_method_14_code
def yX6_count : MethodName := ⟨RX6, "count", "()I"⟩
abbrev cX6_hasPiece : ByteArray := prog_8_method_15_code
def yX6_hasPiece : MethodName := ⟨RX6, "hasPiece", "(I)Z"⟩
abbrev cX6_hasRoom : ByteArray := prog_8_method_16_code
def yX6_hasRoom : MethodName := ⟨RX6, "hasRoom", "()Z"⟩
abbrev cX6_dayOf : ByteArray := prog_8_method_17_code
def yX6_dayOf : MethodName := ⟨RX6, "dayOf", "(I)I"⟩
abbrev cX6_setOf : ByteArray := prog_8_method_18_code
def yX6_setOf : MethodName := ⟨RX6, "setOf", "(I)I"⟩
abbrev cX6_add : ByteArray := prog_8_method_19_code
def yX6_add : MethodName := ⟨RX6, "add", "(II)V"⟩
abbrev cX6_remove : ByteArray := prog_8_method_20_code
def yX6_remove : MethodName := ⟨RX6, "remove", "(I)V"⟩
abbrev cX6_putOn : ByteArray := prog_8_method_21_code
def yX6_putOn : MethodName := ⟨RX6, "putOn", "(II)V"⟩
abbrev cX6_hasPieceFrom : ByteArray := prog_8_method_22_code
def yX6_hasPieceFrom : MethodName := ⟨RX6, "hasPieceFrom", "(I)Z"⟩
abbrev cX6_countWith : ByteArray := prog_8_method_23_code
def yX6_countWith : MethodName := ⟨RX6, "countWith", "(I)I"⟩
abbrev cX6_countWithOn : ByteArray := prog_8_method_24_code
def yX6_countWithOn : MethodName := ⟨RX6, "countWithOn", "(II)I"⟩
abbrev cX6_become : ByteArray := prog_8_method_25_code
def yX6_become : MethodName := ⟨RX6, "become", "(LFlaringWords$News;)V"⟩
def RX7 : String := "FlaringWords$Stories"
def TX7 : u_T := fun k => match k with
  | 0 => ("FlaringWords$Stories", "heaps", "[I", true)
  | 1 => ("FlaringWords$Stories", "facts", "[[I", true)
  | _ => ("FlaringWords$Stories", "number", "I", false)
def tyX7 : Nat → FieldType := fun k => match k with
  | 0 => .array .int
  | 1 => .array (.array .int)
  | _ => .int
abbrev wsX70 : List Cond := u_ws RX7 TX7 3
theorem nmX7 : ∀ a, a < 3 → ∀ b, b < 3 → a ≠ b → (TX7 a).2.1 ≠ (TX7 b).2.1 := by decide +kernel
theorem tyX7_ok : ∀ k, k < 3 → parseFieldDescriptor (TX7 k).2.2.1 = some (tyX7 k) := by decide +kernel
abbrev cX7_init : ByteArray := prog_9_method_1_code
def yX7_init : MethodName := ⟨RX7, "<init>", "()V"⟩
abbrev cX7_number : ByteArray := prog_9_method_2_code
def yX7_number : MethodName := ⟨RX7, "number", "()I"⟩
abbrev cX7_has : ByteArray := prog_9_method_3_code
def yX7_has : MethodName := ⟨RX7, "has", "(I)Z"⟩
abbrev cX7_isFact : ByteArray := prog_9_method_4_code
def yX7_isFact : MethodName := ⟨RX7, "isFact", "(I)Z"⟩
abbrev cX7_fact : ByteArray := prog_9_method_5_code
def yX7_fact : MethodName := ⟨RX7, "fact", "(II)I"⟩
abbrev cX7_findAll : ByteArray := prog_9_method_6_code
def yX7_findAll : MethodName := ⟨RX7, "findAll", "(LFlaringWords$News;LFlaringWords$Flares;)V"⟩
abbrev cX7_tieBy : ByteArray := prog_9_method_7_code
def yX7_tieBy : MethodName := ⟨RX7, "tieBy", "(LFlaringWords$Flares;II)V"⟩
abbrev cX7_joined : ByteArray := prog_9_method_8_code
def yX7_joined : MethodName := ⟨RX7, "joined", "(III)I"⟩
abbrev cX7_numberHeaps : ByteArray := prog_9_method_9_code
def yX7_numberHeaps : MethodName := ⟨RX7, "numberHeaps", "(LFlaringWords$Flares;)V"⟩
abbrev cX7_begun : ByteArray := prog_9_method_10_code
def yX7_begun : MethodName := ⟨RX7, "begun", "(LFlaringWords$Flares;I)I"⟩
abbrev cX7_grow : ByteArray := prog_9_method_11_code
def yX7_grow : MethodName := ⟨RX7, "grow", "(ILFlaringWords$Flares;I)V"⟩
def RX8 : String := "FlaringWords$Tally"
def TX8 : u_T := fun k => match k with
  | 0 => ("FlaringWords$Tally", "allOnDay", "[I", true)
  | 1 => ("FlaringWords$Tally", "counts", "[[I", true)
  | 2 => ("FlaringWords$Tally", "usual", "[[I", true)
  | 3 => ("FlaringWords$Tally", "dayCount", "I", false)
  | 4 => ("FlaringWords$Tally", "highest", "I", false)
  | 5 => ("FlaringWords$Tally", "base", "I", false)
  | 6 => ("FlaringWords$Tally", "step", "I", false)
  | _ => ("FlaringWords$Tally", "rise", "I", false)
def tyX8 : Nat → FieldType := fun k => match k with
  | 0 => .array .int
  | 1 => .array (.array .int)
  | 2 => .array (.array .int)
  | 3 => .int
  | 4 => .int
  | 5 => .int
  | 6 => .int
  | _ => .int
abbrev wsX80 : List Cond := u_ws RX8 TX8 8
theorem nmX8 : ∀ a, a < 8 → ∀ b, b < 8 → a ≠ b → (TX8 a).2.1 ≠ (TX8 b).2.1 := by decide +kernel
theorem tyX8_ok : ∀ k, k < 8 → parseFieldDescriptor (TX8 k).2.2.1 = some (tyX8 k) := by decide +kernel
abbrev cX8_init : ByteArray := prog_10_method_1_code
def yX8_init : MethodName := ⟨RX8, "<init>", "()V"⟩
abbrev cX8_countAll : ByteArray := prog_10_method_2_code
def yX8_countAll : MethodName := ⟨RX8, "countAll", "(LFlaringWords$News;)V"⟩
abbrev cX8_countWord : ByteArray := prog_10_method_3_code
def yX8_countWord : MethodName := ⟨RX8, "countWord", "(LFlaringWords$News;I)V"⟩
abbrev cX8_isDay : ByteArray := prog_10_method_4_code
def yX8_isDay : MethodName := ⟨RX8, "isDay", "(I)Z"⟩
abbrev cX8_dayCount : ByteArray := prog_10_method_5_code
def yX8_dayCount : MethodName := ⟨RX8, "dayCount", "()I"⟩
abbrev cX8_highest : ByteArray := prog_10_method_6_code
def yX8_highest : MethodName := ⟨RX8, "highest", "()I"⟩
abbrev cX8_all : ByteArray := prog_10_method_7_code
def yX8_all : MethodName := ⟨RX8, "all", "(I)I"⟩
abbrev cX8_count : ByteArray := prog_10_method_8_code
def yX8_count : MethodName := ⟨RX8, "count", "(II)I"⟩
abbrev cX8_wanted : ByteArray := prog_10_method_9_code
def yX8_wanted : MethodName := ⟨RX8, "wanted", "(III)I"⟩
abbrev cX8_unlikely : ByteArray := prog_10_method_10_code
def yX8_unlikely : MethodName := ⟨RX8, "unlikely", "(III)I"⟩
abbrev cX8_costOfRise : ByteArray := prog_10_method_11_code
def yX8_costOfRise : MethodName := ⟨RX8, "costOfRise", "(II)I"⟩
abbrev cX8_costOfSteady : ByteArray := prog_10_method_12_code
def yX8_costOfSteady : MethodName := ⟨RX8, "costOfSteady", "(II)I"⟩
def RX9 : String := "FlaringWords$Text"
def TX9 : u_T := fun k => match k with
  | 0 => ("FlaringWords$Text", "letters", "[I", true)
  | 1 => ("FlaringWords$Text", "daysRead", "[I", true)
  | 2 => ("FlaringWords$Text", "setsRead", "[I", true)
  | 3 => ("FlaringWords$Text", "length", "I", false)
  | 4 => ("FlaringWords$Text", "readCount", "I", false)
  | _ => ("FlaringWords$Text", "place", "I", false)
def tyX9 : Nat → FieldType := fun k => match k with
  | 0 => .array .int
  | 1 => .array .int
  | 2 => .array .int
  | 3 => .int
  | 4 => .int
  | _ => .int
abbrev wsX90 : List Cond := u_ws RX9 TX9 6
theorem nmX9 : ∀ a, a < 6 → ∀ b, b < 6 → a ≠ b → (TX9 a).2.1 ≠ (TX9 b).2.1 := by decide +kernel
theorem tyX9_ok : ∀ k, k < 6 → parseFieldDescriptor (TX9 k).2.2.1 = some (tyX9 k) := by decide +kernel
abbrev cX9_init : ByteArray := prog_11_method_1_code
def yX9_init : MethodName := ⟨RX9, "<init>", "()V"⟩
abbrev cX9_hasRoom : ByteArray := prog_11_method_2_code
def yX9_hasRoom : MethodName := ⟨RX9, "hasRoom", "()Z"⟩
abbrev cX9_length : ByteArray := prog_11_method_3_code
def yX9_length : MethodName := ⟨RX9, "length", "()I"⟩
abbrev cX9_add : ByteArray := prog_11_method_4_code
def yX9_add : MethodName := ⟨RX9, "add", "(I)V"⟩
abbrev cX9_clear : ByteArray := prog_11_method_5_code
def yX9_clear : MethodName := ⟨RX9, "clear", "()V"⟩
abbrev cX9_place : ByteArray := prog_11_method_6_code
def yX9_place : MethodName := ⟨RX9, "place", "()I"⟩
abbrev cX9_readCount : ByteArray := prog_11_method_7_code
def yX9_readCount : MethodName := ⟨RX9, "readCount", "()I"⟩
abbrev cX9_dayRead : ByteArray := prog_11_method_8_code
def yX9_dayRead : MethodName := ⟨RX9, "dayRead", "(I)I"⟩
abbrev cX9_setRead : ByteArray := prog_11_method_9_code
def yX9_setRead : MethodName := ⟨RX9, "setRead", "(I)I"⟩
abbrev cX9_read : ByteArray := prog_11_method_10_code
def yX9_read : MethodName := ⟨RX9, "read", "(II)I"⟩
abbrev cX9_readPiece : ByteArray := prog_11_method_11_code
def yX9_readPiece : MethodName := ⟨RX9, "readPiece", "(II)I"⟩
abbrev cX9_hasTwoFigures : ByteArray := prog_11_method_12_code
def yX9_hasTwoFigures : MethodName := ⟨RX9, "hasTwoFigures", "()Z"⟩
abbrev cX9_readWords : ByteArray := prog_11_method_13_code
def yX9_readWords : MethodName := ⟨RX9, "readWords", "()I"⟩
abbrev cX9_passes : ByteArray := prog_11_method_14_code
def yX9_passes : MethodName := ⟨RX9, "passes", "(C)Z"⟩
abbrev cX9_letterAt : ByteArray := prog_11_method_15_code
def yX9_letterAt : MethodName := ⟨RX9, "letterAt", "(I)I"⟩
abbrev cX9_isFigure : ByteArray := prog_11_method_16_code
def yX9_isFigure : MethodName := ⟨RX9, "isFigure", "(I)Z"⟩
def RX10 : String := "FlaringWords"
def TX10 : u_T := fun k => match k with
  | 0 => ("FlaringWords", "news", "LFlaringWords$News;", true)
  | 1 => ("FlaringWords", "findings", "LFlaringWords$Findings;", true)
  | 2 => ("FlaringWords", "text", "LFlaringWords$Text;", true)
  | 3 => ("FlaringWords", "deeds", "LFlaringWords$Deeds;", true)
  | 4 => ("FlaringWords", "book", "LFlaringWords$Book;", true)
  | 5 => ("FlaringWords", "images", "[LFlaringWords$Image;", true)
  | 6 => ("FlaringWords", "theSeed", "I", false)
  | 7 => ("FlaringWords", "faultPlace", "I", false)
  | _ => ("FlaringWords", "stale", "Z", false)
def tyX10 : Nat → FieldType := fun k => match k with
  | 0 => .object "FlaringWords$News"
  | 1 => .object "FlaringWords$Findings"
  | 2 => .object "FlaringWords$Text"
  | 3 => .object "FlaringWords$Deeds"
  | 4 => .object "FlaringWords$Book"
  | 5 => .array (.object "FlaringWords$Image")
  | 6 => .int
  | 7 => .int
  | _ => .boolean
abbrev wsX100 : List Cond := u_ws RX10 TX10 9
theorem nmX10 : ∀ a, a < 9 → ∀ b, b < 9 → a ≠ b → (TX10 a).2.1 ≠ (TX10 b).2.1 := by decide +kernel
theorem tyX10_ok : ∀ k, k < 9 → parseFieldDescriptor (TX10 k).2.2.1 = some (tyX10 k) := by decide +kernel
abbrev cX10_init : ByteArray := prog_1_method_1_code
def yX10_init : MethodName := ⟨RX10, "<init>", "()V"⟩
abbrev cX10_feed : ByteArray := prog_1_method_2_code
def yX10_feed : MethodName := ⟨RX10, "feed", "(I)I"⟩
abbrev cX10_pieces : ByteArray := prog_1_method_3_code
def yX10_pieces : MethodName := ⟨RX10, "pieces", "()I"⟩
abbrev cX10_fault : ByteArray := prog_1_method_4_code
def yX10_fault : MethodName := ⟨RX10, "fault", "()I"⟩
abbrev cX10_told : ByteArray := prog_1_method_5_code
def yX10_told : MethodName := ⟨RX10, "told", "(I)I"⟩
abbrev cX10_at : ByteArray := prog_1_method_6_code
def yX10_at : MethodName := ⟨RX10, "at", "(II)I"⟩
abbrev cX10_day : ByteArray := prog_1_method_7_code
def yX10_day : MethodName := ⟨RX10, "day", "(II)I"⟩
abbrev cX10_word : ByteArray := prog_1_method_8_code
def yX10_word : MethodName := ⟨RX10, "word", "(III)I"⟩
abbrev cX10_cost : ByteArray := prog_1_method_9_code
def yX10_cost : MethodName := ⟨RX10, "cost", "(I)I"⟩
abbrev cX10_steady : ByteArray := prog_1_method_10_code
def yX10_steady : MethodName := ⟨RX10, "steady", "(II)I"⟩
abbrev cX10_flare : ByteArray := prog_1_method_11_code
def yX10_flare : MethodName := ⟨RX10, "flare", "(II)I"⟩
abbrev cX10_story : ByteArray := prog_1_method_12_code
def yX10_story : MethodName := ⟨RX10, "story", "(II)I"⟩
abbrev cX10_together : ByteArray := prog_1_method_13_code
def yX10_together : MethodName := ⟨RX10, "together", "(II)I"⟩
abbrev cX10_piece : ByteArray := prog_1_method_14_code
def yX10_piece : MethodName := ⟨RX10, "piece", "(II)I"⟩
abbrev cX10_take : ByteArray := prog_1_method_15_code
def yX10_take : MethodName := ⟨RX10, "take", "(I)I"⟩
abbrev cX10_move : ByteArray := prog_1_method_16_code
def yX10_move : MethodName := ⟨RX10, "move", "(II)I"⟩
abbrev cX10_days : ByteArray := prog_1_method_17_code
def yX10_days : MethodName := ⟨RX10, "days", "(I)I"⟩
abbrev cX10_term : ByteArray := prog_1_method_18_code
def yX10_term : MethodName := ⟨RX10, "term", "(II)I"⟩
abbrev cX10_drift : ByteArray := prog_1_method_19_code
def yX10_drift : MethodName := ⟨RX10, "drift", "(I)I"⟩
abbrev cX10_undo : ByteArray := prog_1_method_20_code
def yX10_undo : MethodName := ⟨RX10, "undo", "(I)I"⟩
abbrev cX10_write : ByteArray := prog_1_method_21_code
def yX10_write : MethodName := ⟨RX10, "write", "(III)I"⟩
abbrev cX10_tear : ByteArray := prog_1_method_22_code
def yX10_tear : MethodName := ⟨RX10, "tear", "()I"⟩
abbrev cX10_seed : ByteArray := prog_1_method_23_code
def yX10_seed : MethodName := ⟨RX10, "seed", "(I)I"⟩
abbrev cX10_keep : ByteArray := prog_1_method_24_code
def yX10_keep : MethodName := ⟨RX10, "keep", "(I)I"⟩
abbrev cX10_goBack : ByteArray := prog_1_method_25_code
def yX10_goBack : MethodName := ⟨RX10, "goBack", "(I)I"⟩
abbrev cX10_isWord : ByteArray := prog_1_method_26_code
def yX10_isWord : MethodName := ⟨RX10, "isWord", "(I)Z"⟩
abbrev cX10_setOfWord : ByteArray := prog_1_method_27_code
def yX10_setOfWord : MethodName := ⟨RX10, "setOfWord", "(I)I"⟩
abbrev cX10_aheadOfDeed : ByteArray := prog_1_method_28_code
def yX10_aheadOfDeed : MethodName := ⟨RX10, "aheadOfDeed", "()V"⟩
abbrev cX10_comes : ByteArray := prog_1_method_29_code
def yX10_comes : MethodName := ⟨RX10, "comes", "(II)V"⟩
abbrev cX10_draw : ByteArray := prog_1_method_30_code
def yX10_draw : MethodName := ⟨RX10, "draw", "(I)I"⟩
abbrev cX10_imageOf : ByteArray := prog_1_method_31_code
def yX10_imageOf : MethodName := ⟨RX10, "imageOf", "(I)LFlaringWords$Image;"⟩
abbrev cX10_found : ByteArray := prog_1_method_32_code
def yX10_found : MethodName := ⟨RX10, "found", "()LFlaringWords$Findings;"⟩
def RX11 : String := "FlaringWordsModel"
def TX11 : u_T := fun k => match k with
  | 0 => ("FlaringWordsModel", "w", "[I", true)
  | 1 => ("FlaringWordsModel", "known", "I", false)
  | 2 => ("FlaringWordsModel", "kept", "I", false)
  | 3 => ("FlaringWordsModel", "seed", "I", false)
  | 4 => ("FlaringWordsModel", "imageSeed", "[I", true)
  | 5 => ("FlaringWordsModel", "text", "[I", true)
  | 6 => ("FlaringWordsModel", "size", "I", false)
  | 7 => ("FlaringWordsModel", "faultAt", "I", false)
  | 8 => ("FlaringWordsModel", "bookOf", "[I", true)
  | 9 => ("FlaringWordsModel", "bookAt", "[I", true)
  | 10 => ("FlaringWordsModel", "bookIs", "[I", true)
  | 11 => ("FlaringWordsModel", "written", "I", false)
  | 12 => ("FlaringWordsModel", "left", "[I", true)
  | 13 => ("FlaringWordsModel", "levels", "[I", true)
  | 14 => ("FlaringWordsModel", "flareWord", "[I", true)
  | 15 => ("FlaringWordsModel", "flareLevel", "[I", true)
  | 16 => ("FlaringWordsModel", "flareFirst", "[I", true)
  | 17 => ("FlaringWordsModel", "flareLast", "[I", true)
  | 18 => ("FlaringWordsModel", "heap", "[I", true)
  | 19 => ("FlaringWordsModel", "flares", "I", false)
  | 20 => ("FlaringWordsModel", "state", "I", false)
  | 21 => ("FlaringWordsModel", "readDay", "[I", true)
  | 22 => ("FlaringWordsModel", "readSet", "[I", true)
  | _ => ("FlaringWordsModel", "read", "I", false)
def tyX11 : Nat → FieldType := fun k => match k with
  | 0 => .array .int
  | 1 => .int
  | 2 => .int
  | 3 => .int
  | 4 => .array .int
  | 5 => .array .int
  | 6 => .int
  | 7 => .int
  | 8 => .array .int
  | 9 => .array .int
  | 10 => .array .int
  | 11 => .int
  | 12 => .array .int
  | 13 => .array .int
  | 14 => .array .int
  | 15 => .array .int
  | 16 => .array .int
  | 17 => .array .int
  | 18 => .array .int
  | 19 => .int
  | 20 => .int
  | 21 => .array .int
  | 22 => .array .int
  | _ => .int
abbrev wsX110 : List Cond := u_ws RX11 TX11 24
theorem nmX11 : ∀ a, a < 24 → ∀ b, b < 24 → a ≠ b → (TX11 a).2.1 ≠ (TX11 b).2.1 := by decide +kernel
theorem tyX11_ok : ∀ k, k < 24 → parseFieldDescriptor (TX11 k).2.2.1 = some (tyX11 k) := by decide +kernel
abbrev cX11_init : ByteArray := prog_13_method_1_code
def yX11_init : MethodName := ⟨RX11, "<init>", "()V"⟩
abbrev cX11_in : ByteArray := prog_13_method_2_code
def yX11_in : MethodName := ⟨RX11, "in", "(JJJ)Z"⟩
abbrev cX11_has : ByteArray := prog_13_method_3_code
def yX11_has : MethodName := ⟨RX11, "has", "(II)Z"⟩
abbrev cX11_copyRow : ByteArray := prog_13_method_4_code
def yX11_copyRow : MethodName := ⟨RX11, "copyRow", "(II)V"⟩
abbrev cX11_remember : ByteArray := prog_13_method_5_code
def yX11_remember : MethodName := ⟨RX11, "remember", "()V"⟩
abbrev cX11_count : ByteArray := prog_13_method_6_code
def yX11_count : MethodName := ⟨RX11, "count", "(II)I"⟩
abbrev cX11_wanted : ByteArray := prog_13_method_7_code
def yX11_wanted : MethodName := ⟨RX11, "wanted", "(III)I"⟩
abbrev cX11_unlikely : ByteArray := prog_13_method_8_code
def yX11_unlikely : MethodName := ⟨RX11, "unlikely", "(III)I"⟩
abbrev cX11_through : ByteArray := prog_13_method_9_code
def yX11_through : MethodName := ⟨RX11, "through", "(IIII)I"⟩
abbrev cX11_bestLevel : ByteArray := prog_13_method_10_code
def yX11_bestLevel : MethodName := ⟨RX11, "bestLevel", "(III)I"⟩
abbrev cX11_layLevels : ByteArray := prog_13_method_11_code
def yX11_layLevels : MethodName := ⟨RX11, "layLevels", "(I)V"⟩
abbrev cX11_levelOf : ByteArray := prog_13_method_12_code
def yX11_levelOf : MethodName := ⟨RX11, "levelOf", "(II)I"⟩
abbrev cX11_addFlares : ByteArray := prog_13_method_13_code
def yX11_addFlares : MethodName := ⟨RX11, "addFlares", "(II)V"⟩
abbrev cX11_layFlares : ByteArray := prog_13_method_14_code
def yX11_layFlares : MethodName := ⟨RX11, "layFlares", "()V"⟩
abbrev cX11_isIn : ByteArray := prog_13_method_15_code
def yX11_isIn : MethodName := ⟨RX11, "isIn", "(II)Z"⟩
abbrev cX11_areTied : ByteArray := prog_13_method_16_code
def yX11_areTied : MethodName := ⟨RX11, "areTied", "(II)Z"⟩
abbrev cX11_layHeaps : ByteArray := prog_13_method_17_code
def yX11_layHeaps : MethodName := ⟨RX11, "layHeaps", "()V"⟩
abbrev cX11_begins : ByteArray := prog_13_method_18_code
def yX11_begins : MethodName := ⟨RX11, "begins", "(I)Z"⟩
abbrev cX11_stories : ByteArray := prog_13_method_19_code
def yX11_stories : MethodName := ⟨RX11, "stories", "()I"⟩
abbrev cX11_storyOf : ByteArray := prog_13_method_20_code
def yX11_storyOf : MethodName := ⟨RX11, "storyOf", "(I)I"⟩
abbrev cX11_isFigure : ByteArray := prog_13_method_21_code
def yX11_isFigure : MethodName := ⟨RX11, "isFigure", "(I)Z"⟩
abbrev cX11_dayAt : ByteArray := prog_13_method_22_code
def yX11_dayAt : MethodName := ⟨RX11, "dayAt", "(I)I"⟩
abbrev cX11_faultOf : ByteArray := prog_13_method_23_code
def yX11_faultOf : MethodName := ⟨RX11, "faultOf", "(I)I"⟩
abbrev cX11_goOn : ByteArray := prog_13_method_24_code
def yX11_goOn : MethodName := ⟨RX11, "goOn", "(I)V"⟩
abbrev cX11_readText : ByteArray := prog_13_method_25_code
def yX11_readText : MethodName := ⟨RX11, "readText", "()I"⟩
abbrev cX11_feed : ByteArray := prog_13_method_26_code
def yX11_feed : MethodName := ⟨RX11, "feed", "(I)I"⟩
abbrev cX11_add : ByteArray := prog_13_method_27_code
def yX11_add : MethodName := ⟨RX11, "add", "(II)V"⟩
abbrev cX11_pieces : ByteArray := prog_13_method_28_code
def yX11_pieces : MethodName := ⟨RX11, "pieces", "()I"⟩
abbrev cX11_fault : ByteArray := prog_13_method_29_code
def yX11_fault : MethodName := ⟨RX11, "fault", "()I"⟩
abbrev cX11_isDay : ByteArray := prog_13_method_30_code
def yX11_isDay : MethodName := ⟨RX11, "isDay", "(I)Z"⟩
abbrev cX11_isWord : ByteArray := prog_13_method_31_code
def yX11_isWord : MethodName := ⟨RX11, "isWord", "(I)Z"⟩
abbrev cX11_wrong : ByteArray := prog_13_method_32_code
def yX11_wrong : MethodName := ⟨RX11, "wrong", "()I"⟩
abbrev cX11_flaresNow : ByteArray := prog_13_method_33_code
def yX11_flaresNow : MethodName := ⟨RX11, "flaresNow", "()I"⟩
abbrev cX11_toldMore : ByteArray := prog_13_method_34_code
def yX11_toldMore : MethodName := ⟨RX11, "toldMore", "(I)I"⟩
abbrev cX11_told : ByteArray := prog_13_method_35_code
def yX11_told : MethodName := ⟨RX11, "told", "(I)I"⟩
abbrev cX11_isPiece : ByteArray := prog_13_method_36_code
def yX11_isPiece : MethodName := ⟨RX11, "isPiece", "(I)Z"⟩
abbrev cX11_at : ByteArray := prog_13_method_37_code
def yX11_at : MethodName := ⟨RX11, "at", "(II)I"⟩
abbrev cX11_hot : ByteArray := prog_13_method_38_code
def yX11_hot : MethodName := ⟨RX11, "hot", "(I)I"⟩
abbrev cX11_topOf : ByteArray := prog_13_method_39_code
def yX11_topOf : MethodName := ⟨RX11, "topOf", "(I)I"⟩
abbrev cX11_day : ByteArray := prog_13_method_40_code
def yX11_day : MethodName := ⟨RX11, "day", "(II)I"⟩
abbrev cX11_word : ByteArray := prog_13_method_41_code
def yX11_word : MethodName := ⟨RX11, "word", "(III)I"⟩
abbrev cX11_cost : ByteArray := prog_13_method_42_code
def yX11_cost : MethodName := ⟨RX11, "cost", "(I)I"⟩
abbrev cX11_steady : ByteArray := prog_13_method_43_code
def yX11_steady : MethodName := ⟨RX11, "steady", "(II)I"⟩
abbrev cX11_within : ByteArray := prog_13_method_44_code
def yX11_within : MethodName := ⟨RX11, "within", "(I)I"⟩
abbrev cX11_weight : ByteArray := prog_13_method_45_code
def yX11_weight : MethodName := ⟨RX11, "weight", "(I)I"⟩
abbrev cX11_peak : ByteArray := prog_13_method_46_code
def yX11_peak : MethodName := ⟨RX11, "peak", "(I)I"⟩
abbrev cX11_flare : ByteArray := prog_13_method_47_code
def yX11_flare : MethodName := ⟨RX11, "flare", "(II)I"⟩
abbrev cX11_story : ByteArray := prog_13_method_48_code
def yX11_story : MethodName := ⟨RX11, "story", "(II)I"⟩
abbrev cX11_together : ByteArray := prog_13_method_49_code
def yX11_together : MethodName := ⟨RX11, "together", "(II)I"⟩
abbrev cX11_piece : ByteArray := prog_13_method_50_code
def yX11_piece : MethodName := ⟨RX11, "piece", "(II)I"⟩
abbrev cX11_take : ByteArray := prog_13_method_51_code
def yX11_take : MethodName := ⟨RX11, "take", "(I)I"⟩
abbrev cX11_move : ByteArray := prog_13_method_52_code
def yX11_move : MethodName := ⟨RX11, "move", "(II)I"⟩
abbrev cX11_days : ByteArray := prog_13_method_53_code
def yX11_days : MethodName := ⟨RX11, "days", "(I)I"⟩
abbrev cX11_term : ByteArray := prog_13_method_54_code
def yX11_term : MethodName := ⟨RX11, "term", "(II)I"⟩
abbrev cX11_draw : ByteArray := prog_13_method_55_code
def yX11_draw : MethodName := ⟨RX11, "draw", "(I)I"⟩
abbrev cX11_drift : ByteArray := prog_13_method_56_code
def yX11_drift : MethodName := ⟨RX11, "drift", "(I)I"⟩
abbrev cX11_undo : ByteArray := prog_13_method_57_code
def yX11_undo : MethodName := ⟨RX11, "undo", "(I)I"⟩
abbrev cX11_write : ByteArray := prog_13_method_58_code
def yX11_write : MethodName := ⟨RX11, "write", "(III)I"⟩
abbrev cX11_tear : ByteArray := prog_13_method_59_code
def yX11_tear : MethodName := ⟨RX11, "tear", "()I"⟩
abbrev cX11_seed : ByteArray := prog_13_method_60_code
def yX11_seed : MethodName := ⟨RX11, "seed", "(I)I"⟩
abbrev cX11_keep : ByteArray := prog_13_method_61_code
def yX11_keep : MethodName := ⟨RX11, "keep", "(I)I"⟩
abbrev cX11_goBack : ByteArray := prog_13_method_62_code
def yX11_goBack : MethodName := ⟨RX11, "goBack", "(I)I"⟩
def RJ9 : String := "java/lang/Math"
abbrev cJ9_abs_0f7a4 : ByteArray := prog_15_method_59_code
def yJ9_abs_0f7a4 : MethodName := ⟨RJ9, "abs", "(I)I"⟩
abbrev cJ9_max_7cf53 : ByteArray := prog_15_method_65_code
def yJ9_max_7cf53 : MethodName := ⟨RJ9, "max", "(II)I"⟩
abbrev cJ9_min_7cf53 : ByteArray := prog_15_method_69_code
def yJ9_min_7cf53 : MethodName := ⟨RJ9, "min", "(II)I"⟩
def RJ10 : String := "java/lang/System"
def RL : String := "FlaringWordsLaw"
abbrev cL_law : ByteArray := code
def yL_law : MethodName := ⟨RL, "law", "([I)Z"⟩
end
section
theorem dX0_init_0 : decode cX0_init 0 = .ok (.aload_n 0, 1) := by decide +kernel
theorem dX0_init_1 : decode cX0_init 1 = .ok (.invokespecial 3, 3) := by decide +kernel
theorem dX0_init_4 : decode cX0_init 4 = .ok (.aload_n 0, 1) := by decide +kernel
theorem dX0_init_5 : decode cX0_init 5 = .ok (.bipush 20, 2) := by decide +kernel
theorem dX0_init_7 : decode cX0_init 7 = .ok (.newarray .int, 2) := by decide +kernel
theorem dX0_init_9 : decode cX0_init 9 = .ok (.putfield 11, 3) := by decide +kernel
theorem dX0_init_12 : decode cX0_init 12 = .ok (.aload_n 0, 1) := by decide +kernel
theorem dX0_init_13 : decode cX0_init 13 = .ok (.bipush 20, 2) := by decide +kernel
theorem dX0_init_15 : decode cX0_init 15 = .ok (.newarray .int, 2) := by decide +kernel
theorem dX0_init_17 : decode cX0_init 17 = .ok (.putfield 15, 3) := by decide +kernel
theorem dX0_init_20 : decode cX0_init 20 = .ok (.aload_n 0, 1) := by decide +kernel
theorem dX0_init_21 : decode cX0_init 21 = .ok (.bipush 20, 2) := by decide +kernel
theorem dX0_init_23 : decode cX0_init 23 = .ok (.newarray .int, 2) := by decide +kernel
theorem dX0_init_25 : decode cX0_init 25 = .ok (.putfield 18, 3) := by decide +kernel
theorem dX0_init_28 : decode cX0_init 28 = .ok (.aload_n 0, 1) := by decide +kernel
theorem dX0_init_29 : decode cX0_init 29 = .ok (.iconst 0, 1) := by decide +kernel
theorem dX0_init_30 : decode cX0_init 30 = .ok (.putfield 21, 3) := by decide +kernel
theorem dX0_init_33 : decode cX0_init 33 = .ok (.return_, 1) := by decide +kernel
theorem dX0_hasRoom_0 : decode cX0_hasRoom 0 = .ok (.aload_n 0, 1) := by decide +kernel
theorem dX0_hasRoom_1 : decode cX0_hasRoom 1 = .ok (.getfield 21, 3) := by decide +kernel
theorem dX0_hasRoom_4 : decode cX0_hasRoom 4 = .ok (.bipush 20, 2) := by decide +kernel
theorem dX0_hasRoom_6 : decode cX0_hasRoom 6 = .ok (.if_icmp .ge 7, 3) := by decide +kernel
theorem dX0_hasRoom_9 : decode cX0_hasRoom 9 = .ok (.iconst 1, 1) := by decide +kernel
theorem dX0_hasRoom_10 : decode cX0_hasRoom 10 = .ok (.goto 4, 3) := by decide +kernel
theorem dX0_hasRoom_13 : decode cX0_hasRoom 13 = .ok (.iconst 0, 1) := by decide +kernel
theorem dX0_hasRoom_14 : decode cX0_hasRoom 14 = .ok (.ireturn, 1) := by decide +kernel
theorem dX0_entries_0 : decode cX0_entries 0 = .ok (.aload_n 0, 1) := by decide +kernel
theorem dX0_entries_1 : decode cX0_entries 1 = .ok (.getfield 21, 3) := by decide +kernel
theorem dX0_entries_4 : decode cX0_entries 4 = .ok (.ireturn, 1) := by decide +kernel
theorem dX0_add_0 : decode cX0_add 0 = .ok (.aload_n 0, 1) := by decide +kernel
theorem dX0_add_1 : decode cX0_add 1 = .ok (.invokevirtual 25, 3) := by decide +kernel
theorem dX0_add_4 : decode cX0_add 4 = .ok (.ifCond .eq 43, 3) := by decide +kernel
theorem dX0_add_7 : decode cX0_add 7 = .ok (.aload_n 0, 1) := by decide +kernel
theorem dX0_add_8 : decode cX0_add 8 = .ok (.getfield 11, 3) := by decide +kernel
theorem dX0_add_11 : decode cX0_add 11 = .ok (.aload_n 0, 1) := by decide +kernel
theorem dX0_add_12 : decode cX0_add 12 = .ok (.getfield 21, 3) := by decide +kernel
theorem dX0_add_15 : decode cX0_add 15 = .ok (.iload_n 1, 1) := by decide +kernel
theorem dX0_add_16 : decode cX0_add 16 = .ok (.iastore, 1) := by decide +kernel
theorem dX0_add_17 : decode cX0_add 17 = .ok (.aload_n 0, 1) := by decide +kernel
theorem dX0_add_18 : decode cX0_add 18 = .ok (.getfield 15, 3) := by decide +kernel
theorem dX0_add_21 : decode cX0_add 21 = .ok (.aload_n 0, 1) := by decide +kernel
theorem dX0_add_22 : decode cX0_add 22 = .ok (.getfield 21, 3) := by decide +kernel
theorem dX0_add_25 : decode cX0_add 25 = .ok (.iload_n 2, 1) := by decide +kernel
theorem dX0_add_26 : decode cX0_add 26 = .ok (.iastore, 1) := by decide +kernel
theorem dX0_add_27 : decode cX0_add 27 = .ok (.aload_n 0, 1) := by decide +kernel
theorem dX0_add_28 : decode cX0_add 28 = .ok (.getfield 18, 3) := by decide +kernel
theorem dX0_add_31 : decode cX0_add 31 = .ok (.aload_n 0, 1) := by decide +kernel
theorem dX0_add_32 : decode cX0_add 32 = .ok (.getfield 21, 3) := by decide +kernel
theorem dX0_add_35 : decode cX0_add 35 = .ok (.iload_n 3, 1) := by decide +kernel
theorem dX0_add_36 : decode cX0_add 36 = .ok (.iastore, 1) := by decide +kernel
theorem dX0_add_37 : decode cX0_add 37 = .ok (.aload_n 0, 1) := by decide +kernel
theorem dX0_add_38 : decode cX0_add 38 = .ok (.dup, 1) := by decide +kernel
theorem dX0_add_39 : decode cX0_add 39 = .ok (.getfield 21, 3) := by decide +kernel
theorem dX0_add_42 : decode cX0_add 42 = .ok (.iconst 1, 1) := by decide +kernel
theorem dX0_add_43 : decode cX0_add 43 = .ok (.iadd, 1) := by decide +kernel
theorem dX0_add_44 : decode cX0_add 44 = .ok (.putfield 21, 3) := by decide +kernel
theorem dX0_add_47 : decode cX0_add 47 = .ok (.return_, 1) := by decide +kernel
theorem dX0_clear_0 : decode cX0_clear 0 = .ok (.aload_n 0, 1) := by decide +kernel
theorem dX0_clear_1 : decode cX0_clear 1 = .ok (.iconst 0, 1) := by decide +kernel
theorem dX0_clear_2 : decode cX0_clear 2 = .ok (.putfield 21, 3) := by decide +kernel
theorem dX0_clear_5 : decode cX0_clear 5 = .ok (.return_, 1) := by decide +kernel
theorem dX0_firstWrong_0 : decode cX0_firstWrong 0 = .ok (.aload_n 1, 1) := by decide +kernel
theorem dX0_firstWrong_1 : decode cX0_firstWrong 1 = .ok (.ifnull 7, 3) := by decide +kernel
theorem dX0_firstWrong_4 : decode cX0_firstWrong 4 = .ok (.aload_n 2, 1) := by decide +kernel
theorem dX0_firstWrong_5 : decode cX0_firstWrong 5 = .ok (.ifnonnull 5, 3) := by decide +kernel
theorem dX0_firstWrong_8 : decode cX0_firstWrong 8 = .ok (.iconst (-1), 1) := by decide +kernel
theorem dX0_firstWrong_9 : decode cX0_firstWrong 9 = .ok (.ireturn, 1) := by decide +kernel
theorem dX0_firstWrong_10 : decode cX0_firstWrong 10 = .ok (.iconst 0, 1) := by decide +kernel
theorem dX0_firstWrong_11 : decode cX0_firstWrong 11 = .ok (.istore_n 3, 1) := by decide +kernel
theorem dX0_firstWrong_12 : decode cX0_firstWrong 12 = .ok (.iload_n 3, 1) := by decide +kernel
theorem dX0_firstWrong_13 : decode cX0_firstWrong 13 = .ok (.aload_n 0, 1) := by decide +kernel
theorem dX0_firstWrong_14 : decode cX0_firstWrong 14 = .ok (.getfield 21, 3) := by decide +kernel
theorem dX0_firstWrong_17 : decode cX0_firstWrong 17 = .ok (.if_icmp .ge 49, 3) := by decide +kernel
theorem dX0_firstWrong_20 : decode cX0_firstWrong 20 = .ok (.aload_n 1, 1) := by decide +kernel
theorem dX0_firstWrong_21 : decode cX0_firstWrong 21 = .ok (.aload_n 0, 1) := by decide +kernel
theorem dX0_firstWrong_22 : decode cX0_firstWrong 22 = .ok (.getfield 15, 3) := by decide +kernel
theorem dX0_firstWrong_25 : decode cX0_firstWrong 25 = .ok (.iload_n 3, 1) := by decide +kernel
theorem dX0_firstWrong_26 : decode cX0_firstWrong 26 = .ok (.iaload, 1) := by decide +kernel
theorem dX0_firstWrong_27 : decode cX0_firstWrong 27 = .ok (.invokevirtual 29, 3) := by decide +kernel
theorem dX0_firstWrong_30 : decode cX0_firstWrong 30 = .ok (.ifCond .eq 28, 3) := by decide +kernel
theorem dX0_firstWrong_33 : decode cX0_firstWrong 33 = .ok (.aload_n 2, 1) := by decide +kernel
theorem dX0_firstWrong_34 : decode cX0_firstWrong 34 = .ok (.aload_n 0, 1) := by decide +kernel
theorem dX0_firstWrong_35 : decode cX0_firstWrong 35 = .ok (.getfield 11, 3) := by decide +kernel
theorem dX0_firstWrong_38 : decode cX0_firstWrong 38 = .ok (.iload_n 3, 1) := by decide +kernel
theorem dX0_firstWrong_39 : decode cX0_firstWrong 39 = .ok (.iaload, 1) := by decide +kernel
theorem dX0_firstWrong_40 : decode cX0_firstWrong 40 = .ok (.aload_n 0, 1) := by decide +kernel
theorem dX0_firstWrong_41 : decode cX0_firstWrong 41 = .ok (.getfield 15, 3) := by decide +kernel
theorem dX0_firstWrong_44 : decode cX0_firstWrong 44 = .ok (.iload_n 3, 1) := by decide +kernel
theorem dX0_firstWrong_45 : decode cX0_firstWrong 45 = .ok (.iaload, 1) := by decide +kernel
theorem dX0_firstWrong_46 : decode cX0_firstWrong 46 = .ok (.invokevirtual 35, 3) := by decide +kernel
theorem dX0_firstWrong_49 : decode cX0_firstWrong 49 = .ok (.aload_n 0, 1) := by decide +kernel
theorem dX0_firstWrong_50 : decode cX0_firstWrong 50 = .ok (.getfield 18, 3) := by decide +kernel
theorem dX0_firstWrong_53 : decode cX0_firstWrong 53 = .ok (.iload_n 3, 1) := by decide +kernel
theorem dX0_firstWrong_54 : decode cX0_firstWrong 54 = .ok (.iaload, 1) := by decide +kernel
theorem dX0_firstWrong_55 : decode cX0_firstWrong 55 = .ok (.if_icmp .eq 5, 3) := by decide +kernel
theorem dX0_firstWrong_58 : decode cX0_firstWrong 58 = .ok (.iload_n 3, 1) := by decide +kernel
theorem dX0_firstWrong_59 : decode cX0_firstWrong 59 = .ok (.ireturn, 1) := by decide +kernel
theorem dX0_firstWrong_60 : decode cX0_firstWrong 60 = .ok (.iinc 3 1, 3) := by decide +kernel
theorem dX0_firstWrong_63 : decode cX0_firstWrong 63 = .ok (.goto (-51), 3) := by decide +kernel
theorem dX0_firstWrong_66 : decode cX0_firstWrong 66 = .ok (.iconst (-1), 1) := by decide +kernel
theorem dX0_firstWrong_67 : decode cX0_firstWrong 67 = .ok (.ireturn, 1) := by decide +kernel
theorem dX1_init_0 : decode cX1_init 0 = .ok (.aload_n 0, 1) := by decide +kernel
theorem dX1_init_1 : decode cX1_init 1 = .ok (.invokespecial 3, 3) := by decide +kernel
theorem dX1_init_4 : decode cX1_init 4 = .ok (.aload_n 0, 1) := by decide +kernel
theorem dX1_init_5 : decode cX1_init 5 = .ok (.bipush 16, 2) := by decide +kernel
theorem dX1_init_7 : decode cX1_init 7 = .ok (.anewarray 9, 3) := by decide +kernel
theorem dX1_init_10 : decode cX1_init 10 = .ok (.putfield 11, 3) := by decide +kernel
theorem dX1_init_13 : decode cX1_init 13 = .ok (.aload_n 0, 1) := by decide +kernel
theorem dX1_init_14 : decode cX1_init 14 = .ok (.iconst 0, 1) := by decide +kernel
theorem dX1_init_15 : decode cX1_init 15 = .ok (.putfield 17, 3) := by decide +kernel
theorem dX1_init_18 : decode cX1_init 18 = .ok (.iconst 0, 1) := by decide +kernel
theorem dX1_init_19 : decode cX1_init 19 = .ok (.istore_n 1, 1) := by decide +kernel
theorem dX1_init_20 : decode cX1_init 20 = .ok (.iload_n 1, 1) := by decide +kernel
theorem dX1_init_21 : decode cX1_init 21 = .ok (.bipush 16, 2) := by decide +kernel
theorem dX1_init_23 : decode cX1_init 23 = .ok (.if_icmp .ge 22, 3) := by decide +kernel
theorem dX1_init_26 : decode cX1_init 26 = .ok (.aload_n 0, 1) := by decide +kernel
theorem dX1_init_27 : decode cX1_init 27 = .ok (.getfield 11, 3) := by decide +kernel
theorem dX1_init_30 : decode cX1_init 30 = .ok (.iload_n 1, 1) := by decide +kernel
theorem dX1_init_31 : decode cX1_init 31 = .ok (.new 9, 3) := by decide +kernel
theorem dX1_init_34 : decode cX1_init 34 = .ok (.dup, 1) := by decide +kernel
theorem dX1_init_35 : decode cX1_init 35 = .ok (.invokespecial 21, 3) := by decide +kernel
theorem dX1_init_38 : decode cX1_init 38 = .ok (.aastore, 1) := by decide +kernel
theorem dX1_init_39 : decode cX1_init 39 = .ok (.iinc 1 1, 3) := by decide +kernel
theorem dX1_init_42 : decode cX1_init 42 = .ok (.goto (-22), 3) := by decide +kernel
theorem dX1_init_45 : decode cX1_init 45 = .ok (.return_, 1) := by decide +kernel
theorem dX1_number_0 : decode cX1_number 0 = .ok (.aload_n 0, 1) := by decide +kernel
theorem dX1_number_1 : decode cX1_number 1 = .ok (.getfield 17, 3) := by decide +kernel
theorem dX1_number_4 : decode cX1_number 4 = .ok (.ireturn, 1) := by decide +kernel
theorem dX1_forget_0 : decode cX1_forget 0 = .ok (.aload_n 0, 1) := by decide +kernel
theorem dX1_forget_1 : decode cX1_forget 1 = .ok (.iconst 0, 1) := by decide +kernel
theorem dX1_forget_2 : decode cX1_forget 2 = .ok (.putfield 17, 3) := by decide +kernel
theorem dX1_forget_5 : decode cX1_forget 5 = .ok (.return_, 1) := by decide +kernel
theorem dX1_remember_0 : decode cX1_remember 0 = .ok (.aload_n 0, 1) := by decide +kernel
theorem dX1_remember_1 : decode cX1_remember 1 = .ok (.getfield 17, 3) := by decide +kernel
theorem dX1_remember_4 : decode cX1_remember 4 = .ok (.bipush 16, 2) := by decide +kernel
theorem dX1_remember_6 : decode cX1_remember 6 = .ok (.if_icmp .lt 7, 3) := by decide +kernel
theorem dX1_remember_9 : decode cX1_remember 9 = .ok (.aload_n 0, 1) := by decide +kernel
theorem dX1_remember_10 : decode cX1_remember 10 = .ok (.invokevirtual 22, 3) := by decide +kernel
theorem dX1_remember_13 : decode cX1_remember 13 = .ok (.aload_n 0, 1) := by decide +kernel
theorem dX1_remember_14 : decode cX1_remember 14 = .ok (.getfield 17, 3) := by decide +kernel
theorem dX1_remember_17 : decode cX1_remember 17 = .ok (.ifCond .lt 47, 3) := by decide +kernel
theorem dX1_remember_20 : decode cX1_remember 20 = .ok (.aload_n 0, 1) := by decide +kernel
theorem dX1_remember_21 : decode cX1_remember 21 = .ok (.getfield 17, 3) := by decide +kernel
theorem dX1_remember_24 : decode cX1_remember 24 = .ok (.bipush 16, 2) := by decide +kernel
theorem dX1_remember_26 : decode cX1_remember 26 = .ok (.if_icmp .ge 38, 3) := by decide +kernel
theorem dX1_remember_29 : decode cX1_remember 29 = .ok (.aload_n 0, 1) := by decide +kernel
theorem dX1_remember_30 : decode cX1_remember 30 = .ok (.getfield 11, 3) := by decide +kernel
theorem dX1_remember_33 : decode cX1_remember 33 = .ok (.aload_n 0, 1) := by decide +kernel
theorem dX1_remember_34 : decode cX1_remember 34 = .ok (.getfield 17, 3) := by decide +kernel
theorem dX1_remember_37 : decode cX1_remember 37 = .ok (.aaload, 1) := by decide +kernel
theorem dX1_remember_38 : decode cX1_remember 38 = .ok (.ifnull 26, 3) := by decide +kernel
theorem dX1_remember_41 : decode cX1_remember 41 = .ok (.aload_n 0, 1) := by decide +kernel
theorem dX1_remember_42 : decode cX1_remember 42 = .ok (.getfield 11, 3) := by decide +kernel
theorem dX1_remember_45 : decode cX1_remember 45 = .ok (.aload_n 0, 1) := by decide +kernel
theorem dX1_remember_46 : decode cX1_remember 46 = .ok (.getfield 17, 3) := by decide +kernel
theorem dX1_remember_49 : decode cX1_remember 49 = .ok (.aaload, 1) := by decide +kernel
theorem dX1_remember_50 : decode cX1_remember 50 = .ok (.aload_n 1, 1) := by decide +kernel
theorem dX1_remember_51 : decode cX1_remember 51 = .ok (.invokevirtual 25, 3) := by decide +kernel
theorem dX1_remember_54 : decode cX1_remember 54 = .ok (.aload_n 0, 1) := by decide +kernel
theorem dX1_remember_55 : decode cX1_remember 55 = .ok (.dup, 1) := by decide +kernel
theorem dX1_remember_56 : decode cX1_remember 56 = .ok (.getfield 17, 3) := by decide +kernel
theorem dX1_remember_59 : decode cX1_remember 59 = .ok (.iconst 1, 1) := by decide +kernel
theorem dX1_remember_60 : decode cX1_remember 60 = .ok (.iadd, 1) := by decide +kernel
theorem dX1_remember_61 : decode cX1_remember 61 = .ok (.putfield 17, 3) := by decide +kernel
theorem dX1_remember_64 : decode cX1_remember 64 = .ok (.return_, 1) := by decide +kernel
theorem dX1_takeBack_0 : decode cX1_takeBack 0 = .ok (.iload_n 1, 1) := by decide +kernel
theorem dX1_takeBack_1 : decode cX1_takeBack 1 = .ok (.iconst 1, 1) := by decide +kernel
theorem dX1_takeBack_2 : decode cX1_takeBack 2 = .ok (.if_icmp .lt 38, 3) := by decide +kernel
theorem dX1_takeBack_5 : decode cX1_takeBack 5 = .ok (.iload_n 1, 1) := by decide +kernel
theorem dX1_takeBack_6 : decode cX1_takeBack 6 = .ok (.aload_n 0, 1) := by decide +kernel
theorem dX1_takeBack_7 : decode cX1_takeBack 7 = .ok (.getfield 17, 3) := by decide +kernel
theorem dX1_takeBack_10 : decode cX1_takeBack 10 = .ok (.if_icmp .gt 30, 3) := by decide +kernel
theorem dX1_takeBack_13 : decode cX1_takeBack 13 = .ok (.aload_n 2, 1) := by decide +kernel
theorem dX1_takeBack_14 : decode cX1_takeBack 14 = .ok (.ifnull 26, 3) := by decide +kernel
theorem dX1_takeBack_17 : decode cX1_takeBack 17 = .ok (.aload_n 0, 1) := by decide +kernel
theorem dX1_takeBack_18 : decode cX1_takeBack 18 = .ok (.dup, 1) := by decide +kernel
theorem dX1_takeBack_19 : decode cX1_takeBack 19 = .ok (.getfield 17, 3) := by decide +kernel
theorem dX1_takeBack_22 : decode cX1_takeBack 22 = .ok (.iload_n 1, 1) := by decide +kernel
theorem dX1_takeBack_23 : decode cX1_takeBack 23 = .ok (.isub, 1) := by decide +kernel
theorem dX1_takeBack_24 : decode cX1_takeBack 24 = .ok (.putfield 17, 3) := by decide +kernel
theorem dX1_takeBack_27 : decode cX1_takeBack 27 = .ok (.aload_n 2, 1) := by decide +kernel
theorem dX1_takeBack_28 : decode cX1_takeBack 28 = .ok (.aload_n 0, 1) := by decide +kernel
theorem dX1_takeBack_29 : decode cX1_takeBack 29 = .ok (.getfield 11, 3) := by decide +kernel
theorem dX1_takeBack_32 : decode cX1_takeBack 32 = .ok (.aload_n 0, 1) := by decide +kernel
theorem dX1_takeBack_33 : decode cX1_takeBack 33 = .ok (.getfield 17, 3) := by decide +kernel
theorem dX1_takeBack_36 : decode cX1_takeBack 36 = .ok (.aaload, 1) := by decide +kernel
theorem dX1_takeBack_37 : decode cX1_takeBack 37 = .ok (.invokevirtual 25, 3) := by decide +kernel
theorem dX1_takeBack_40 : decode cX1_takeBack 40 = .ok (.return_, 1) := by decide +kernel
theorem dX1_dropOldest_0 : decode cX1_dropOldest 0 = .ok (.aload_n 0, 1) := by decide +kernel
theorem dX1_dropOldest_1 : decode cX1_dropOldest 1 = .ok (.getfield 11, 3) := by decide +kernel
theorem dX1_dropOldest_4 : decode cX1_dropOldest 4 = .ok (.iconst 0, 1) := by decide +kernel
theorem dX1_dropOldest_5 : decode cX1_dropOldest 5 = .ok (.aaload, 1) := by decide +kernel
theorem dX1_dropOldest_6 : decode cX1_dropOldest 6 = .ok (.astore_n 1, 1) := by decide +kernel
theorem dX1_dropOldest_7 : decode cX1_dropOldest 7 = .ok (.iconst 1, 1) := by decide +kernel
theorem dX1_dropOldest_8 : decode cX1_dropOldest 8 = .ok (.istore_n 2, 1) := by decide +kernel
theorem dX1_dropOldest_9 : decode cX1_dropOldest 9 = .ok (.iload_n 2, 1) := by decide +kernel
theorem dX1_dropOldest_10 : decode cX1_dropOldest 10 = .ok (.bipush 16, 2) := by decide +kernel
theorem dX1_dropOldest_12 : decode cX1_dropOldest 12 = .ok (.if_icmp .ge 23, 3) := by decide +kernel
theorem dX1_dropOldest_15 : decode cX1_dropOldest 15 = .ok (.aload_n 0, 1) := by decide +kernel
theorem dX1_dropOldest_16 : decode cX1_dropOldest 16 = .ok (.getfield 11, 3) := by decide +kernel
theorem dX1_dropOldest_19 : decode cX1_dropOldest 19 = .ok (.iload_n 2, 1) := by decide +kernel
theorem dX1_dropOldest_20 : decode cX1_dropOldest 20 = .ok (.iconst 1, 1) := by decide +kernel
theorem dX1_dropOldest_21 : decode cX1_dropOldest 21 = .ok (.isub, 1) := by decide +kernel
theorem dX1_dropOldest_22 : decode cX1_dropOldest 22 = .ok (.aload_n 0, 1) := by decide +kernel
theorem dX1_dropOldest_23 : decode cX1_dropOldest 23 = .ok (.getfield 11, 3) := by decide +kernel
theorem dX1_dropOldest_26 : decode cX1_dropOldest 26 = .ok (.iload_n 2, 1) := by decide +kernel
theorem dX1_dropOldest_27 : decode cX1_dropOldest 27 = .ok (.aaload, 1) := by decide +kernel
theorem dX1_dropOldest_28 : decode cX1_dropOldest 28 = .ok (.aastore, 1) := by decide +kernel
theorem dX1_dropOldest_29 : decode cX1_dropOldest 29 = .ok (.iinc 2 1, 3) := by decide +kernel
theorem dX1_dropOldest_32 : decode cX1_dropOldest 32 = .ok (.goto (-23), 3) := by decide +kernel
theorem dX1_dropOldest_35 : decode cX1_dropOldest 35 = .ok (.aload_n 0, 1) := by decide +kernel
theorem dX1_dropOldest_36 : decode cX1_dropOldest 36 = .ok (.getfield 11, 3) := by decide +kernel
theorem dX1_dropOldest_39 : decode cX1_dropOldest 39 = .ok (.bipush 15, 2) := by decide +kernel
theorem dX1_dropOldest_41 : decode cX1_dropOldest 41 = .ok (.aload_n 1, 1) := by decide +kernel
theorem dX1_dropOldest_42 : decode cX1_dropOldest 42 = .ok (.aastore, 1) := by decide +kernel
theorem dX1_dropOldest_43 : decode cX1_dropOldest 43 = .ok (.aload_n 0, 1) := by decide +kernel
theorem dX1_dropOldest_44 : decode cX1_dropOldest 44 = .ok (.bipush 15, 2) := by decide +kernel
theorem dX1_dropOldest_46 : decode cX1_dropOldest 46 = .ok (.putfield 17, 3) := by decide +kernel
theorem dX1_dropOldest_49 : decode cX1_dropOldest 49 = .ok (.return_, 1) := by decide +kernel
theorem dX2_init_0 : decode cX2_init 0 = .ok (.aload_n 0, 1) := by decide +kernel
theorem dX2_init_1 : decode cX2_init 1 = .ok (.invokespecial 3, 3) := by decide +kernel
theorem dX2_init_4 : decode cX2_init 4 = .ok (.aload_n 0, 1) := by decide +kernel
theorem dX2_init_5 : decode cX2_init 5 = .ok (.new 9, 3) := by decide +kernel
theorem dX2_init_8 : decode cX2_init 8 = .ok (.dup, 1) := by decide +kernel
theorem dX2_init_9 : decode cX2_init 9 = .ok (.invokespecial 11, 3) := by decide +kernel
theorem dX2_init_12 : decode cX2_init 12 = .ok (.putfield 12, 3) := by decide +kernel
theorem dX2_init_15 : decode cX2_init 15 = .ok (.aload_n 0, 1) := by decide +kernel
theorem dX2_init_16 : decode cX2_init 16 = .ok (.new 18, 3) := by decide +kernel
theorem dX2_init_19 : decode cX2_init 19 = .ok (.dup, 1) := by decide +kernel
theorem dX2_init_20 : decode cX2_init 20 = .ok (.invokespecial 20, 3) := by decide +kernel
theorem dX2_init_23 : decode cX2_init 23 = .ok (.putfield 21, 3) := by decide +kernel
theorem dX2_init_26 : decode cX2_init 26 = .ok (.aload_n 0, 1) := by decide +kernel
theorem dX2_init_27 : decode cX2_init 27 = .ok (.new 25, 3) := by decide +kernel
theorem dX2_init_30 : decode cX2_init 30 = .ok (.dup, 1) := by decide +kernel
theorem dX2_init_31 : decode cX2_init 31 = .ok (.invokespecial 27, 3) := by decide +kernel
theorem dX2_init_34 : decode cX2_init 34 = .ok (.putfield 28, 3) := by decide +kernel
theorem dX2_init_37 : decode cX2_init 37 = .ok (.aload_n 0, 1) := by decide +kernel
theorem dX2_init_38 : decode cX2_init 38 = .ok (.new 32, 3) := by decide +kernel
theorem dX2_init_41 : decode cX2_init 41 = .ok (.dup, 1) := by decide +kernel
theorem dX2_init_42 : decode cX2_init 42 = .ok (.invokespecial 34, 3) := by decide +kernel
theorem dX2_init_45 : decode cX2_init 45 = .ok (.putfield 35, 3) := by decide +kernel
theorem dX2_init_48 : decode cX2_init 48 = .ok (.return_, 1) := by decide +kernel
theorem dX2_hot_0 : decode cX2_hot 0 = .ok (.iconst 0, 1) := by decide +kernel
theorem dX2_hot_1 : decode cX2_hot 1 = .ok (.istore_n 2, 1) := by decide +kernel
theorem dX2_hot_2 : decode cX2_hot 2 = .ok (.iconst 0, 1) := by decide +kernel
theorem dX2_hot_3 : decode cX2_hot 3 = .ok (.istore_n 3, 1) := by decide +kernel
theorem dX2_hot_4 : decode cX2_hot 4 = .ok (.iload_n 3, 1) := by decide +kernel
theorem dX2_hot_5 : decode cX2_hot 5 = .ok (.bipush 8, 2) := by decide +kernel
theorem dX2_hot_7 : decode cX2_hot 7 = .ok (.if_icmp .ge 28, 3) := by decide +kernel
theorem dX2_hot_10 : decode cX2_hot 10 = .ok (.aload_n 0, 1) := by decide +kernel
theorem dX2_hot_11 : decode cX2_hot 11 = .ok (.getfield 21, 3) := by decide +kernel
theorem dX2_hot_14 : decode cX2_hot 14 = .ok (.iload_n 3, 1) := by decide +kernel
theorem dX2_hot_15 : decode cX2_hot 15 = .ok (.iload_n 1, 1) := by decide +kernel
theorem dX2_hot_16 : decode cX2_hot 16 = .ok (.invokevirtual 39, 3) := by decide +kernel
theorem dX2_hot_19 : decode cX2_hot 19 = .ok (.ifCond .le 10, 3) := by decide +kernel
theorem dX2_hot_22 : decode cX2_hot 22 = .ok (.iload_n 2, 1) := by decide +kernel
theorem dX2_hot_23 : decode cX2_hot 23 = .ok (.iload_n 3, 1) := by decide +kernel
theorem dX2_hot_24 : decode cX2_hot 24 = .ok (.invokestatic 43, 3) := by decide +kernel
theorem dX2_hot_27 : decode cX2_hot 27 = .ok (.ior, 1) := by decide +kernel
theorem dX2_hot_28 : decode cX2_hot 28 = .ok (.istore_n 2, 1) := by decide +kernel
theorem dX2_hot_29 : decode cX2_hot 29 = .ok (.iinc 3 1, 3) := by decide +kernel
theorem dX2_hot_32 : decode cX2_hot 32 = .ok (.goto (-28), 3) := by decide +kernel
theorem dX2_hot_35 : decode cX2_hot 35 = .ok (.iload_n 2, 1) := by decide +kernel
theorem dX2_hot_36 : decode cX2_hot 36 = .ok (.ireturn, 1) := by decide +kernel
theorem dX2_top_0 : decode cX2_top 0 = .ok (.iconst (-1), 1) := by decide +kernel
theorem dX2_top_1 : decode cX2_top 1 = .ok (.istore_n 2, 1) := by decide +kernel
theorem dX2_top_2 : decode cX2_top 2 = .ok (.iconst 0, 1) := by decide +kernel
theorem dX2_top_3 : decode cX2_top 3 = .ok (.istore_n 3, 1) := by decide +kernel
theorem dX2_top_4 : decode cX2_top 4 = .ok (.iload_n 3, 1) := by decide +kernel
theorem dX2_top_5 : decode cX2_top 5 = .ok (.bipush 8, 2) := by decide +kernel
theorem dX2_top_7 : decode cX2_top 7 = .ok (.if_icmp .ge 38, 3) := by decide +kernel
theorem dX2_top_10 : decode cX2_top 10 = .ok (.aload_n 0, 1) := by decide +kernel
theorem dX2_top_11 : decode cX2_top 11 = .ok (.getfield 21, 3) := by decide +kernel
theorem dX2_top_14 : decode cX2_top 14 = .ok (.iload_n 3, 1) := by decide +kernel
theorem dX2_top_15 : decode cX2_top 15 = .ok (.iload_n 1, 1) := by decide +kernel
theorem dX2_top_16 : decode cX2_top 16 = .ok (.invokevirtual 39, 3) := by decide +kernel
theorem dX2_top_19 : decode cX2_top 19 = .ok (.ifCond .le 20, 3) := by decide +kernel
theorem dX2_top_22 : decode cX2_top 22 = .ok (.iload_n 2, 1) := by decide +kernel
theorem dX2_top_23 : decode cX2_top 23 = .ok (.iconst (-1), 1) := by decide +kernel
theorem dX2_top_24 : decode cX2_top 24 = .ok (.if_icmp .eq 13, 3) := by decide +kernel
theorem dX2_top_27 : decode cX2_top 27 = .ok (.aload_n 0, 1) := by decide +kernel
theorem dX2_top_28 : decode cX2_top 28 = .ok (.iload_n 3, 1) := by decide +kernel
theorem dX2_top_29 : decode cX2_top 29 = .ok (.iload_n 2, 1) := by decide +kernel
theorem dX2_top_30 : decode cX2_top 30 = .ok (.iload_n 1, 1) := by decide +kernel
theorem dX2_top_31 : decode cX2_top 31 = .ok (.invokevirtual 47, 3) := by decide +kernel
theorem dX2_top_34 : decode cX2_top 34 = .ok (.ifCond .eq 5, 3) := by decide +kernel
theorem dX2_top_37 : decode cX2_top 37 = .ok (.iload_n 3, 1) := by decide +kernel
theorem dX2_top_38 : decode cX2_top 38 = .ok (.istore_n 2, 1) := by decide +kernel
theorem dX2_top_39 : decode cX2_top 39 = .ok (.iinc 3 1, 3) := by decide +kernel
theorem dX2_top_42 : decode cX2_top 42 = .ok (.goto (-38), 3) := by decide +kernel
theorem dX2_top_45 : decode cX2_top 45 = .ok (.iload_n 2, 1) := by decide +kernel
theorem dX2_top_46 : decode cX2_top 46 = .ok (.ireturn, 1) := by decide +kernel
theorem dX2_isAbove_0 : decode cX2_isAbove 0 = .ok (.aload_n 0, 1) := by decide +kernel
theorem dX2_isAbove_1 : decode cX2_isAbove 1 = .ok (.getfield 21, 3) := by decide +kernel
theorem dX2_isAbove_4 : decode cX2_isAbove 4 = .ok (.iload_n 1, 1) := by decide +kernel
theorem dX2_isAbove_5 : decode cX2_isAbove 5 = .ok (.iload_n 3, 1) := by decide +kernel
theorem dX2_isAbove_6 : decode cX2_isAbove 6 = .ok (.invokevirtual 39, 3) := by decide +kernel
theorem dX2_isAbove_9 : decode cX2_isAbove 9 = .ok (.aload_n 0, 1) := by decide +kernel
theorem dX2_isAbove_10 : decode cX2_isAbove 10 = .ok (.getfield 21, 3) := by decide +kernel
theorem dX2_isAbove_13 : decode cX2_isAbove 13 = .ok (.iload_n 2, 1) := by decide +kernel
theorem dX2_isAbove_14 : decode cX2_isAbove 14 = .ok (.iload_n 3, 1) := by decide +kernel
theorem dX2_isAbove_15 : decode cX2_isAbove 15 = .ok (.invokevirtual 39, 3) := by decide +kernel
theorem dX2_isAbove_18 : decode cX2_isAbove 18 = .ok (.if_icmp .eq 30, 3) := by decide +kernel
theorem dX2_isAbove_21 : decode cX2_isAbove 21 = .ok (.aload_n 0, 1) := by decide +kernel
theorem dX2_isAbove_22 : decode cX2_isAbove 22 = .ok (.getfield 21, 3) := by decide +kernel
theorem dX2_isAbove_25 : decode cX2_isAbove 25 = .ok (.iload_n 1, 1) := by decide +kernel
theorem dX2_isAbove_26 : decode cX2_isAbove 26 = .ok (.iload_n 3, 1) := by decide +kernel
theorem dX2_isAbove_27 : decode cX2_isAbove 27 = .ok (.invokevirtual 39, 3) := by decide +kernel
theorem dX2_isAbove_30 : decode cX2_isAbove 30 = .ok (.aload_n 0, 1) := by decide +kernel
theorem dX2_isAbove_31 : decode cX2_isAbove 31 = .ok (.getfield 21, 3) := by decide +kernel
theorem dX2_isAbove_34 : decode cX2_isAbove 34 = .ok (.iload_n 2, 1) := by decide +kernel
theorem dX2_isAbove_35 : decode cX2_isAbove 35 = .ok (.iload_n 3, 1) := by decide +kernel
theorem dX2_isAbove_36 : decode cX2_isAbove 36 = .ok (.invokevirtual 39, 3) := by decide +kernel
theorem dX2_isAbove_39 : decode cX2_isAbove 39 = .ok (.if_icmp .le 7, 3) := by decide +kernel
theorem dX2_isAbove_42 : decode cX2_isAbove 42 = .ok (.iconst 1, 1) := by decide +kernel
theorem dX2_isAbove_43 : decode cX2_isAbove 43 = .ok (.goto 4, 3) := by decide +kernel
theorem dX2_isAbove_46 : decode cX2_isAbove 46 = .ok (.iconst 0, 1) := by decide +kernel
theorem dX2_isAbove_47 : decode cX2_isAbove 47 = .ok (.ireturn, 1) := by decide +kernel
theorem dX2_isAbove_48 : decode cX2_isAbove 48 = .ok (.aload_n 0, 1) := by decide +kernel
theorem dX2_isAbove_49 : decode cX2_isAbove 49 = .ok (.getfield 12, 3) := by decide +kernel
theorem dX2_isAbove_52 : decode cX2_isAbove 52 = .ok (.iload_n 1, 1) := by decide +kernel
theorem dX2_isAbove_53 : decode cX2_isAbove 53 = .ok (.iload_n 3, 1) := by decide +kernel
theorem dX2_isAbove_54 : decode cX2_isAbove 54 = .ok (.invokevirtual 51, 3) := by decide +kernel
theorem dX2_isAbove_57 : decode cX2_isAbove 57 = .ok (.aload_n 0, 1) := by decide +kernel
theorem dX2_isAbove_58 : decode cX2_isAbove 58 = .ok (.getfield 12, 3) := by decide +kernel
theorem dX2_isAbove_61 : decode cX2_isAbove 61 = .ok (.iload_n 2, 1) := by decide +kernel
theorem dX2_isAbove_62 : decode cX2_isAbove 62 = .ok (.iload_n 3, 1) := by decide +kernel
theorem dX2_isAbove_63 : decode cX2_isAbove 63 = .ok (.invokevirtual 51, 3) := by decide +kernel
theorem dX2_isAbove_66 : decode cX2_isAbove 66 = .ok (.if_icmp .le 7, 3) := by decide +kernel
theorem dX2_isAbove_69 : decode cX2_isAbove 69 = .ok (.iconst 1, 1) := by decide +kernel
theorem dX2_isAbove_70 : decode cX2_isAbove 70 = .ok (.goto 4, 3) := by decide +kernel
theorem dX2_isAbove_73 : decode cX2_isAbove 73 = .ok (.iconst 0, 1) := by decide +kernel
theorem dX2_isAbove_74 : decode cX2_isAbove 74 = .ok (.ireturn, 1) := by decide +kernel
theorem dX3_init_0 : decode cX3_init 0 = .ok (.aload_n 0, 1) := by decide +kernel
theorem dX3_init_1 : decode cX3_init 1 = .ok (.invokespecial 3, 3) := by decide +kernel
theorem dX3_init_4 : decode cX3_init 4 = .ok (.aload_n 0, 1) := by decide +kernel
theorem dX3_init_5 : decode cX3_init 5 = .ok (.bipush 9, 2) := by decide +kernel
theorem dX3_init_7 : decode cX3_init 7 = .ok (.sipush 144, 3) := by decide +kernel
theorem dX3_init_10 : decode cX3_init 10 = .ok (.multianewarray 11 2, 4) := by decide +kernel
theorem dX3_init_14 : decode cX3_init 14 = .ok (.putfield 13, 3) := by decide +kernel
theorem dX3_init_17 : decode cX3_init 17 = .ok (.aload_n 0, 1) := by decide +kernel
theorem dX3_init_18 : decode cX3_init 18 = .ok (.iconst 0, 1) := by decide +kernel
theorem dX3_init_19 : decode cX3_init 19 = .ok (.putfield 16, 3) := by decide +kernel
theorem dX3_init_22 : decode cX3_init 22 = .ok (.return_, 1) := by decide +kernel
theorem dX3_number_0 : decode cX3_number 0 = .ok (.aload_n 0, 1) := by decide +kernel
theorem dX3_number_1 : decode cX3_number 1 = .ok (.getfield 16, 3) := by decide +kernel
theorem dX3_number_4 : decode cX3_number 4 = .ok (.ireturn, 1) := by decide +kernel
theorem dX3_has_0 : decode cX3_has 0 = .ok (.iload_n 1, 1) := by decide +kernel
theorem dX3_has_1 : decode cX3_has 1 = .ok (.ifCond .lt 15, 3) := by decide +kernel
theorem dX3_has_4 : decode cX3_has 4 = .ok (.iload_n 1, 1) := by decide +kernel
theorem dX3_has_5 : decode cX3_has 5 = .ok (.aload_n 0, 1) := by decide +kernel
theorem dX3_has_6 : decode cX3_has 6 = .ok (.getfield 16, 3) := by decide +kernel
theorem dX3_has_9 : decode cX3_has 9 = .ok (.if_icmp .ge 7, 3) := by decide +kernel
theorem dX3_has_12 : decode cX3_has 12 = .ok (.iconst 1, 1) := by decide +kernel
theorem dX3_has_13 : decode cX3_has 13 = .ok (.goto 4, 3) := by decide +kernel
theorem dX3_has_16 : decode cX3_has 16 = .ok (.iconst 0, 1) := by decide +kernel
theorem dX3_has_17 : decode cX3_has 17 = .ok (.ireturn, 1) := by decide +kernel
theorem dX3_hasDay_0 : decode cX3_hasDay 0 = .ok (.aload_n 0, 1) := by decide +kernel
theorem dX3_hasDay_1 : decode cX3_hasDay 1 = .ok (.iload_n 1, 1) := by decide +kernel
theorem dX3_hasDay_2 : decode cX3_hasDay 2 = .ok (.invokevirtual 20, 3) := by decide +kernel
theorem dX3_hasDay_5 : decode cX3_hasDay 5 = .ok (.ifCond .eq 31, 3) := by decide +kernel
theorem dX3_hasDay_8 : decode cX3_hasDay 8 = .ok (.aload_n 0, 1) := by decide +kernel
theorem dX3_hasDay_9 : decode cX3_hasDay 9 = .ok (.getfield 13, 3) := by decide +kernel
theorem dX3_hasDay_12 : decode cX3_hasDay 12 = .ok (.iconst 2, 1) := by decide +kernel
theorem dX3_hasDay_13 : decode cX3_hasDay 13 = .ok (.aaload, 1) := by decide +kernel
theorem dX3_hasDay_14 : decode cX3_hasDay 14 = .ok (.iload_n 1, 1) := by decide +kernel
theorem dX3_hasDay_15 : decode cX3_hasDay 15 = .ok (.iaload, 1) := by decide +kernel
theorem dX3_hasDay_16 : decode cX3_hasDay 16 = .ok (.iload_n 2, 1) := by decide +kernel
theorem dX3_hasDay_17 : decode cX3_hasDay 17 = .ok (.if_icmp .gt 19, 3) := by decide +kernel
theorem dX3_hasDay_20 : decode cX3_hasDay 20 = .ok (.iload_n 2, 1) := by decide +kernel
theorem dX3_hasDay_21 : decode cX3_hasDay 21 = .ok (.aload_n 0, 1) := by decide +kernel
theorem dX3_hasDay_22 : decode cX3_hasDay 22 = .ok (.getfield 13, 3) := by decide +kernel
theorem dX3_hasDay_25 : decode cX3_hasDay 25 = .ok (.iconst 3, 1) := by decide +kernel
theorem dX3_hasDay_26 : decode cX3_hasDay 26 = .ok (.aaload, 1) := by decide +kernel
theorem dX3_hasDay_27 : decode cX3_hasDay 27 = .ok (.iload_n 1, 1) := by decide +kernel
theorem dX3_hasDay_28 : decode cX3_hasDay 28 = .ok (.iaload, 1) := by decide +kernel
theorem dX3_hasDay_29 : decode cX3_hasDay 29 = .ok (.if_icmp .gt 7, 3) := by decide +kernel
theorem dX3_hasDay_32 : decode cX3_hasDay 32 = .ok (.iconst 1, 1) := by decide +kernel
theorem dX3_hasDay_33 : decode cX3_hasDay 33 = .ok (.goto 4, 3) := by decide +kernel
theorem dX3_hasDay_36 : decode cX3_hasDay 36 = .ok (.iconst 0, 1) := by decide +kernel
theorem dX3_hasDay_37 : decode cX3_hasDay 37 = .ok (.ireturn, 1) := by decide +kernel
theorem dX3_isAtOne_0 : decode cX3_isAtOne 0 = .ok (.aload_n 0, 1) := by decide +kernel
theorem dX3_isAtOne_1 : decode cX3_isAtOne 1 = .ok (.iload_n 1, 1) := by decide +kernel
theorem dX3_isAtOne_2 : decode cX3_isAtOne 2 = .ok (.invokevirtual 20, 3) := by decide +kernel
theorem dX3_isAtOne_5 : decode cX3_isAtOne 5 = .ok (.ifCond .eq 19, 3) := by decide +kernel
theorem dX3_isAtOne_8 : decode cX3_isAtOne 8 = .ok (.aload_n 0, 1) := by decide +kernel
theorem dX3_isAtOne_9 : decode cX3_isAtOne 9 = .ok (.getfield 13, 3) := by decide +kernel
theorem dX3_isAtOne_12 : decode cX3_isAtOne 12 = .ok (.iconst 1, 1) := by decide +kernel
theorem dX3_isAtOne_13 : decode cX3_isAtOne 13 = .ok (.aaload, 1) := by decide +kernel
theorem dX3_isAtOne_14 : decode cX3_isAtOne 14 = .ok (.iload_n 1, 1) := by decide +kernel
theorem dX3_isAtOne_15 : decode cX3_isAtOne 15 = .ok (.iaload, 1) := by decide +kernel
theorem dX3_isAtOne_16 : decode cX3_isAtOne 16 = .ok (.iconst 1, 1) := by decide +kernel
theorem dX3_isAtOne_17 : decode cX3_isAtOne 17 = .ok (.if_icmp .ne 7, 3) := by decide +kernel
theorem dX3_isAtOne_20 : decode cX3_isAtOne 20 = .ok (.iconst 1, 1) := by decide +kernel
theorem dX3_isAtOne_21 : decode cX3_isAtOne 21 = .ok (.goto 4, 3) := by decide +kernel
theorem dX3_isAtOne_24 : decode cX3_isAtOne 24 = .ok (.iconst 0, 1) := by decide +kernel
theorem dX3_isAtOne_25 : decode cX3_isAtOne 25 = .ok (.ireturn, 1) := by decide +kernel
theorem dX3_setOf_0 : decode cX3_setOf 0 = .ok (.aload_n 0, 1) := by decide +kernel
theorem dX3_setOf_1 : decode cX3_setOf 1 = .ok (.iload_n 1, 1) := by decide +kernel
theorem dX3_setOf_2 : decode cX3_setOf 2 = .ok (.invokevirtual 20, 3) := by decide +kernel
theorem dX3_setOf_5 : decode cX3_setOf 5 = .ok (.ifCond .eq 17, 3) := by decide +kernel
theorem dX3_setOf_8 : decode cX3_setOf 8 = .ok (.aload_n 0, 1) := by decide +kernel
theorem dX3_setOf_9 : decode cX3_setOf 9 = .ok (.getfield 13, 3) := by decide +kernel
theorem dX3_setOf_12 : decode cX3_setOf 12 = .ok (.iconst 0, 1) := by decide +kernel
theorem dX3_setOf_13 : decode cX3_setOf 13 = .ok (.aaload, 1) := by decide +kernel
theorem dX3_setOf_14 : decode cX3_setOf 14 = .ok (.iload_n 1, 1) := by decide +kernel
theorem dX3_setOf_15 : decode cX3_setOf 15 = .ok (.iaload, 1) := by decide +kernel
theorem dX3_setOf_16 : decode cX3_setOf 16 = .ok (.invokestatic 24, 3) := by decide +kernel
theorem dX3_setOf_19 : decode cX3_setOf 19 = .ok (.goto 4, 3) := by decide +kernel
theorem dX3_setOf_22 : decode cX3_setOf 22 = .ok (.iconst 0, 1) := by decide +kernel
theorem dX3_setOf_23 : decode cX3_setOf 23 = .ok (.ireturn, 1) := by decide +kernel
theorem dX3_isFact_0 : decode cX3_isFact 0 = .ok (.iload_n 0, 1) := by decide +kernel
theorem dX3_isFact_1 : decode cX3_isFact 1 = .ok (.ifCond .lt 13, 3) := by decide +kernel
theorem dX3_isFact_4 : decode cX3_isFact 4 = .ok (.iload_n 0, 1) := by decide +kernel
theorem dX3_isFact_5 : decode cX3_isFact 5 = .ok (.bipush 9, 2) := by decide +kernel
theorem dX3_isFact_7 : decode cX3_isFact 7 = .ok (.if_icmp .ge 7, 3) := by decide +kernel
theorem dX3_isFact_10 : decode cX3_isFact 10 = .ok (.iconst 1, 1) := by decide +kernel
theorem dX3_isFact_11 : decode cX3_isFact 11 = .ok (.goto 4, 3) := by decide +kernel
theorem dX3_isFact_14 : decode cX3_isFact 14 = .ok (.iconst 0, 1) := by decide +kernel
theorem dX3_isFact_15 : decode cX3_isFact 15 = .ok (.ireturn, 1) := by decide +kernel
theorem dX3_fact_0 : decode cX3_fact 0 = .ok (.aload_n 0, 1) := by decide +kernel
theorem dX3_fact_1 : decode cX3_fact 1 = .ok (.iload_n 1, 1) := by decide +kernel
theorem dX3_fact_2 : decode cX3_fact 2 = .ok (.invokevirtual 20, 3) := by decide +kernel
theorem dX3_fact_5 : decode cX3_fact 5 = .ok (.ifCond .eq 21, 3) := by decide +kernel
theorem dX3_fact_8 : decode cX3_fact 8 = .ok (.iload_n 2, 1) := by decide +kernel
theorem dX3_fact_9 : decode cX3_fact 9 = .ok (.invokestatic 28, 3) := by decide +kernel
theorem dX3_fact_12 : decode cX3_fact 12 = .ok (.ifCond .eq 14, 3) := by decide +kernel
theorem dX3_fact_15 : decode cX3_fact 15 = .ok (.aload_n 0, 1) := by decide +kernel
theorem dX3_fact_16 : decode cX3_fact 16 = .ok (.getfield 13, 3) := by decide +kernel
theorem dX3_fact_19 : decode cX3_fact 19 = .ok (.iload_n 2, 1) := by decide +kernel
theorem dX3_fact_20 : decode cX3_fact 20 = .ok (.aaload, 1) := by decide +kernel
theorem dX3_fact_21 : decode cX3_fact 21 = .ok (.iload_n 1, 1) := by decide +kernel
theorem dX3_fact_22 : decode cX3_fact 22 = .ok (.iaload, 1) := by decide +kernel
theorem dX3_fact_23 : decode cX3_fact 23 = .ok (.goto 4, 3) := by decide +kernel
theorem dX3_fact_26 : decode cX3_fact 26 = .ok (.iconst (-1), 1) := by decide +kernel
theorem dX3_fact_27 : decode cX3_fact 27 = .ok (.ireturn, 1) := by decide +kernel
theorem dX3_putStory_0 : decode cX3_putStory 0 = .ok (.aload_n 0, 1) := by decide +kernel
theorem dX3_putStory_1 : decode cX3_putStory 1 = .ok (.iload_n 1, 1) := by decide +kernel
theorem dX3_putStory_2 : decode cX3_putStory 2 = .ok (.invokevirtual 20, 3) := by decide +kernel
theorem dX3_putStory_5 : decode cX3_putStory 5 = .ok (.ifCond .eq 13, 3) := by decide +kernel
theorem dX3_putStory_8 : decode cX3_putStory 8 = .ok (.aload_n 0, 1) := by decide +kernel
theorem dX3_putStory_9 : decode cX3_putStory 9 = .ok (.getfield 13, 3) := by decide +kernel
theorem dX3_putStory_12 : decode cX3_putStory 12 = .ok (.bipush 8, 2) := by decide +kernel
theorem dX3_putStory_14 : decode cX3_putStory 14 = .ok (.aaload, 1) := by decide +kernel
theorem dX3_putStory_15 : decode cX3_putStory 15 = .ok (.iload_n 1, 1) := by decide +kernel
theorem dX3_putStory_16 : decode cX3_putStory 16 = .ok (.iload_n 2, 1) := by decide +kernel
theorem dX3_putStory_17 : decode cX3_putStory 17 = .ok (.iastore, 1) := by decide +kernel
theorem dX3_putStory_18 : decode cX3_putStory 18 = .ok (.return_, 1) := by decide +kernel
theorem dX3_findAll_0 : decode cX3_findAll 0 = .ok (.aload_n 0, 1) := by decide +kernel
theorem dX3_findAll_1 : decode cX3_findAll 1 = .ok (.iconst 0, 1) := by decide +kernel
theorem dX3_findAll_2 : decode cX3_findAll 2 = .ok (.putfield 16, 3) := by decide +kernel
theorem dX3_findAll_5 : decode cX3_findAll 5 = .ok (.iconst 0, 1) := by decide +kernel
theorem dX3_findAll_6 : decode cX3_findAll 6 = .ok (.istore_n 3, 1) := by decide +kernel
theorem dX3_findAll_7 : decode cX3_findAll 7 = .ok (.iload_n 3, 1) := by decide +kernel
theorem dX3_findAll_8 : decode cX3_findAll 8 = .ok (.bipush 8, 2) := by decide +kernel
theorem dX3_findAll_10 : decode cX3_findAll 10 = .ok (.if_icmp .ge 39, 3) := by decide +kernel
theorem dX3_findAll_13 : decode cX3_findAll 13 = .ok (.iconst 1, 1) := by decide +kernel
theorem dX3_findAll_14 : decode cX3_findAll 14 = .ok (.istore 4, 2) := by decide +kernel
theorem dX3_findAll_16 : decode cX3_findAll 16 = .ok (.iload 4, 2) := by decide +kernel
theorem dX3_findAll_18 : decode cX3_findAll 18 = .ok (.aload_n 1, 1) := by decide +kernel
theorem dX3_findAll_19 : decode cX3_findAll 19 = .ok (.invokevirtual 31, 3) := by decide +kernel
theorem dX3_findAll_22 : decode cX3_findAll 22 = .ok (.if_icmp .gt 21, 3) := by decide +kernel
theorem dX3_findAll_25 : decode cX3_findAll 25 = .ok (.aload_n 0, 1) := by decide +kernel
theorem dX3_findAll_26 : decode cX3_findAll 26 = .ok (.aload_n 2, 1) := by decide +kernel
theorem dX3_findAll_27 : decode cX3_findAll 27 = .ok (.iload_n 3, 1) := by decide +kernel
theorem dX3_findAll_28 : decode cX3_findAll 28 = .ok (.iload 4, 2) := by decide +kernel
theorem dX3_findAll_30 : decode cX3_findAll 30 = .ok (.aload_n 1, 1) := by decide +kernel
theorem dX3_findAll_31 : decode cX3_findAll 31 = .ok (.invokevirtual 37, 3) := by decide +kernel
theorem dX3_findAll_34 : decode cX3_findAll 34 = .ok (.invokevirtual 40, 3) := by decide +kernel
theorem dX3_findAll_37 : decode cX3_findAll 37 = .ok (.iinc 4 1, 3) := by decide +kernel
theorem dX3_findAll_40 : decode cX3_findAll 40 = .ok (.goto (-24), 3) := by decide +kernel
theorem dX3_findAll_43 : decode cX3_findAll 43 = .ok (.iinc 3 1, 3) := by decide +kernel
theorem dX3_findAll_46 : decode cX3_findAll 46 = .ok (.goto (-39), 3) := by decide +kernel
theorem dX3_findAll_49 : decode cX3_findAll 49 = .ok (.iconst 0, 1) := by decide +kernel
theorem dX3_findAll_50 : decode cX3_findAll 50 = .ok (.istore_n 3, 1) := by decide +kernel
theorem dX3_findAll_51 : decode cX3_findAll 51 = .ok (.iload_n 3, 1) := by decide +kernel
theorem dX3_findAll_52 : decode cX3_findAll 52 = .ok (.aload_n 0, 1) := by decide +kernel
theorem dX3_findAll_53 : decode cX3_findAll 53 = .ok (.getfield 16, 3) := by decide +kernel
theorem dX3_findAll_56 : decode cX3_findAll 56 = .ok (.if_icmp .ge 80, 3) := by decide +kernel
theorem dX3_findAll_59 : decode cX3_findAll 59 = .ok (.aload_n 0, 1) := by decide +kernel
theorem dX3_findAll_60 : decode cX3_findAll 60 = .ok (.getfield 13, 3) := by decide +kernel
theorem dX3_findAll_63 : decode cX3_findAll 63 = .ok (.iconst 4, 1) := by decide +kernel
theorem dX3_findAll_64 : decode cX3_findAll 64 = .ok (.aaload, 1) := by decide +kernel
theorem dX3_findAll_65 : decode cX3_findAll 65 = .ok (.iload_n 3, 1) := by decide +kernel
theorem dX3_findAll_66 : decode cX3_findAll 66 = .ok (.aload_n 0, 1) := by decide +kernel
theorem dX3_findAll_67 : decode cX3_findAll 67 = .ok (.iload_n 3, 1) := by decide +kernel
theorem dX3_findAll_68 : decode cX3_findAll 68 = .ok (.invokevirtual 44, 3) := by decide +kernel
theorem dX3_findAll_71 : decode cX3_findAll 71 = .ok (.iastore, 1) := by decide +kernel
theorem dX3_findAll_72 : decode cX3_findAll 72 = .ok (.aload_n 0, 1) := by decide +kernel
theorem dX3_findAll_73 : decode cX3_findAll 73 = .ok (.getfield 13, 3) := by decide +kernel
theorem dX3_findAll_76 : decode cX3_findAll 76 = .ok (.iconst 5, 1) := by decide +kernel
theorem dX3_findAll_77 : decode cX3_findAll 77 = .ok (.aaload, 1) := by decide +kernel
theorem dX3_findAll_78 : decode cX3_findAll 78 = .ok (.iload_n 3, 1) := by decide +kernel
theorem dX3_findAll_79 : decode cX3_findAll 79 = .ok (.aload_n 0, 1) := by decide +kernel
theorem dX3_findAll_80 : decode cX3_findAll 80 = .ok (.aload_n 1, 1) := by decide +kernel
theorem dX3_findAll_81 : decode cX3_findAll 81 = .ok (.iload_n 3, 1) := by decide +kernel
theorem dX3_findAll_82 : decode cX3_findAll 82 = .ok (.invokevirtual 47, 3) := by decide +kernel
theorem dX3_findAll_85 : decode cX3_findAll 85 = .ok (.sipush 1000, 3) := by decide +kernel
theorem dX3_findAll_88 : decode cX3_findAll 88 = .ok (.iadd, 1) := by decide +kernel
theorem dX3_findAll_89 : decode cX3_findAll 89 = .ok (.iastore, 1) := by decide +kernel
theorem dX3_findAll_90 : decode cX3_findAll 90 = .ok (.aload_n 0, 1) := by decide +kernel
theorem dX3_findAll_91 : decode cX3_findAll 91 = .ok (.getfield 13, 3) := by decide +kernel
theorem dX3_findAll_94 : decode cX3_findAll 94 = .ok (.bipush 6, 2) := by decide +kernel
theorem dX3_findAll_96 : decode cX3_findAll 96 = .ok (.aaload, 1) := by decide +kernel
theorem dX3_findAll_97 : decode cX3_findAll 97 = .ok (.iload_n 3, 1) := by decide +kernel
theorem dX3_findAll_98 : decode cX3_findAll 98 = .ok (.aload_n 0, 1) := by decide +kernel
theorem dX3_findAll_99 : decode cX3_findAll 99 = .ok (.aload_n 1, 1) := by decide +kernel
theorem dX3_findAll_100 : decode cX3_findAll 100 = .ok (.iload_n 3, 1) := by decide +kernel
theorem dX3_findAll_101 : decode cX3_findAll 101 = .ok (.invokevirtual 51, 3) := by decide +kernel
theorem dX3_findAll_104 : decode cX3_findAll 104 = .ok (.iastore, 1) := by decide +kernel
theorem dX3_findAll_105 : decode cX3_findAll 105 = .ok (.aload_n 0, 1) := by decide +kernel
theorem dX3_findAll_106 : decode cX3_findAll 106 = .ok (.getfield 13, 3) := by decide +kernel
theorem dX3_findAll_109 : decode cX3_findAll 109 = .ok (.bipush 7, 2) := by decide +kernel
theorem dX3_findAll_111 : decode cX3_findAll 111 = .ok (.aaload, 1) := by decide +kernel
theorem dX3_findAll_112 : decode cX3_findAll 112 = .ok (.iload_n 3, 1) := by decide +kernel
theorem dX3_findAll_113 : decode cX3_findAll 113 = .ok (.aload_n 0, 1) := by decide +kernel
theorem dX3_findAll_114 : decode cX3_findAll 114 = .ok (.aload_n 1, 1) := by decide +kernel
theorem dX3_findAll_115 : decode cX3_findAll 115 = .ok (.iload_n 3, 1) := by decide +kernel
theorem dX3_findAll_116 : decode cX3_findAll 116 = .ok (.invokevirtual 54, 3) := by decide +kernel
theorem dX3_findAll_119 : decode cX3_findAll 119 = .ok (.iastore, 1) := by decide +kernel
theorem dX3_findAll_120 : decode cX3_findAll 120 = .ok (.aload_n 0, 1) := by decide +kernel
theorem dX3_findAll_121 : decode cX3_findAll 121 = .ok (.getfield 13, 3) := by decide +kernel
theorem dX3_findAll_124 : decode cX3_findAll 124 = .ok (.bipush 8, 2) := by decide +kernel
theorem dX3_findAll_126 : decode cX3_findAll 126 = .ok (.aaload, 1) := by decide +kernel
theorem dX3_findAll_127 : decode cX3_findAll 127 = .ok (.iload_n 3, 1) := by decide +kernel
theorem dX3_findAll_128 : decode cX3_findAll 128 = .ok (.iconst (-1), 1) := by decide +kernel
theorem dX3_findAll_129 : decode cX3_findAll 129 = .ok (.iastore, 1) := by decide +kernel
theorem dX3_findAll_130 : decode cX3_findAll 130 = .ok (.iinc 3 1, 3) := by decide +kernel
theorem dX3_findAll_133 : decode cX3_findAll 133 = .ok (.goto (-82), 3) := by decide +kernel
theorem dX3_findAll_136 : decode cX3_findAll 136 = .ok (.return_, 1) := by decide +kernel
theorem dX3_findAt_0 : decode cX3_findAt 0 = .ok (.iconst (-1), 1) := by decide +kernel
theorem dX3_findAt_1 : decode cX3_findAt 1 = .ok (.istore 5, 2) := by decide +kernel
theorem dX3_findAt_3 : decode cX3_findAt 3 = .ok (.iconst 0, 1) := by decide +kernel
theorem dX3_findAt_4 : decode cX3_findAt 4 = .ok (.istore 6, 2) := by decide +kernel
theorem dX3_findAt_6 : decode cX3_findAt 6 = .ok (.iload 6, 2) := by decide +kernel
theorem dX3_findAt_8 : decode cX3_findAt 8 = .ok (.iload 4, 2) := by decide +kernel
theorem dX3_findAt_10 : decode cX3_findAt 10 = .ok (.if_icmp .gt 78, 3) := by decide +kernel
theorem dX3_findAt_13 : decode cX3_findAt 13 = .ok (.iload 6, 2) := by decide +kernel
theorem dX3_findAt_15 : decode cX3_findAt 15 = .ok (.iload 4, 2) := by decide +kernel
theorem dX3_findAt_17 : decode cX3_findAt 17 = .ok (.if_icmp .ge 18, 3) := by decide +kernel
theorem dX3_findAt_20 : decode cX3_findAt 20 = .ok (.aload_n 1, 1) := by decide +kernel
theorem dX3_findAt_21 : decode cX3_findAt 21 = .ok (.iload_n 2, 1) := by decide +kernel
theorem dX3_findAt_22 : decode cX3_findAt 22 = .ok (.iload 6, 2) := by decide +kernel
theorem dX3_findAt_24 : decode cX3_findAt 24 = .ok (.invokevirtual 57, 3) := by decide +kernel
theorem dX3_findAt_27 : decode cX3_findAt 27 = .ok (.iload_n 3, 1) := by decide +kernel
theorem dX3_findAt_28 : decode cX3_findAt 28 = .ok (.if_icmp .lt 7, 3) := by decide +kernel
theorem dX3_findAt_31 : decode cX3_findAt 31 = .ok (.iconst 1, 1) := by decide +kernel
theorem dX3_findAt_32 : decode cX3_findAt 32 = .ok (.goto 4, 3) := by decide +kernel
theorem dX3_findAt_35 : decode cX3_findAt 35 = .ok (.iconst 0, 1) := by decide +kernel
theorem dX3_findAt_36 : decode cX3_findAt 36 = .ok (.istore 7, 2) := by decide +kernel
theorem dX3_findAt_38 : decode cX3_findAt 38 = .ok (.iload 7, 2) := by decide +kernel
theorem dX3_findAt_40 : decode cX3_findAt 40 = .ok (.ifCond .eq 16, 3) := by decide +kernel
theorem dX3_findAt_43 : decode cX3_findAt 43 = .ok (.iload 5, 2) := by decide +kernel
theorem dX3_findAt_45 : decode cX3_findAt 45 = .ok (.iconst (-1), 1) := by decide +kernel
theorem dX3_findAt_46 : decode cX3_findAt 46 = .ok (.if_icmp .ne 10, 3) := by decide +kernel
theorem dX3_findAt_49 : decode cX3_findAt 49 = .ok (.iload 6, 2) := by decide +kernel
theorem dX3_findAt_51 : decode cX3_findAt 51 = .ok (.istore 5, 2) := by decide +kernel
theorem dX3_findAt_53 : decode cX3_findAt 53 = .ok (.goto 29, 3) := by decide +kernel
theorem dX3_findAt_56 : decode cX3_findAt 56 = .ok (.iload 7, 2) := by decide +kernel
theorem dX3_findAt_58 : decode cX3_findAt 58 = .ok (.ifCond .ne 24, 3) := by decide +kernel
theorem dX3_findAt_61 : decode cX3_findAt 61 = .ok (.iload 5, 2) := by decide +kernel
theorem dX3_findAt_63 : decode cX3_findAt 63 = .ok (.iconst (-1), 1) := by decide +kernel
theorem dX3_findAt_64 : decode cX3_findAt 64 = .ok (.if_icmp .eq 18, 3) := by decide +kernel
theorem dX3_findAt_67 : decode cX3_findAt 67 = .ok (.aload_n 0, 1) := by decide +kernel
theorem dX3_findAt_68 : decode cX3_findAt 68 = .ok (.iload_n 2, 1) := by decide +kernel
theorem dX3_findAt_69 : decode cX3_findAt 69 = .ok (.iload_n 3, 1) := by decide +kernel
theorem dX3_findAt_70 : decode cX3_findAt 70 = .ok (.iload 5, 2) := by decide +kernel
theorem dX3_findAt_72 : decode cX3_findAt 72 = .ok (.iload 6, 2) := by decide +kernel
theorem dX3_findAt_74 : decode cX3_findAt 74 = .ok (.iconst 1, 1) := by decide +kernel
theorem dX3_findAt_75 : decode cX3_findAt 75 = .ok (.isub, 1) := by decide +kernel
theorem dX3_findAt_76 : decode cX3_findAt 76 = .ok (.invokevirtual 63, 3) := by decide +kernel
theorem dX3_findAt_79 : decode cX3_findAt 79 = .ok (.iconst (-1), 1) := by decide +kernel
theorem dX3_findAt_80 : decode cX3_findAt 80 = .ok (.istore 5, 2) := by decide +kernel
theorem dX3_findAt_82 : decode cX3_findAt 82 = .ok (.iinc 6 1, 3) := by decide +kernel
theorem dX3_findAt_85 : decode cX3_findAt 85 = .ok (.goto (-79), 3) := by decide +kernel
theorem dX3_findAt_88 : decode cX3_findAt 88 = .ok (.return_, 1) := by decide +kernel
theorem dX3_add_0 : decode cX3_add 0 = .ok (.aload_n 0, 1) := by decide +kernel
theorem dX3_add_1 : decode cX3_add 1 = .ok (.getfield 16, 3) := by decide +kernel
theorem dX3_add_4 : decode cX3_add 4 = .ok (.sipush 144, 3) := by decide +kernel
theorem dX3_add_7 : decode cX3_add 7 = .ok (.if_icmp .ge 62, 3) := by decide +kernel
theorem dX3_add_10 : decode cX3_add 10 = .ok (.aload_n 0, 1) := by decide +kernel
theorem dX3_add_11 : decode cX3_add 11 = .ok (.getfield 13, 3) := by decide +kernel
theorem dX3_add_14 : decode cX3_add 14 = .ok (.iconst 0, 1) := by decide +kernel
theorem dX3_add_15 : decode cX3_add 15 = .ok (.aaload, 1) := by decide +kernel
theorem dX3_add_16 : decode cX3_add 16 = .ok (.aload_n 0, 1) := by decide +kernel
theorem dX3_add_17 : decode cX3_add 17 = .ok (.getfield 16, 3) := by decide +kernel
theorem dX3_add_20 : decode cX3_add 20 = .ok (.iload_n 1, 1) := by decide +kernel
theorem dX3_add_21 : decode cX3_add 21 = .ok (.iastore, 1) := by decide +kernel
theorem dX3_add_22 : decode cX3_add 22 = .ok (.aload_n 0, 1) := by decide +kernel
theorem dX3_add_23 : decode cX3_add 23 = .ok (.getfield 13, 3) := by decide +kernel
theorem dX3_add_26 : decode cX3_add 26 = .ok (.iconst 1, 1) := by decide +kernel
theorem dX3_add_27 : decode cX3_add 27 = .ok (.aaload, 1) := by decide +kernel
theorem dX3_add_28 : decode cX3_add 28 = .ok (.aload_n 0, 1) := by decide +kernel
theorem dX3_add_29 : decode cX3_add 29 = .ok (.getfield 16, 3) := by decide +kernel
theorem dX3_add_32 : decode cX3_add 32 = .ok (.iload_n 2, 1) := by decide +kernel
theorem dX3_add_33 : decode cX3_add 33 = .ok (.iastore, 1) := by decide +kernel
theorem dX3_add_34 : decode cX3_add 34 = .ok (.aload_n 0, 1) := by decide +kernel
theorem dX3_add_35 : decode cX3_add 35 = .ok (.getfield 13, 3) := by decide +kernel
theorem dX3_add_38 : decode cX3_add 38 = .ok (.iconst 2, 1) := by decide +kernel
theorem dX3_add_39 : decode cX3_add 39 = .ok (.aaload, 1) := by decide +kernel
theorem dX3_add_40 : decode cX3_add 40 = .ok (.aload_n 0, 1) := by decide +kernel
theorem dX3_add_41 : decode cX3_add 41 = .ok (.getfield 16, 3) := by decide +kernel
theorem dX3_add_44 : decode cX3_add 44 = .ok (.iload_n 3, 1) := by decide +kernel
theorem dX3_add_45 : decode cX3_add 45 = .ok (.iastore, 1) := by decide +kernel
theorem dX3_add_46 : decode cX3_add 46 = .ok (.aload_n 0, 1) := by decide +kernel
theorem dX3_add_47 : decode cX3_add 47 = .ok (.getfield 13, 3) := by decide +kernel
theorem dX3_add_50 : decode cX3_add 50 = .ok (.iconst 3, 1) := by decide +kernel
theorem dX3_add_51 : decode cX3_add 51 = .ok (.aaload, 1) := by decide +kernel
theorem dX3_add_52 : decode cX3_add 52 = .ok (.aload_n 0, 1) := by decide +kernel
theorem dX3_add_53 : decode cX3_add 53 = .ok (.getfield 16, 3) := by decide +kernel
theorem dX3_add_56 : decode cX3_add 56 = .ok (.iload 4, 2) := by decide +kernel
theorem dX3_add_58 : decode cX3_add 58 = .ok (.iastore, 1) := by decide +kernel
theorem dX3_add_59 : decode cX3_add 59 = .ok (.aload_n 0, 1) := by decide +kernel
theorem dX3_add_60 : decode cX3_add 60 = .ok (.dup, 1) := by decide +kernel
theorem dX3_add_61 : decode cX3_add 61 = .ok (.getfield 16, 3) := by decide +kernel
theorem dX3_add_64 : decode cX3_add 64 = .ok (.iconst 1, 1) := by decide +kernel
theorem dX3_add_65 : decode cX3_add 65 = .ok (.iadd, 1) := by decide +kernel
theorem dX3_add_66 : decode cX3_add 66 = .ok (.putfield 16, 3) := by decide +kernel
theorem dX3_add_69 : decode cX3_add 69 = .ok (.return_, 1) := by decide +kernel
theorem dX3_around_0 : decode cX3_around 0 = .ok (.iconst 0, 1) := by decide +kernel
theorem dX3_around_1 : decode cX3_around 1 = .ok (.istore_n 2, 1) := by decide +kernel
theorem dX3_around_2 : decode cX3_around 2 = .ok (.iload_n 2, 1) := by decide +kernel
theorem dX3_around_3 : decode cX3_around 3 = .ok (.iload_n 1, 1) := by decide +kernel
theorem dX3_around_4 : decode cX3_around 4 = .ok (.if_icmp .ge 67, 3) := by decide +kernel
theorem dX3_around_7 : decode cX3_around 7 = .ok (.aload_n 0, 1) := by decide +kernel
theorem dX3_around_8 : decode cX3_around 8 = .ok (.getfield 13, 3) := by decide +kernel
theorem dX3_around_11 : decode cX3_around 11 = .ok (.iconst 0, 1) := by decide +kernel
theorem dX3_around_12 : decode cX3_around 12 = .ok (.aaload, 1) := by decide +kernel
theorem dX3_around_13 : decode cX3_around 13 = .ok (.iload_n 2, 1) := by decide +kernel
theorem dX3_around_14 : decode cX3_around 14 = .ok (.iaload, 1) := by decide +kernel
theorem dX3_around_15 : decode cX3_around 15 = .ok (.aload_n 0, 1) := by decide +kernel
theorem dX3_around_16 : decode cX3_around 16 = .ok (.getfield 13, 3) := by decide +kernel
theorem dX3_around_19 : decode cX3_around 19 = .ok (.iconst 0, 1) := by decide +kernel
theorem dX3_around_20 : decode cX3_around 20 = .ok (.aaload, 1) := by decide +kernel
theorem dX3_around_21 : decode cX3_around 21 = .ok (.iload_n 1, 1) := by decide +kernel
theorem dX3_around_22 : decode cX3_around 22 = .ok (.iaload, 1) := by decide +kernel
theorem dX3_around_23 : decode cX3_around 23 = .ok (.if_icmp .ne 42, 3) := by decide +kernel
theorem dX3_around_26 : decode cX3_around 26 = .ok (.aload_n 0, 1) := by decide +kernel
theorem dX3_around_27 : decode cX3_around 27 = .ok (.getfield 13, 3) := by decide +kernel
theorem dX3_around_30 : decode cX3_around 30 = .ok (.iconst 1, 1) := by decide +kernel
theorem dX3_around_31 : decode cX3_around 31 = .ok (.aaload, 1) := by decide +kernel
theorem dX3_around_32 : decode cX3_around 32 = .ok (.iload_n 2, 1) := by decide +kernel
theorem dX3_around_33 : decode cX3_around 33 = .ok (.iaload, 1) := by decide +kernel
theorem dX3_around_34 : decode cX3_around 34 = .ok (.aload_n 0, 1) := by decide +kernel
theorem dX3_around_35 : decode cX3_around 35 = .ok (.getfield 13, 3) := by decide +kernel
theorem dX3_around_38 : decode cX3_around 38 = .ok (.iconst 1, 1) := by decide +kernel
theorem dX3_around_39 : decode cX3_around 39 = .ok (.aaload, 1) := by decide +kernel
theorem dX3_around_40 : decode cX3_around 40 = .ok (.iload_n 1, 1) := by decide +kernel
theorem dX3_around_41 : decode cX3_around 41 = .ok (.iaload, 1) := by decide +kernel
theorem dX3_around_42 : decode cX3_around 42 = .ok (.iconst 1, 1) := by decide +kernel
theorem dX3_around_43 : decode cX3_around 43 = .ok (.isub, 1) := by decide +kernel
theorem dX3_around_44 : decode cX3_around 44 = .ok (.if_icmp .ne 21, 3) := by decide +kernel
theorem dX3_around_47 : decode cX3_around 47 = .ok (.aload_n 0, 1) := by decide +kernel
theorem dX3_around_48 : decode cX3_around 48 = .ok (.iload_n 2, 1) := by decide +kernel
theorem dX3_around_49 : decode cX3_around 49 = .ok (.aload_n 0, 1) := by decide +kernel
theorem dX3_around_50 : decode cX3_around 50 = .ok (.getfield 13, 3) := by decide +kernel
theorem dX3_around_53 : decode cX3_around 53 = .ok (.iconst 2, 1) := by decide +kernel
theorem dX3_around_54 : decode cX3_around 54 = .ok (.aaload, 1) := by decide +kernel
theorem dX3_around_55 : decode cX3_around 55 = .ok (.iload_n 1, 1) := by decide +kernel
theorem dX3_around_56 : decode cX3_around 56 = .ok (.iaload, 1) := by decide +kernel
theorem dX3_around_57 : decode cX3_around 57 = .ok (.invokevirtual 67, 3) := by decide +kernel
theorem dX3_around_60 : decode cX3_around 60 = .ok (.ifCond .eq 5, 3) := by decide +kernel
theorem dX3_around_63 : decode cX3_around 63 = .ok (.iload_n 2, 1) := by decide +kernel
theorem dX3_around_64 : decode cX3_around 64 = .ok (.ireturn, 1) := by decide +kernel
theorem dX3_around_65 : decode cX3_around 65 = .ok (.iinc 2 1, 3) := by decide +kernel
theorem dX3_around_68 : decode cX3_around 68 = .ok (.goto (-66), 3) := by decide +kernel
theorem dX3_around_71 : decode cX3_around 71 = .ok (.iconst (-1), 1) := by decide +kernel
theorem dX3_around_72 : decode cX3_around 72 = .ok (.ireturn, 1) := by decide +kernel
theorem dX3_weightOf_0 : decode cX3_weightOf 0 = .ok (.aload_n 0, 1) := by decide +kernel
theorem dX3_weightOf_1 : decode cX3_weightOf 1 = .ok (.getfield 13, 3) := by decide +kernel
theorem dX3_weightOf_4 : decode cX3_weightOf 4 = .ok (.iconst 0, 1) := by decide +kernel
theorem dX3_weightOf_5 : decode cX3_weightOf 5 = .ok (.aaload, 1) := by decide +kernel
theorem dX3_weightOf_6 : decode cX3_weightOf 6 = .ok (.iload_n 2, 1) := by decide +kernel
theorem dX3_weightOf_7 : decode cX3_weightOf 7 = .ok (.iaload, 1) := by decide +kernel
theorem dX3_weightOf_8 : decode cX3_weightOf 8 = .ok (.istore_n 3, 1) := by decide +kernel
theorem dX3_weightOf_9 : decode cX3_weightOf 9 = .ok (.aload_n 0, 1) := by decide +kernel
theorem dX3_weightOf_10 : decode cX3_weightOf 10 = .ok (.getfield 13, 3) := by decide +kernel
theorem dX3_weightOf_13 : decode cX3_weightOf 13 = .ok (.iconst 1, 1) := by decide +kernel
theorem dX3_weightOf_14 : decode cX3_weightOf 14 = .ok (.aaload, 1) := by decide +kernel
theorem dX3_weightOf_15 : decode cX3_weightOf 15 = .ok (.iload_n 2, 1) := by decide +kernel
theorem dX3_weightOf_16 : decode cX3_weightOf 16 = .ok (.iaload, 1) := by decide +kernel
theorem dX3_weightOf_17 : decode cX3_weightOf 17 = .ok (.istore 4, 2) := by decide +kernel
theorem dX3_weightOf_19 : decode cX3_weightOf 19 = .ok (.iconst 0, 1) := by decide +kernel
theorem dX3_weightOf_20 : decode cX3_weightOf 20 = .ok (.istore 5, 2) := by decide +kernel
theorem dX3_weightOf_22 : decode cX3_weightOf 22 = .ok (.aload_n 0, 1) := by decide +kernel
theorem dX3_weightOf_23 : decode cX3_weightOf 23 = .ok (.getfield 13, 3) := by decide +kernel
theorem dX3_weightOf_26 : decode cX3_weightOf 26 = .ok (.iconst 2, 1) := by decide +kernel
theorem dX3_weightOf_27 : decode cX3_weightOf 27 = .ok (.aaload, 1) := by decide +kernel
theorem dX3_weightOf_28 : decode cX3_weightOf 28 = .ok (.iload_n 2, 1) := by decide +kernel
theorem dX3_weightOf_29 : decode cX3_weightOf 29 = .ok (.iaload, 1) := by decide +kernel
theorem dX3_weightOf_30 : decode cX3_weightOf 30 = .ok (.istore 6, 2) := by decide +kernel
theorem dX3_weightOf_32 : decode cX3_weightOf 32 = .ok (.iload 6, 2) := by decide +kernel
theorem dX3_weightOf_34 : decode cX3_weightOf 34 = .ok (.aload_n 0, 1) := by decide +kernel
theorem dX3_weightOf_35 : decode cX3_weightOf 35 = .ok (.getfield 13, 3) := by decide +kernel
theorem dX3_weightOf_38 : decode cX3_weightOf 38 = .ok (.iconst 3, 1) := by decide +kernel
theorem dX3_weightOf_39 : decode cX3_weightOf 39 = .ok (.aaload, 1) := by decide +kernel
theorem dX3_weightOf_40 : decode cX3_weightOf 40 = .ok (.iload_n 2, 1) := by decide +kernel
theorem dX3_weightOf_41 : decode cX3_weightOf 41 = .ok (.iaload, 1) := by decide +kernel
theorem dX3_weightOf_42 : decode cX3_weightOf 42 = .ok (.if_icmp .gt 35, 3) := by decide +kernel
theorem dX3_weightOf_45 : decode cX3_weightOf 45 = .ok (.iload 5, 2) := by decide +kernel
theorem dX3_weightOf_47 : decode cX3_weightOf 47 = .ok (.aload_n 1, 1) := by decide +kernel
theorem dX3_weightOf_48 : decode cX3_weightOf 48 = .ok (.iload_n 3, 1) := by decide +kernel
theorem dX3_weightOf_49 : decode cX3_weightOf 49 = .ok (.iload 6, 2) := by decide +kernel
theorem dX3_weightOf_51 : decode cX3_weightOf 51 = .ok (.iload 4, 2) := by decide +kernel
theorem dX3_weightOf_53 : decode cX3_weightOf 53 = .ok (.iconst 1, 1) := by decide +kernel
theorem dX3_weightOf_54 : decode cX3_weightOf 54 = .ok (.isub, 1) := by decide +kernel
theorem dX3_weightOf_55 : decode cX3_weightOf 55 = .ok (.invokevirtual 71, 3) := by decide +kernel
theorem dX3_weightOf_58 : decode cX3_weightOf 58 = .ok (.aload_n 1, 1) := by decide +kernel
theorem dX3_weightOf_59 : decode cX3_weightOf 59 = .ok (.iload_n 3, 1) := by decide +kernel
theorem dX3_weightOf_60 : decode cX3_weightOf 60 = .ok (.iload 6, 2) := by decide +kernel
theorem dX3_weightOf_62 : decode cX3_weightOf 62 = .ok (.iload 4, 2) := by decide +kernel
theorem dX3_weightOf_64 : decode cX3_weightOf 64 = .ok (.invokevirtual 71, 3) := by decide +kernel
theorem dX3_weightOf_67 : decode cX3_weightOf 67 = .ok (.isub, 1) := by decide +kernel
theorem dX3_weightOf_68 : decode cX3_weightOf 68 = .ok (.iadd, 1) := by decide +kernel
theorem dX3_weightOf_69 : decode cX3_weightOf 69 = .ok (.istore 5, 2) := by decide +kernel
theorem dX3_weightOf_71 : decode cX3_weightOf 71 = .ok (.iinc 6 1, 3) := by decide +kernel
theorem dX3_weightOf_74 : decode cX3_weightOf 74 = .ok (.goto (-42), 3) := by decide +kernel
theorem dX3_weightOf_77 : decode cX3_weightOf 77 = .ok (.iload 5, 2) := by decide +kernel
theorem dX3_weightOf_79 : decode cX3_weightOf 79 = .ok (.ireturn, 1) := by decide +kernel
theorem dX3_peakOf_0 : decode cX3_peakOf 0 = .ok (.aload_n 0, 1) := by decide +kernel
theorem dX3_peakOf_1 : decode cX3_peakOf 1 = .ok (.getfield 13, 3) := by decide +kernel
theorem dX3_peakOf_4 : decode cX3_peakOf 4 = .ok (.iconst 0, 1) := by decide +kernel
theorem dX3_peakOf_5 : decode cX3_peakOf 5 = .ok (.aaload, 1) := by decide +kernel
theorem dX3_peakOf_6 : decode cX3_peakOf 6 = .ok (.iload_n 2, 1) := by decide +kernel
theorem dX3_peakOf_7 : decode cX3_peakOf 7 = .ok (.iaload, 1) := by decide +kernel
theorem dX3_peakOf_8 : decode cX3_peakOf 8 = .ok (.istore_n 3, 1) := by decide +kernel
theorem dX3_peakOf_9 : decode cX3_peakOf 9 = .ok (.aload_n 0, 1) := by decide +kernel
theorem dX3_peakOf_10 : decode cX3_peakOf 10 = .ok (.getfield 13, 3) := by decide +kernel
theorem dX3_peakOf_13 : decode cX3_peakOf 13 = .ok (.iconst 2, 1) := by decide +kernel
theorem dX3_peakOf_14 : decode cX3_peakOf 14 = .ok (.aaload, 1) := by decide +kernel
theorem dX3_peakOf_15 : decode cX3_peakOf 15 = .ok (.iload_n 2, 1) := by decide +kernel
theorem dX3_peakOf_16 : decode cX3_peakOf 16 = .ok (.iaload, 1) := by decide +kernel
theorem dX3_peakOf_17 : decode cX3_peakOf 17 = .ok (.istore 4, 2) := by decide +kernel
theorem dX3_peakOf_19 : decode cX3_peakOf 19 = .ok (.iload 4, 2) := by decide +kernel
theorem dX3_peakOf_21 : decode cX3_peakOf 21 = .ok (.iconst 1, 1) := by decide +kernel
theorem dX3_peakOf_22 : decode cX3_peakOf 22 = .ok (.iadd, 1) := by decide +kernel
theorem dX3_peakOf_23 : decode cX3_peakOf 23 = .ok (.istore 5, 2) := by decide +kernel
theorem dX3_peakOf_25 : decode cX3_peakOf 25 = .ok (.iload 5, 2) := by decide +kernel
theorem dX3_peakOf_27 : decode cX3_peakOf 27 = .ok (.aload_n 0, 1) := by decide +kernel
theorem dX3_peakOf_28 : decode cX3_peakOf 28 = .ok (.getfield 13, 3) := by decide +kernel
theorem dX3_peakOf_31 : decode cX3_peakOf 31 = .ok (.iconst 3, 1) := by decide +kernel
theorem dX3_peakOf_32 : decode cX3_peakOf 32 = .ok (.aaload, 1) := by decide +kernel
theorem dX3_peakOf_33 : decode cX3_peakOf 33 = .ok (.iload_n 2, 1) := by decide +kernel
theorem dX3_peakOf_34 : decode cX3_peakOf 34 = .ok (.iaload, 1) := by decide +kernel
theorem dX3_peakOf_35 : decode cX3_peakOf 35 = .ok (.if_icmp .gt 30, 3) := by decide +kernel
theorem dX3_peakOf_38 : decode cX3_peakOf 38 = .ok (.aload_n 1, 1) := by decide +kernel
theorem dX3_peakOf_39 : decode cX3_peakOf 39 = .ok (.iload_n 3, 1) := by decide +kernel
theorem dX3_peakOf_40 : decode cX3_peakOf 40 = .ok (.iload 5, 2) := by decide +kernel
theorem dX3_peakOf_42 : decode cX3_peakOf 42 = .ok (.invokevirtual 75, 3) := by decide +kernel
theorem dX3_peakOf_45 : decode cX3_peakOf 45 = .ok (.aload_n 1, 1) := by decide +kernel
theorem dX3_peakOf_46 : decode cX3_peakOf 46 = .ok (.iload_n 3, 1) := by decide +kernel
theorem dX3_peakOf_47 : decode cX3_peakOf 47 = .ok (.iload 4, 2) := by decide +kernel
theorem dX3_peakOf_49 : decode cX3_peakOf 49 = .ok (.invokevirtual 75, 3) := by decide +kernel
theorem dX3_peakOf_52 : decode cX3_peakOf 52 = .ok (.if_icmp .le 7, 3) := by decide +kernel
theorem dX3_peakOf_55 : decode cX3_peakOf 55 = .ok (.iload 5, 2) := by decide +kernel
theorem dX3_peakOf_57 : decode cX3_peakOf 57 = .ok (.istore 4, 2) := by decide +kernel
theorem dX3_peakOf_59 : decode cX3_peakOf 59 = .ok (.iinc 5 1, 3) := by decide +kernel
theorem dX3_peakOf_62 : decode cX3_peakOf 62 = .ok (.goto (-37), 3) := by decide +kernel
theorem dX3_peakOf_65 : decode cX3_peakOf 65 = .ok (.iload 4, 2) := by decide +kernel
theorem dX3_peakOf_67 : decode cX3_peakOf 67 = .ok (.ireturn, 1) := by decide +kernel
theorem dX3_fadeOf_0 : decode cX3_fadeOf 0 = .ok (.aload_n 0, 1) := by decide +kernel
theorem dX3_fadeOf_1 : decode cX3_fadeOf 1 = .ok (.getfield 13, 3) := by decide +kernel
theorem dX3_fadeOf_4 : decode cX3_fadeOf 4 = .ok (.iconst 0, 1) := by decide +kernel
theorem dX3_fadeOf_5 : decode cX3_fadeOf 5 = .ok (.aaload, 1) := by decide +kernel
theorem dX3_fadeOf_6 : decode cX3_fadeOf 6 = .ok (.iload_n 2, 1) := by decide +kernel
theorem dX3_fadeOf_7 : decode cX3_fadeOf 7 = .ok (.iaload, 1) := by decide +kernel
theorem dX3_fadeOf_8 : decode cX3_fadeOf 8 = .ok (.istore_n 3, 1) := by decide +kernel
theorem dX3_fadeOf_9 : decode cX3_fadeOf 9 = .ok (.aload_n 1, 1) := by decide +kernel
theorem dX3_fadeOf_10 : decode cX3_fadeOf 10 = .ok (.iload_n 3, 1) := by decide +kernel
theorem dX3_fadeOf_11 : decode cX3_fadeOf 11 = .ok (.aload_n 0, 1) := by decide +kernel
theorem dX3_fadeOf_12 : decode cX3_fadeOf 12 = .ok (.getfield 13, 3) := by decide +kernel
theorem dX3_fadeOf_15 : decode cX3_fadeOf 15 = .ok (.bipush 6, 2) := by decide +kernel
theorem dX3_fadeOf_17 : decode cX3_fadeOf 17 = .ok (.aaload, 1) := by decide +kernel
theorem dX3_fadeOf_18 : decode cX3_fadeOf 18 = .ok (.iload_n 2, 1) := by decide +kernel
theorem dX3_fadeOf_19 : decode cX3_fadeOf 19 = .ok (.iaload, 1) := by decide +kernel
theorem dX3_fadeOf_20 : decode cX3_fadeOf 20 = .ok (.invokevirtual 75, 3) := by decide +kernel
theorem dX3_fadeOf_23 : decode cX3_fadeOf 23 = .ok (.aload_n 1, 1) := by decide +kernel
theorem dX3_fadeOf_24 : decode cX3_fadeOf 24 = .ok (.iload_n 3, 1) := by decide +kernel
theorem dX3_fadeOf_25 : decode cX3_fadeOf 25 = .ok (.aload_n 0, 1) := by decide +kernel
theorem dX3_fadeOf_26 : decode cX3_fadeOf 26 = .ok (.getfield 13, 3) := by decide +kernel
theorem dX3_fadeOf_29 : decode cX3_fadeOf 29 = .ok (.iconst 3, 1) := by decide +kernel
theorem dX3_fadeOf_30 : decode cX3_fadeOf 30 = .ok (.aaload, 1) := by decide +kernel
theorem dX3_fadeOf_31 : decode cX3_fadeOf 31 = .ok (.iload_n 2, 1) := by decide +kernel
theorem dX3_fadeOf_32 : decode cX3_fadeOf 32 = .ok (.iaload, 1) := by decide +kernel
theorem dX3_fadeOf_33 : decode cX3_fadeOf 33 = .ok (.invokevirtual 75, 3) := by decide +kernel
theorem dX3_fadeOf_36 : decode cX3_fadeOf 36 = .ok (.isub, 1) := by decide +kernel
theorem dX3_fadeOf_37 : decode cX3_fadeOf 37 = .ok (.ireturn, 1) := by decide +kernel
theorem dX4_init_0 : decode cX4_init 0 = .ok (.aload_n 0, 1) := by decide +kernel
theorem dX4_init_1 : decode cX4_init 1 = .ok (.invokespecial 1, 3) := by decide +kernel
theorem dX4_init_4 : decode cX4_init 4 = .ok (.aload_n 0, 1) := by decide +kernel
theorem dX4_init_5 : decode cX4_init 5 = .ok (.new 7, 3) := by decide +kernel
theorem dX4_init_8 : decode cX4_init 8 = .ok (.dup, 1) := by decide +kernel
theorem dX4_init_9 : decode cX4_init 9 = .ok (.invokespecial 9, 3) := by decide +kernel
theorem dX4_init_12 : decode cX4_init 12 = .ok (.putfield 10, 3) := by decide +kernel
theorem dX4_init_15 : decode cX4_init 15 = .ok (.aload_n 0, 1) := by decide +kernel
theorem dX4_init_16 : decode cX4_init 16 = .ok (.iconst 0, 1) := by decide +kernel
theorem dX4_init_17 : decode cX4_init 17 = .ok (.putfield 16, 3) := by decide +kernel
theorem dX4_init_20 : decode cX4_init 20 = .ok (.aload_n 0, 1) := by decide +kernel
theorem dX4_init_21 : decode cX4_init 21 = .ok (.iconst 0, 1) := by decide +kernel
theorem dX4_init_22 : decode cX4_init 22 = .ok (.putfield 20, 3) := by decide +kernel
theorem dX4_init_25 : decode cX4_init 25 = .ok (.return_, 1) := by decide +kernel
theorem dX4_hold_0 : decode cX4_hold 0 = .ok (.aload_n 0, 1) := by decide +kernel
theorem dX4_hold_1 : decode cX4_hold 1 = .ok (.getfield 10, 3) := by decide +kernel
theorem dX4_hold_4 : decode cX4_hold 4 = .ok (.aload_n 1, 1) := by decide +kernel
theorem dX4_hold_5 : decode cX4_hold 5 = .ok (.invokevirtual 24, 3) := by decide +kernel
theorem dX4_hold_8 : decode cX4_hold 8 = .ok (.aload_n 0, 1) := by decide +kernel
theorem dX4_hold_9 : decode cX4_hold 9 = .ok (.iload_n 2, 1) := by decide +kernel
theorem dX4_hold_10 : decode cX4_hold 10 = .ok (.putfield 16, 3) := by decide +kernel
theorem dX4_hold_13 : decode cX4_hold 13 = .ok (.aload_n 0, 1) := by decide +kernel
theorem dX4_hold_14 : decode cX4_hold 14 = .ok (.iconst 1, 1) := by decide +kernel
theorem dX4_hold_15 : decode cX4_hold 15 = .ok (.putfield 20, 3) := by decide +kernel
theorem dX4_hold_18 : decode cX4_hold 18 = .ok (.return_, 1) := by decide +kernel
theorem dX4_isHeld_0 : decode cX4_isHeld 0 = .ok (.aload_n 0, 1) := by decide +kernel
theorem dX4_isHeld_1 : decode cX4_isHeld 1 = .ok (.getfield 20, 3) := by decide +kernel
theorem dX4_isHeld_4 : decode cX4_isHeld 4 = .ok (.ireturn, 1) := by decide +kernel
theorem dX4_heldNews_0 : decode cX4_heldNews 0 = .ok (.aload_n 0, 1) := by decide +kernel
theorem dX4_heldNews_1 : decode cX4_heldNews 1 = .ok (.getfield 10, 3) := by decide +kernel
theorem dX4_heldNews_4 : decode cX4_heldNews 4 = .ok (.areturn, 1) := by decide +kernel
theorem dX4_heldSeed_0 : decode cX4_heldSeed 0 = .ok (.aload_n 0, 1) := by decide +kernel
theorem dX4_heldSeed_1 : decode cX4_heldSeed 1 = .ok (.getfield 16, 3) := by decide +kernel
theorem dX4_heldSeed_4 : decode cX4_heldSeed 4 = .ok (.ireturn, 1) := by decide +kernel
theorem dX5_init_0 : decode cX5_init 0 = .ok (.aload_n 0, 1) := by decide +kernel
theorem dX5_init_1 : decode cX5_init 1 = .ok (.invokespecial 3, 3) := by decide +kernel
theorem dX5_init_4 : decode cX5_init 4 = .ok (.aload_n 0, 1) := by decide +kernel
theorem dX5_init_5 : decode cX5_init 5 = .ok (.bipush 8, 2) := by decide +kernel
theorem dX5_init_7 : decode cX5_init 7 = .ok (.bipush 12, 2) := by decide +kernel
theorem dX5_init_9 : decode cX5_init 9 = .ok (.multianewarray 9 2, 4) := by decide +kernel
theorem dX5_init_13 : decode cX5_init 13 = .ok (.putfield 11, 3) := by decide +kernel
theorem dX5_init_16 : decode cX5_init 16 = .ok (.aload_n 0, 1) := by decide +kernel
theorem dX5_init_17 : decode cX5_init 17 = .ok (.bipush 8, 2) := by decide +kernel
theorem dX5_init_19 : decode cX5_init 19 = .ok (.newarray .int, 2) := by decide +kernel
theorem dX5_init_21 : decode cX5_init 21 = .ok (.putfield 16, 3) := by decide +kernel
theorem dX5_init_24 : decode cX5_init 24 = .ok (.aload_n 0, 1) := by decide +kernel
theorem dX5_init_25 : decode cX5_init 25 = .ok (.bipush 12, 2) := by decide +kernel
theorem dX5_init_27 : decode cX5_init 27 = .ok (.iconst 4, 1) := by decide +kernel
theorem dX5_init_28 : decode cX5_init 28 = .ok (.multianewarray 9 2, 4) := by decide +kernel
theorem dX5_init_32 : decode cX5_init 32 = .ok (.putfield 20, 3) := by decide +kernel
theorem dX5_init_35 : decode cX5_init 35 = .ok (.return_, 1) := by decide +kernel
theorem dX5_findAll_0 : decode cX5_findAll 0 = .ok (.iconst 0, 1) := by decide +kernel
theorem dX5_findAll_1 : decode cX5_findAll 1 = .ok (.istore_n 2, 1) := by decide +kernel
theorem dX5_findAll_2 : decode cX5_findAll 2 = .ok (.iload_n 2, 1) := by decide +kernel
theorem dX5_findAll_3 : decode cX5_findAll 3 = .ok (.bipush 8, 2) := by decide +kernel
theorem dX5_findAll_5 : decode cX5_findAll 5 = .ok (.if_icmp .ge 41, 3) := by decide +kernel
theorem dX5_findAll_8 : decode cX5_findAll 8 = .ok (.aload_n 0, 1) := by decide +kernel
theorem dX5_findAll_9 : decode cX5_findAll 9 = .ok (.aload_n 1, 1) := by decide +kernel
theorem dX5_findAll_10 : decode cX5_findAll 10 = .ok (.iload_n 2, 1) := by decide +kernel
theorem dX5_findAll_11 : decode cX5_findAll 11 = .ok (.invokevirtual 23, 3) := by decide +kernel
theorem dX5_findAll_14 : decode cX5_findAll 14 = .ok (.aload_n 0, 1) := by decide +kernel
theorem dX5_findAll_15 : decode cX5_findAll 15 = .ok (.getfield 16, 3) := by decide +kernel
theorem dX5_findAll_18 : decode cX5_findAll 18 = .ok (.iload_n 2, 1) := by decide +kernel
theorem dX5_findAll_19 : decode cX5_findAll 19 = .ok (.aload_n 0, 1) := by decide +kernel
theorem dX5_findAll_20 : decode cX5_findAll 20 = .ok (.aload_n 1, 1) := by decide +kernel
theorem dX5_findAll_21 : decode cX5_findAll 21 = .ok (.iconst 0, 1) := by decide +kernel
theorem dX5_findAll_22 : decode cX5_findAll 22 = .ok (.iconst 0, 1) := by decide +kernel
theorem dX5_findAll_23 : decode cX5_findAll 23 = .ok (.aload_n 0, 1) := by decide +kernel
theorem dX5_findAll_24 : decode cX5_findAll 24 = .ok (.aload_n 1, 1) := by decide +kernel
theorem dX5_findAll_25 : decode cX5_findAll 25 = .ok (.iconst 0, 1) := by decide +kernel
theorem dX5_findAll_26 : decode cX5_findAll 26 = .ok (.iconst 0, 1) := by decide +kernel
theorem dX5_findAll_27 : decode cX5_findAll 27 = .ok (.invokevirtual 27, 3) := by decide +kernel
theorem dX5_findAll_30 : decode cX5_findAll 30 = .ok (.invokevirtual 31, 3) := by decide +kernel
theorem dX5_findAll_33 : decode cX5_findAll 33 = .ok (.iastore, 1) := by decide +kernel
theorem dX5_findAll_34 : decode cX5_findAll 34 = .ok (.aload_n 0, 1) := by decide +kernel
theorem dX5_findAll_35 : decode cX5_findAll 35 = .ok (.aload_n 1, 1) := by decide +kernel
theorem dX5_findAll_36 : decode cX5_findAll 36 = .ok (.iload_n 2, 1) := by decide +kernel
theorem dX5_findAll_37 : decode cX5_findAll 37 = .ok (.invokevirtual 35, 3) := by decide +kernel
theorem dX5_findAll_40 : decode cX5_findAll 40 = .ok (.iinc 2 1, 3) := by decide +kernel
theorem dX5_findAll_43 : decode cX5_findAll 43 = .ok (.goto (-41), 3) := by decide +kernel
theorem dX5_findAll_46 : decode cX5_findAll 46 = .ok (.return_, 1) := by decide +kernel
theorem dX5_of_0 : decode cX5_of 0 = .ok (.iload_n 1, 1) := by decide +kernel
theorem dX5_of_1 : decode cX5_of 1 = .ok (.invokestatic 38, 3) := by decide +kernel
theorem dX5_of_4 : decode cX5_of 4 = .ok (.ifCond .eq 21, 3) := by decide +kernel
theorem dX5_of_7 : decode cX5_of 7 = .ok (.iload_n 2, 1) := by decide +kernel
theorem dX5_of_8 : decode cX5_of 8 = .ok (.invokestatic 42, 3) := by decide +kernel
theorem dX5_of_11 : decode cX5_of 11 = .ok (.ifCond .eq 14, 3) := by decide +kernel
theorem dX5_of_14 : decode cX5_of 14 = .ok (.aload_n 0, 1) := by decide +kernel
theorem dX5_of_15 : decode cX5_of 15 = .ok (.getfield 11, 3) := by decide +kernel
theorem dX5_of_18 : decode cX5_of 18 = .ok (.iload_n 1, 1) := by decide +kernel
theorem dX5_of_19 : decode cX5_of 19 = .ok (.aaload, 1) := by decide +kernel
theorem dX5_of_20 : decode cX5_of 20 = .ok (.iload_n 2, 1) := by decide +kernel
theorem dX5_of_21 : decode cX5_of 21 = .ok (.iaload, 1) := by decide +kernel
theorem dX5_of_22 : decode cX5_of 22 = .ok (.goto 4, 3) := by decide +kernel
theorem dX5_of_25 : decode cX5_of 25 = .ok (.iconst 0, 1) := by decide +kernel
theorem dX5_of_26 : decode cX5_of 26 = .ok (.ireturn, 1) := by decide +kernel
theorem dX5_costOf_0 : decode cX5_costOf 0 = .ok (.iload_n 1, 1) := by decide +kernel
theorem dX5_costOf_1 : decode cX5_costOf 1 = .ok (.invokestatic 38, 3) := by decide +kernel
theorem dX5_costOf_4 : decode cX5_costOf 4 = .ok (.ifCond .eq 12, 3) := by decide +kernel
theorem dX5_costOf_7 : decode cX5_costOf 7 = .ok (.aload_n 0, 1) := by decide +kernel
theorem dX5_costOf_8 : decode cX5_costOf 8 = .ok (.getfield 16, 3) := by decide +kernel
theorem dX5_costOf_11 : decode cX5_costOf 11 = .ok (.iload_n 1, 1) := by decide +kernel
theorem dX5_costOf_12 : decode cX5_costOf 12 = .ok (.iaload, 1) := by decide +kernel
theorem dX5_costOf_13 : decode cX5_costOf 13 = .ok (.goto 4, 3) := by decide +kernel
theorem dX5_costOf_16 : decode cX5_costOf 16 = .ok (.iconst 0, 1) := by decide +kernel
theorem dX5_costOf_17 : decode cX5_costOf 17 = .ok (.ireturn, 1) := by decide +kernel
theorem dX5_costRests_0 : decode cX5_costRests 0 = .ok (.aload_n 1, 1) := by decide +kernel
theorem dX5_costRests_1 : decode cX5_costRests 1 = .ok (.invokevirtual 47, 3) := by decide +kernel
theorem dX5_costRests_4 : decode cX5_costRests 4 = .ok (.iconst 1, 1) := by decide +kernel
theorem dX5_costRests_5 : decode cX5_costRests 5 = .ok (.isub, 1) := by decide +kernel
theorem dX5_costRests_6 : decode cX5_costRests 6 = .ok (.istore_n 3, 1) := by decide +kernel
theorem dX5_costRests_7 : decode cX5_costRests 7 = .ok (.iload_n 3, 1) := by decide +kernel
theorem dX5_costRests_8 : decode cX5_costRests 8 = .ok (.istore 4, 2) := by decide +kernel
theorem dX5_costRests_10 : decode cX5_costRests 10 = .ok (.iload 4, 2) := by decide +kernel
theorem dX5_costRests_12 : decode cX5_costRests 12 = .ok (.ifCond .lt 83, 3) := by decide +kernel
theorem dX5_costRests_15 : decode cX5_costRests 15 = .ok (.iconst 0, 1) := by decide +kernel
theorem dX5_costRests_16 : decode cX5_costRests 16 = .ok (.istore 5, 2) := by decide +kernel
theorem dX5_costRests_18 : decode cX5_costRests 18 = .ok (.iload 5, 2) := by decide +kernel
theorem dX5_costRests_20 : decode cX5_costRests 20 = .ok (.aload_n 1, 1) := by decide +kernel
theorem dX5_costRests_21 : decode cX5_costRests 21 = .ok (.invokevirtual 51, 3) := by decide +kernel
theorem dX5_costRests_24 : decode cX5_costRests 24 = .ok (.if_icmp .gt 65, 3) := by decide +kernel
theorem dX5_costRests_27 : decode cX5_costRests 27 = .ok (.iload 4, 2) := by decide +kernel
theorem dX5_costRests_29 : decode cX5_costRests 29 = .ok (.iload_n 3, 1) := by decide +kernel
theorem dX5_costRests_30 : decode cX5_costRests 30 = .ok (.if_icmp .ne 7, 3) := by decide +kernel
theorem dX5_costRests_33 : decode cX5_costRests 33 = .ok (.iconst 0, 1) := by decide +kernel
theorem dX5_costRests_34 : decode cX5_costRests 34 = .ok (.goto 25, 3) := by decide +kernel
theorem dX5_costRests_37 : decode cX5_costRests 37 = .ok (.aload_n 0, 1) := by decide +kernel
theorem dX5_costRests_38 : decode cX5_costRests 38 = .ok (.aload_n 1, 1) := by decide +kernel
theorem dX5_costRests_39 : decode cX5_costRests 39 = .ok (.iload 4, 2) := by decide +kernel
theorem dX5_costRests_41 : decode cX5_costRests 41 = .ok (.iconst 1, 1) := by decide +kernel
theorem dX5_costRests_42 : decode cX5_costRests 42 = .ok (.iadd, 1) := by decide +kernel
theorem dX5_costRests_43 : decode cX5_costRests 43 = .ok (.iload 5, 2) := by decide +kernel
theorem dX5_costRests_45 : decode cX5_costRests 45 = .ok (.aload_n 0, 1) := by decide +kernel
theorem dX5_costRests_46 : decode cX5_costRests 46 = .ok (.aload_n 1, 1) := by decide +kernel
theorem dX5_costRests_47 : decode cX5_costRests 47 = .ok (.iload 4, 2) := by decide +kernel
theorem dX5_costRests_49 : decode cX5_costRests 49 = .ok (.iconst 1, 1) := by decide +kernel
theorem dX5_costRests_50 : decode cX5_costRests 50 = .ok (.iadd, 1) := by decide +kernel
theorem dX5_costRests_51 : decode cX5_costRests 51 = .ok (.iload 5, 2) := by decide +kernel
theorem dX5_costRests_53 : decode cX5_costRests 53 = .ok (.invokevirtual 27, 3) := by decide +kernel
theorem dX5_costRests_56 : decode cX5_costRests 56 = .ok (.invokevirtual 31, 3) := by decide +kernel
theorem dX5_costRests_59 : decode cX5_costRests 59 = .ok (.istore 6, 2) := by decide +kernel
theorem dX5_costRests_61 : decode cX5_costRests 61 = .ok (.aload_n 0, 1) := by decide +kernel
theorem dX5_costRests_62 : decode cX5_costRests 62 = .ok (.getfield 20, 3) := by decide +kernel
theorem dX5_costRests_65 : decode cX5_costRests 65 = .ok (.iload 4, 2) := by decide +kernel
theorem dX5_costRests_67 : decode cX5_costRests 67 = .ok (.aaload, 1) := by decide +kernel
theorem dX5_costRests_68 : decode cX5_costRests 68 = .ok (.iload 5, 2) := by decide +kernel
theorem dX5_costRests_70 : decode cX5_costRests 70 = .ok (.aload_n 1, 1) := by decide +kernel
theorem dX5_costRests_71 : decode cX5_costRests 71 = .ok (.iload_n 2, 1) := by decide +kernel
theorem dX5_costRests_72 : decode cX5_costRests 72 = .ok (.iload 4, 2) := by decide +kernel
theorem dX5_costRests_74 : decode cX5_costRests 74 = .ok (.iload 5, 2) := by decide +kernel
theorem dX5_costRests_76 : decode cX5_costRests 76 = .ok (.invokevirtual 54, 3) := by decide +kernel
theorem dX5_costRests_79 : decode cX5_costRests 79 = .ok (.iload 6, 2) := by decide +kernel
theorem dX5_costRests_81 : decode cX5_costRests 81 = .ok (.iadd, 1) := by decide +kernel
theorem dX5_costRests_82 : decode cX5_costRests 82 = .ok (.iastore, 1) := by decide +kernel
theorem dX5_costRests_83 : decode cX5_costRests 83 = .ok (.iinc 5 1, 3) := by decide +kernel
theorem dX5_costRests_86 : decode cX5_costRests 86 = .ok (.goto (-68), 3) := by decide +kernel
theorem dX5_costRests_89 : decode cX5_costRests 89 = .ok (.iinc 4 (-1), 3) := by decide +kernel
theorem dX5_costRests_92 : decode cX5_costRests 92 = .ok (.goto (-82), 3) := by decide +kernel
theorem dX5_costRests_95 : decode cX5_costRests 95 = .ok (.return_, 1) := by decide +kernel
theorem dX5_walk_0 : decode cX5_walk 0 = .ok (.iconst 0, 1) := by decide +kernel
theorem dX5_walk_1 : decode cX5_walk 1 = .ok (.istore_n 3, 1) := by decide +kernel
theorem dX5_walk_2 : decode cX5_walk 2 = .ok (.iconst 0, 1) := by decide +kernel
theorem dX5_walk_3 : decode cX5_walk 3 = .ok (.istore 4, 2) := by decide +kernel
theorem dX5_walk_5 : decode cX5_walk 5 = .ok (.iload 4, 2) := by decide +kernel
theorem dX5_walk_7 : decode cX5_walk 7 = .ok (.aload_n 1, 1) := by decide +kernel
theorem dX5_walk_8 : decode cX5_walk 8 = .ok (.invokevirtual 47, 3) := by decide +kernel
theorem dX5_walk_11 : decode cX5_walk 11 = .ok (.if_icmp .ge 28, 3) := by decide +kernel
theorem dX5_walk_14 : decode cX5_walk 14 = .ok (.aload_n 0, 1) := by decide +kernel
theorem dX5_walk_15 : decode cX5_walk 15 = .ok (.aload_n 1, 1) := by decide +kernel
theorem dX5_walk_16 : decode cX5_walk 16 = .ok (.iload 4, 2) := by decide +kernel
theorem dX5_walk_18 : decode cX5_walk 18 = .ok (.iload_n 3, 1) := by decide +kernel
theorem dX5_walk_19 : decode cX5_walk 19 = .ok (.invokevirtual 27, 3) := by decide +kernel
theorem dX5_walk_22 : decode cX5_walk 22 = .ok (.istore_n 3, 1) := by decide +kernel
theorem dX5_walk_23 : decode cX5_walk 23 = .ok (.aload_n 0, 1) := by decide +kernel
theorem dX5_walk_24 : decode cX5_walk 24 = .ok (.getfield 11, 3) := by decide +kernel
theorem dX5_walk_27 : decode cX5_walk 27 = .ok (.iload_n 2, 1) := by decide +kernel
theorem dX5_walk_28 : decode cX5_walk 28 = .ok (.aaload, 1) := by decide +kernel
theorem dX5_walk_29 : decode cX5_walk 29 = .ok (.iload 4, 2) := by decide +kernel
theorem dX5_walk_31 : decode cX5_walk 31 = .ok (.iload_n 3, 1) := by decide +kernel
theorem dX5_walk_32 : decode cX5_walk 32 = .ok (.iastore, 1) := by decide +kernel
theorem dX5_walk_33 : decode cX5_walk 33 = .ok (.iinc 4 1, 3) := by decide +kernel
theorem dX5_walk_36 : decode cX5_walk 36 = .ok (.goto (-31), 3) := by decide +kernel
theorem dX5_walk_39 : decode cX5_walk 39 = .ok (.return_, 1) := by decide +kernel
theorem dX5_leastFrom_0 : decode cX5_leastFrom 0 = .ok (.iconst 0, 1) := by decide +kernel
theorem dX5_leastFrom_1 : decode cX5_leastFrom 1 = .ok (.istore 4, 2) := by decide +kernel
theorem dX5_leastFrom_3 : decode cX5_leastFrom 3 = .ok (.iconst 1, 1) := by decide +kernel
theorem dX5_leastFrom_4 : decode cX5_leastFrom 4 = .ok (.istore 5, 2) := by decide +kernel
theorem dX5_leastFrom_6 : decode cX5_leastFrom 6 = .ok (.iload 5, 2) := by decide +kernel
theorem dX5_leastFrom_8 : decode cX5_leastFrom 8 = .ok (.aload_n 1, 1) := by decide +kernel
theorem dX5_leastFrom_9 : decode cX5_leastFrom 9 = .ok (.invokevirtual 51, 3) := by decide +kernel
theorem dX5_leastFrom_12 : decode cX5_leastFrom 12 = .ok (.if_icmp .gt 34, 3) := by decide +kernel
theorem dX5_leastFrom_15 : decode cX5_leastFrom 15 = .ok (.aload_n 0, 1) := by decide +kernel
theorem dX5_leastFrom_16 : decode cX5_leastFrom 16 = .ok (.aload_n 1, 1) := by decide +kernel
theorem dX5_leastFrom_17 : decode cX5_leastFrom 17 = .ok (.iload_n 2, 1) := by decide +kernel
theorem dX5_leastFrom_18 : decode cX5_leastFrom 18 = .ok (.iload_n 3, 1) := by decide +kernel
theorem dX5_leastFrom_19 : decode cX5_leastFrom 19 = .ok (.iload 5, 2) := by decide +kernel
theorem dX5_leastFrom_21 : decode cX5_leastFrom 21 = .ok (.invokevirtual 31, 3) := by decide +kernel
theorem dX5_leastFrom_24 : decode cX5_leastFrom 24 = .ok (.aload_n 0, 1) := by decide +kernel
theorem dX5_leastFrom_25 : decode cX5_leastFrom 25 = .ok (.aload_n 1, 1) := by decide +kernel
theorem dX5_leastFrom_26 : decode cX5_leastFrom 26 = .ok (.iload_n 2, 1) := by decide +kernel
theorem dX5_leastFrom_27 : decode cX5_leastFrom 27 = .ok (.iload_n 3, 1) := by decide +kernel
theorem dX5_leastFrom_28 : decode cX5_leastFrom 28 = .ok (.iload 4, 2) := by decide +kernel
theorem dX5_leastFrom_30 : decode cX5_leastFrom 30 = .ok (.invokevirtual 31, 3) := by decide +kernel
theorem dX5_leastFrom_33 : decode cX5_leastFrom 33 = .ok (.if_icmp .ge 7, 3) := by decide +kernel
theorem dX5_leastFrom_36 : decode cX5_leastFrom 36 = .ok (.iload 5, 2) := by decide +kernel
theorem dX5_leastFrom_38 : decode cX5_leastFrom 38 = .ok (.istore 4, 2) := by decide +kernel
theorem dX5_leastFrom_40 : decode cX5_leastFrom 40 = .ok (.iinc 5 1, 3) := by decide +kernel
theorem dX5_leastFrom_43 : decode cX5_leastFrom 43 = .ok (.goto (-37), 3) := by decide +kernel
theorem dX5_leastFrom_46 : decode cX5_leastFrom 46 = .ok (.iload 4, 2) := by decide +kernel
theorem dX5_leastFrom_48 : decode cX5_leastFrom 48 = .ok (.ireturn, 1) := by decide +kernel
theorem dX5_costFrom_0 : decode cX5_costFrom 0 = .ok (.iload_n 2, 1) := by decide +kernel
theorem dX5_costFrom_1 : decode cX5_costFrom 1 = .ok (.invokestatic 42, 3) := by decide +kernel
theorem dX5_costFrom_4 : decode cX5_costFrom 4 = .ok (.ifCond .eq 18, 3) := by decide +kernel
theorem dX5_costFrom_7 : decode cX5_costFrom 7 = .ok (.iload 4, 2) := by decide +kernel
theorem dX5_costFrom_9 : decode cX5_costFrom 9 = .ok (.ifCond .lt 13, 3) := by decide +kernel
theorem dX5_costFrom_12 : decode cX5_costFrom 12 = .ok (.iload 4, 2) := by decide +kernel
theorem dX5_costFrom_14 : decode cX5_costFrom 14 = .ok (.iconst 3, 1) := by decide +kernel
theorem dX5_costFrom_15 : decode cX5_costFrom 15 = .ok (.if_icmp .gt 7, 3) := by decide +kernel
theorem dX5_costFrom_18 : decode cX5_costFrom 18 = .ok (.iconst 1, 1) := by decide +kernel
theorem dX5_costFrom_19 : decode cX5_costFrom 19 = .ok (.goto 4, 3) := by decide +kernel
theorem dX5_costFrom_22 : decode cX5_costFrom 22 = .ok (.iconst 0, 1) := by decide +kernel
theorem dX5_costFrom_23 : decode cX5_costFrom 23 = .ok (.istore 5, 2) := by decide +kernel
theorem dX5_costFrom_25 : decode cX5_costFrom 25 = .ok (.iload 5, 2) := by decide +kernel
theorem dX5_costFrom_27 : decode cX5_costFrom 27 = .ok (.ifCond .eq 23, 3) := by decide +kernel
theorem dX5_costFrom_30 : decode cX5_costFrom 30 = .ok (.aload_n 0, 1) := by decide +kernel
theorem dX5_costFrom_31 : decode cX5_costFrom 31 = .ok (.getfield 20, 3) := by decide +kernel
theorem dX5_costFrom_34 : decode cX5_costFrom 34 = .ok (.iload_n 2, 1) := by decide +kernel
theorem dX5_costFrom_35 : decode cX5_costFrom 35 = .ok (.aaload, 1) := by decide +kernel
theorem dX5_costFrom_36 : decode cX5_costFrom 36 = .ok (.iload 4, 2) := by decide +kernel
theorem dX5_costFrom_38 : decode cX5_costFrom 38 = .ok (.iaload, 1) := by decide +kernel
theorem dX5_costFrom_39 : decode cX5_costFrom 39 = .ok (.aload_n 1, 1) := by decide +kernel
theorem dX5_costFrom_40 : decode cX5_costFrom 40 = .ok (.iload_n 3, 1) := by decide +kernel
theorem dX5_costFrom_41 : decode cX5_costFrom 41 = .ok (.iload 4, 2) := by decide +kernel
theorem dX5_costFrom_43 : decode cX5_costFrom 43 = .ok (.invokevirtual 58, 3) := by decide +kernel
theorem dX5_costFrom_46 : decode cX5_costFrom 46 = .ok (.iadd, 1) := by decide +kernel
theorem dX5_costFrom_47 : decode cX5_costFrom 47 = .ok (.goto 4, 3) := by decide +kernel
theorem dX5_costFrom_50 : decode cX5_costFrom 50 = .ok (.iconst 0, 1) := by decide +kernel
theorem dX5_costFrom_51 : decode cX5_costFrom 51 = .ok (.ireturn, 1) := by decide +kernel
theorem dX6_init_0 : decode cX6_init 0 = .ok (.aload_n 0, 1) := by decide +kernel
theorem dX6_init_1 : decode cX6_init 1 = .ok (.invokespecial 3, 3) := by decide +kernel
theorem dX6_init_4 : decode cX6_init 4 = .ok (.aload_n 0, 1) := by decide +kernel
theorem dX6_init_5 : decode cX6_init 5 = .ok (.getstatic 9, 3) := by decide +kernel
theorem dX6_init_8 : decode cX6_init 8 = .ok (.invokevirtual 15, 3) := by decide +kernel
theorem dX6_init_11 : decode cX6_init 11 = .ok (.checkcast 16, 3) := by decide +kernel
theorem dX6_init_14 : decode cX6_init 14 = .ok (.putfield 20, 3) := by decide +kernel
theorem dX6_init_17 : decode cX6_init 17 = .ok (.aload_n 0, 1) := by decide +kernel
theorem dX6_init_18 : decode cX6_init 18 = .ok (.bipush 40, 2) := by decide +kernel
theorem dX6_init_20 : decode cX6_init 20 = .ok (.newarray .int, 2) := by decide +kernel
theorem dX6_init_22 : decode cX6_init 22 = .ok (.putfield 23, 3) := by decide +kernel
theorem dX6_init_25 : decode cX6_init 25 = .ok (.aload_n 0, 1) := by decide +kernel
theorem dX6_init_26 : decode cX6_init 26 = .ok (.bipush 40, 2) := by decide +kernel
theorem dX6_init_28 : decode cX6_init 28 = .ok (.newarray .int, 2) := by decide +kernel
theorem dX6_init_30 : decode cX6_init 30 = .ok (.putfield 26, 3) := by decide +kernel
theorem dX6_init_33 : decode cX6_init 33 = .ok (.aload_n 0, 1) := by decide +kernel
theorem dX6_init_34 : decode cX6_init 34 = .ok (.bipush 6, 2) := by decide +kernel
theorem dX6_init_36 : decode cX6_init 36 = .ok (.putfield 29, 3) := by decide +kernel
theorem dX6_init_39 : decode cX6_init 39 = .ok (.aload_n 0, 1) := by decide +kernel
theorem dX6_init_40 : decode cX6_init 40 = .ok (.iconst 0, 1) := by decide +kernel
theorem dX6_init_41 : decode cX6_init 41 = .ok (.putfield 33, 3) := by decide +kernel
theorem dX6_init_44 : decode cX6_init 44 = .ok (.return_, 1) := by decide +kernel
theorem dX6_isTerm_0 : decode cX6_isTerm 0 = .ok (.iload_n 0, 1) := by decide +kernel
theorem dX6_isTerm_1 : decode cX6_isTerm 1 = .ok (.ifCond .lt 12, 3) := by decide +kernel
theorem dX6_isTerm_4 : decode cX6_isTerm 4 = .ok (.iload_n 0, 1) := by decide +kernel
theorem dX6_isTerm_5 : decode cX6_isTerm 5 = .ok (.iconst 4, 1) := by decide +kernel
theorem dX6_isTerm_6 : decode cX6_isTerm 6 = .ok (.if_icmp .ge 7, 3) := by decide +kernel
theorem dX6_isTerm_9 : decode cX6_isTerm 9 = .ok (.iconst 1, 1) := by decide +kernel
theorem dX6_isTerm_10 : decode cX6_isTerm 10 = .ok (.goto 4, 3) := by decide +kernel
theorem dX6_isTerm_13 : decode cX6_isTerm 13 = .ok (.iconst 0, 1) := by decide +kernel
theorem dX6_isTerm_14 : decode cX6_isTerm 14 = .ok (.ireturn, 1) := by decide +kernel
theorem dX6_isInBounds_0 : decode cX6_isInBounds 0 = .ok (.iload_n 0, 1) := by decide +kernel
theorem dX6_isInBounds_1 : decode cX6_isInBounds 1 = .ok (.invokestatic 36, 3) := by decide +kernel
theorem dX6_isInBounds_4 : decode cX6_isInBounds 4 = .ok (.ifCond .eq 25, 3) := by decide +kernel
theorem dX6_isInBounds_7 : decode cX6_isInBounds 7 = .ok (.iload_n 1, 1) := by decide +kernel
theorem dX6_isInBounds_8 : decode cX6_isInBounds 8 = .ok (.getstatic 40, 3) := by decide +kernel
theorem dX6_isInBounds_11 : decode cX6_isInBounds 11 = .ok (.iload_n 0, 1) := by decide +kernel
theorem dX6_isInBounds_12 : decode cX6_isInBounds 12 = .ok (.iaload, 1) := by decide +kernel
theorem dX6_isInBounds_13 : decode cX6_isInBounds 13 = .ok (.if_icmp .lt 16, 3) := by decide +kernel
theorem dX6_isInBounds_16 : decode cX6_isInBounds 16 = .ok (.iload_n 1, 1) := by decide +kernel
theorem dX6_isInBounds_17 : decode cX6_isInBounds 17 = .ok (.getstatic 43, 3) := by decide +kernel
theorem dX6_isInBounds_20 : decode cX6_isInBounds 20 = .ok (.iload_n 0, 1) := by decide +kernel
theorem dX6_isInBounds_21 : decode cX6_isInBounds 21 = .ok (.iaload, 1) := by decide +kernel
theorem dX6_isInBounds_22 : decode cX6_isInBounds 22 = .ok (.if_icmp .gt 7, 3) := by decide +kernel
theorem dX6_isInBounds_25 : decode cX6_isInBounds 25 = .ok (.iconst 1, 1) := by decide +kernel
theorem dX6_isInBounds_26 : decode cX6_isInBounds 26 = .ok (.goto 4, 3) := by decide +kernel
theorem dX6_isInBounds_29 : decode cX6_isInBounds 29 = .ok (.iconst 0, 1) := by decide +kernel
theorem dX6_isInBounds_30 : decode cX6_isInBounds 30 = .ok (.ireturn, 1) := by decide +kernel
theorem dX6_termOf_0 : decode cX6_termOf 0 = .ok (.iload_n 1, 1) := by decide +kernel
theorem dX6_termOf_1 : decode cX6_termOf 1 = .ok (.invokestatic 36, 3) := by decide +kernel
theorem dX6_termOf_4 : decode cX6_termOf 4 = .ok (.ifCond .eq 12, 3) := by decide +kernel
theorem dX6_termOf_7 : decode cX6_termOf 7 = .ok (.aload_n 0, 1) := by decide +kernel
theorem dX6_termOf_8 : decode cX6_termOf 8 = .ok (.getfield 20, 3) := by decide +kernel
theorem dX6_termOf_11 : decode cX6_termOf 11 = .ok (.iload_n 1, 1) := by decide +kernel
theorem dX6_termOf_12 : decode cX6_termOf 12 = .ok (.iaload, 1) := by decide +kernel
theorem dX6_termOf_13 : decode cX6_termOf 13 = .ok (.goto 4, 3) := by decide +kernel
theorem dX6_termOf_16 : decode cX6_termOf 16 = .ok (.iconst (-1), 1) := by decide +kernel
theorem dX6_termOf_17 : decode cX6_termOf 17 = .ok (.ireturn, 1) := by decide +kernel
theorem dX6_setTerm_0 : decode cX6_setTerm 0 = .ok (.iload_n 1, 1) := by decide +kernel
theorem dX6_setTerm_1 : decode cX6_setTerm 1 = .ok (.iload_n 2, 1) := by decide +kernel
theorem dX6_setTerm_2 : decode cX6_setTerm 2 = .ok (.invokestatic 46, 3) := by decide +kernel
theorem dX6_setTerm_5 : decode cX6_setTerm 5 = .ok (.ifCond .eq 10, 3) := by decide +kernel
theorem dX6_setTerm_8 : decode cX6_setTerm 8 = .ok (.aload_n 0, 1) := by decide +kernel
theorem dX6_setTerm_9 : decode cX6_setTerm 9 = .ok (.getfield 20, 3) := by decide +kernel
theorem dX6_setTerm_12 : decode cX6_setTerm 12 = .ok (.iload_n 1, 1) := by decide +kernel
theorem dX6_setTerm_13 : decode cX6_setTerm 13 = .ok (.iload_n 2, 1) := by decide +kernel
theorem dX6_setTerm_14 : decode cX6_setTerm 14 = .ok (.iastore, 1) := by decide +kernel
theorem dX6_setTerm_15 : decode cX6_setTerm 15 = .ok (.return_, 1) := by decide +kernel
theorem dX6_levels_0 : decode cX6_levels 0 = .ok (.aload_n 0, 1) := by decide +kernel
theorem dX6_levels_1 : decode cX6_levels 1 = .ok (.getfield 20, 3) := by decide +kernel
theorem dX6_levels_4 : decode cX6_levels 4 = .ok (.iconst 0, 1) := by decide +kernel
theorem dX6_levels_5 : decode cX6_levels 5 = .ok (.iaload, 1) := by decide +kernel
theorem dX6_levels_6 : decode cX6_levels 6 = .ok (.ireturn, 1) := by decide +kernel
theorem dX6_base_0 : decode cX6_base 0 = .ok (.aload_n 0, 1) := by decide +kernel
theorem dX6_base_1 : decode cX6_base 1 = .ok (.getfield 20, 3) := by decide +kernel
theorem dX6_base_4 : decode cX6_base 4 = .ok (.iconst 1, 1) := by decide +kernel
theorem dX6_base_5 : decode cX6_base 5 = .ok (.iaload, 1) := by decide +kernel
theorem dX6_base_6 : decode cX6_base 6 = .ok (.ireturn, 1) := by decide +kernel
theorem dX6_step_0 : decode cX6_step 0 = .ok (.aload_n 0, 1) := by decide +kernel
theorem dX6_step_1 : decode cX6_step 1 = .ok (.getfield 20, 3) := by decide +kernel
theorem dX6_step_4 : decode cX6_step 4 = .ok (.iconst 2, 1) := by decide +kernel
theorem dX6_step_5 : decode cX6_step 5 = .ok (.iaload, 1) := by decide +kernel
theorem dX6_step_6 : decode cX6_step 6 = .ok (.ireturn, 1) := by decide +kernel
theorem dX6_rise_0 : decode cX6_rise 0 = .ok (.aload_n 0, 1) := by decide +kernel
theorem dX6_rise_1 : decode cX6_rise 1 = .ok (.getfield 20, 3) := by decide +kernel
theorem dX6_rise_4 : decode cX6_rise 4 = .ok (.iconst 3, 1) := by decide +kernel
theorem dX6_rise_5 : decode cX6_rise 5 = .ok (.iaload, 1) := by decide +kernel
theorem dX6_rise_6 : decode cX6_rise 6 = .ok (.ireturn, 1) := by decide +kernel
theorem dX6_hasLevel_0 : decode cX6_hasLevel 0 = .ok (.iload_n 1, 1) := by decide +kernel
theorem dX6_hasLevel_1 : decode cX6_hasLevel 1 = .ok (.ifCond .lt 17, 3) := by decide +kernel
theorem dX6_hasLevel_4 : decode cX6_hasLevel 4 = .ok (.iload_n 1, 1) := by decide +kernel
theorem dX6_hasLevel_5 : decode cX6_hasLevel 5 = .ok (.aload_n 0, 1) := by decide +kernel
theorem dX6_hasLevel_6 : decode cX6_hasLevel 6 = .ok (.getfield 20, 3) := by decide +kernel
theorem dX6_hasLevel_9 : decode cX6_hasLevel 9 = .ok (.iconst 0, 1) := by decide +kernel
theorem dX6_hasLevel_10 : decode cX6_hasLevel 10 = .ok (.iaload, 1) := by decide +kernel
theorem dX6_hasLevel_11 : decode cX6_hasLevel 11 = .ok (.if_icmp .gt 7, 3) := by decide +kernel
theorem dX6_hasLevel_14 : decode cX6_hasLevel 14 = .ok (.iconst 1, 1) := by decide +kernel
theorem dX6_hasLevel_15 : decode cX6_hasLevel 15 = .ok (.goto 4, 3) := by decide +kernel
theorem dX6_hasLevel_18 : decode cX6_hasLevel 18 = .ok (.iconst 0, 1) := by decide +kernel
theorem dX6_hasLevel_19 : decode cX6_hasLevel 19 = .ok (.ireturn, 1) := by decide +kernel
theorem dX6_dayCount_0 : decode cX6_dayCount 0 = .ok (.aload_n 0, 1) := by decide +kernel
theorem dX6_dayCount_1 : decode cX6_dayCount 1 = .ok (.getfield 29, 3) := by decide +kernel
theorem dX6_dayCount_4 : decode cX6_dayCount 4 = .ok (.ireturn, 1) := by decide +kernel
theorem dX6_hasDay_0 : decode cX6_hasDay 0 = .ok (.iload_n 1, 1) := by decide +kernel
theorem dX6_hasDay_1 : decode cX6_hasDay 1 = .ok (.ifCond .lt 15, 3) := by decide +kernel
theorem dX6_hasDay_4 : decode cX6_hasDay 4 = .ok (.iload_n 1, 1) := by decide +kernel
theorem dX6_hasDay_5 : decode cX6_hasDay 5 = .ok (.aload_n 0, 1) := by decide +kernel
theorem dX6_hasDay_6 : decode cX6_hasDay 6 = .ok (.getfield 29, 3) := by decide +kernel
theorem dX6_hasDay_9 : decode cX6_hasDay 9 = .ok (.if_icmp .ge 7, 3) := by decide +kernel
theorem dX6_hasDay_12 : decode cX6_hasDay 12 = .ok (.iconst 1, 1) := by decide +kernel
theorem dX6_hasDay_13 : decode cX6_hasDay 13 = .ok (.goto 4, 3) := by decide +kernel
theorem dX6_hasDay_16 : decode cX6_hasDay 16 = .ok (.iconst 0, 1) := by decide +kernel
theorem dX6_hasDay_17 : decode cX6_hasDay 17 = .ok (.ireturn, 1) := by decide +kernel
theorem dX6_setDayCount_0 : decode cX6_setDayCount 0 = .ok (.aload_n 0, 1) := by decide +kernel
theorem dX6_setDayCount_1 : decode cX6_setDayCount 1 = .ok (.iconst 1, 1) := by decide +kernel
theorem dX6_setDayCount_2 : decode cX6_setDayCount 2 = .ok (.iload_n 1, 1) := by decide +kernel
theorem dX6_setDayCount_3 : decode cX6_setDayCount 3 = .ok (.bipush 12, 2) := by decide +kernel
theorem dX6_setDayCount_5 : decode cX6_setDayCount 5 = .ok (.invokestatic 50, 3) := by decide +kernel
theorem dX6_setDayCount_8 : decode cX6_setDayCount 8 = .ok (.invokestatic 56, 3) := by decide +kernel
theorem dX6_setDayCount_11 : decode cX6_setDayCount 11 = .ok (.putfield 29, 3) := by decide +kernel
theorem dX6_setDayCount_14 : decode cX6_setDayCount 14 = .ok (.return_, 1) := by decide +kernel
theorem dX6_count_0 : decode cX6_count 0 = .ok (.aload_n 0, 1) := by decide +kernel
theorem dX6_count_1 : decode cX6_count 1 = .ok (.getfield 33, 3) := by decide +kernel
theorem dX6_count_4 : decode cX6_count 4 = .ok (.ireturn, 1) := by decide +kernel
theorem dX6_hasPiece_0 : decode cX6_hasPiece 0 = .ok (.iload_n 1, 1) := by decide +kernel
theorem dX6_hasPiece_1 : decode cX6_hasPiece 1 = .ok (.ifCond .lt 15, 3) := by decide +kernel
theorem dX6_hasPiece_4 : decode cX6_hasPiece 4 = .ok (.iload_n 1, 1) := by decide +kernel
theorem dX6_hasPiece_5 : decode cX6_hasPiece 5 = .ok (.aload_n 0, 1) := by decide +kernel
theorem dX6_hasPiece_6 : decode cX6_hasPiece 6 = .ok (.getfield 33, 3) := by decide +kernel
theorem dX6_hasPiece_9 : decode cX6_hasPiece 9 = .ok (.if_icmp .ge 7, 3) := by decide +kernel
theorem dX6_hasPiece_12 : decode cX6_hasPiece 12 = .ok (.iconst 1, 1) := by decide +kernel
theorem dX6_hasPiece_13 : decode cX6_hasPiece 13 = .ok (.goto 4, 3) := by decide +kernel
theorem dX6_hasPiece_16 : decode cX6_hasPiece 16 = .ok (.iconst 0, 1) := by decide +kernel
theorem dX6_hasPiece_17 : decode cX6_hasPiece 17 = .ok (.ireturn, 1) := by decide +kernel
theorem dX6_hasRoom_0 : decode cX6_hasRoom 0 = .ok (.aload_n 0, 1) := by decide +kernel
theorem dX6_hasRoom_1 : decode cX6_hasRoom 1 = .ok (.getfield 33, 3) := by decide +kernel
theorem dX6_hasRoom_4 : decode cX6_hasRoom 4 = .ok (.bipush 40, 2) := by decide +kernel
theorem dX6_hasRoom_6 : decode cX6_hasRoom 6 = .ok (.if_icmp .ge 7, 3) := by decide +kernel
theorem dX6_hasRoom_9 : decode cX6_hasRoom 9 = .ok (.iconst 1, 1) := by decide +kernel
theorem dX6_hasRoom_10 : decode cX6_hasRoom 10 = .ok (.goto 4, 3) := by decide +kernel
theorem dX6_hasRoom_13 : decode cX6_hasRoom 13 = .ok (.iconst 0, 1) := by decide +kernel
theorem dX6_hasRoom_14 : decode cX6_hasRoom 14 = .ok (.ireturn, 1) := by decide +kernel
theorem dX6_dayOf_0 : decode cX6_dayOf 0 = .ok (.aload_n 0, 1) := by decide +kernel
theorem dX6_dayOf_1 : decode cX6_dayOf 1 = .ok (.iload_n 1, 1) := by decide +kernel
theorem dX6_dayOf_2 : decode cX6_dayOf 2 = .ok (.invokevirtual 59, 3) := by decide +kernel
theorem dX6_dayOf_5 : decode cX6_dayOf 5 = .ok (.ifCond .eq 12, 3) := by decide +kernel
theorem dX6_dayOf_8 : decode cX6_dayOf 8 = .ok (.aload_n 0, 1) := by decide +kernel
theorem dX6_dayOf_9 : decode cX6_dayOf 9 = .ok (.getfield 23, 3) := by decide +kernel
theorem dX6_dayOf_12 : decode cX6_dayOf 12 = .ok (.iload_n 1, 1) := by decide +kernel
theorem dX6_dayOf_13 : decode cX6_dayOf 13 = .ok (.iaload, 1) := by decide +kernel
theorem dX6_dayOf_14 : decode cX6_dayOf 14 = .ok (.goto 4, 3) := by decide +kernel
theorem dX6_dayOf_17 : decode cX6_dayOf 17 = .ok (.iconst (-1), 1) := by decide +kernel
theorem dX6_dayOf_18 : decode cX6_dayOf 18 = .ok (.ireturn, 1) := by decide +kernel
theorem dX6_setOf_0 : decode cX6_setOf 0 = .ok (.aload_n 0, 1) := by decide +kernel
theorem dX6_setOf_1 : decode cX6_setOf 1 = .ok (.iload_n 1, 1) := by decide +kernel
theorem dX6_setOf_2 : decode cX6_setOf 2 = .ok (.invokevirtual 59, 3) := by decide +kernel
theorem dX6_setOf_5 : decode cX6_setOf 5 = .ok (.ifCond .eq 12, 3) := by decide +kernel
theorem dX6_setOf_8 : decode cX6_setOf 8 = .ok (.aload_n 0, 1) := by decide +kernel
theorem dX6_setOf_9 : decode cX6_setOf 9 = .ok (.getfield 26, 3) := by decide +kernel
theorem dX6_setOf_12 : decode cX6_setOf 12 = .ok (.iload_n 1, 1) := by decide +kernel
theorem dX6_setOf_13 : decode cX6_setOf 13 = .ok (.iaload, 1) := by decide +kernel
theorem dX6_setOf_14 : decode cX6_setOf 14 = .ok (.goto 4, 3) := by decide +kernel
theorem dX6_setOf_17 : decode cX6_setOf 17 = .ok (.iconst 0, 1) := by decide +kernel
theorem dX6_setOf_18 : decode cX6_setOf 18 = .ok (.ireturn, 1) := by decide +kernel
theorem dX6_add_0 : decode cX6_add 0 = .ok (.aload_n 0, 1) := by decide +kernel
theorem dX6_add_1 : decode cX6_add 1 = .ok (.invokevirtual 62, 3) := by decide +kernel
theorem dX6_add_4 : decode cX6_add 4 = .ok (.ifCond .eq 33, 3) := by decide +kernel
theorem dX6_add_7 : decode cX6_add 7 = .ok (.aload_n 0, 1) := by decide +kernel
theorem dX6_add_8 : decode cX6_add 8 = .ok (.getfield 23, 3) := by decide +kernel
theorem dX6_add_11 : decode cX6_add 11 = .ok (.aload_n 0, 1) := by decide +kernel
theorem dX6_add_12 : decode cX6_add 12 = .ok (.getfield 33, 3) := by decide +kernel
theorem dX6_add_15 : decode cX6_add 15 = .ok (.iload_n 1, 1) := by decide +kernel
theorem dX6_add_16 : decode cX6_add 16 = .ok (.iastore, 1) := by decide +kernel
theorem dX6_add_17 : decode cX6_add 17 = .ok (.aload_n 0, 1) := by decide +kernel
theorem dX6_add_18 : decode cX6_add 18 = .ok (.getfield 26, 3) := by decide +kernel
theorem dX6_add_21 : decode cX6_add 21 = .ok (.aload_n 0, 1) := by decide +kernel
theorem dX6_add_22 : decode cX6_add 22 = .ok (.getfield 33, 3) := by decide +kernel
theorem dX6_add_25 : decode cX6_add 25 = .ok (.iload_n 2, 1) := by decide +kernel
theorem dX6_add_26 : decode cX6_add 26 = .ok (.iastore, 1) := by decide +kernel
theorem dX6_add_27 : decode cX6_add 27 = .ok (.aload_n 0, 1) := by decide +kernel
theorem dX6_add_28 : decode cX6_add 28 = .ok (.dup, 1) := by decide +kernel
theorem dX6_add_29 : decode cX6_add 29 = .ok (.getfield 33, 3) := by decide +kernel
theorem dX6_add_32 : decode cX6_add 32 = .ok (.iconst 1, 1) := by decide +kernel
theorem dX6_add_33 : decode cX6_add 33 = .ok (.iadd, 1) := by decide +kernel
theorem dX6_add_34 : decode cX6_add 34 = .ok (.putfield 33, 3) := by decide +kernel
theorem dX6_add_37 : decode cX6_add 37 = .ok (.return_, 1) := by decide +kernel
theorem dX6_remove_0 : decode cX6_remove 0 = .ok (.aload_n 0, 1) := by decide +kernel
theorem dX6_remove_1 : decode cX6_remove 1 = .ok (.iload_n 1, 1) := by decide +kernel
theorem dX6_remove_2 : decode cX6_remove 2 = .ok (.invokevirtual 59, 3) := by decide +kernel
theorem dX6_remove_5 : decode cX6_remove 5 = .ok (.ifCond .ne 4, 3) := by decide +kernel
theorem dX6_remove_8 : decode cX6_remove 8 = .ok (.return_, 1) := by decide +kernel
theorem dX6_remove_9 : decode cX6_remove 9 = .ok (.iload_n 1, 1) := by decide +kernel
theorem dX6_remove_10 : decode cX6_remove 10 = .ok (.iconst 1, 1) := by decide +kernel
theorem dX6_remove_11 : decode cX6_remove 11 = .ok (.iadd, 1) := by decide +kernel
theorem dX6_remove_12 : decode cX6_remove 12 = .ok (.istore_n 2, 1) := by decide +kernel
theorem dX6_remove_13 : decode cX6_remove 13 = .ok (.iload_n 2, 1) := by decide +kernel
theorem dX6_remove_14 : decode cX6_remove 14 = .ok (.aload_n 0, 1) := by decide +kernel
theorem dX6_remove_15 : decode cX6_remove 15 = .ok (.getfield 33, 3) := by decide +kernel
theorem dX6_remove_18 : decode cX6_remove 18 = .ok (.if_icmp .ge 37, 3) := by decide +kernel
theorem dX6_remove_21 : decode cX6_remove 21 = .ok (.aload_n 0, 1) := by decide +kernel
theorem dX6_remove_22 : decode cX6_remove 22 = .ok (.getfield 23, 3) := by decide +kernel
theorem dX6_remove_25 : decode cX6_remove 25 = .ok (.iload_n 2, 1) := by decide +kernel
theorem dX6_remove_26 : decode cX6_remove 26 = .ok (.iconst 1, 1) := by decide +kernel
theorem dX6_remove_27 : decode cX6_remove 27 = .ok (.isub, 1) := by decide +kernel
theorem dX6_remove_28 : decode cX6_remove 28 = .ok (.aload_n 0, 1) := by decide +kernel
theorem dX6_remove_29 : decode cX6_remove 29 = .ok (.getfield 23, 3) := by decide +kernel
theorem dX6_remove_32 : decode cX6_remove 32 = .ok (.iload_n 2, 1) := by decide +kernel
theorem dX6_remove_33 : decode cX6_remove 33 = .ok (.iaload, 1) := by decide +kernel
theorem dX6_remove_34 : decode cX6_remove 34 = .ok (.iastore, 1) := by decide +kernel
theorem dX6_remove_35 : decode cX6_remove 35 = .ok (.aload_n 0, 1) := by decide +kernel
theorem dX6_remove_36 : decode cX6_remove 36 = .ok (.getfield 26, 3) := by decide +kernel
theorem dX6_remove_39 : decode cX6_remove 39 = .ok (.iload_n 2, 1) := by decide +kernel
theorem dX6_remove_40 : decode cX6_remove 40 = .ok (.iconst 1, 1) := by decide +kernel
theorem dX6_remove_41 : decode cX6_remove 41 = .ok (.isub, 1) := by decide +kernel
theorem dX6_remove_42 : decode cX6_remove 42 = .ok (.aload_n 0, 1) := by decide +kernel
theorem dX6_remove_43 : decode cX6_remove 43 = .ok (.getfield 26, 3) := by decide +kernel
theorem dX6_remove_46 : decode cX6_remove 46 = .ok (.iload_n 2, 1) := by decide +kernel
theorem dX6_remove_47 : decode cX6_remove 47 = .ok (.iaload, 1) := by decide +kernel
theorem dX6_remove_48 : decode cX6_remove 48 = .ok (.iastore, 1) := by decide +kernel
theorem dX6_remove_49 : decode cX6_remove 49 = .ok (.iinc 2 1, 3) := by decide +kernel
theorem dX6_remove_52 : decode cX6_remove 52 = .ok (.goto (-39), 3) := by decide +kernel
theorem dX6_remove_55 : decode cX6_remove 55 = .ok (.aload_n 0, 1) := by decide +kernel
theorem dX6_remove_56 : decode cX6_remove 56 = .ok (.dup, 1) := by decide +kernel
theorem dX6_remove_57 : decode cX6_remove 57 = .ok (.getfield 33, 3) := by decide +kernel
theorem dX6_remove_60 : decode cX6_remove 60 = .ok (.iconst 1, 1) := by decide +kernel
theorem dX6_remove_61 : decode cX6_remove 61 = .ok (.isub, 1) := by decide +kernel
theorem dX6_remove_62 : decode cX6_remove 62 = .ok (.putfield 33, 3) := by decide +kernel
theorem dX6_remove_65 : decode cX6_remove 65 = .ok (.return_, 1) := by decide +kernel
theorem dX6_putOn_0 : decode cX6_putOn 0 = .ok (.aload_n 0, 1) := by decide +kernel
theorem dX6_putOn_1 : decode cX6_putOn 1 = .ok (.iload_n 1, 1) := by decide +kernel
theorem dX6_putOn_2 : decode cX6_putOn 2 = .ok (.invokevirtual 59, 3) := by decide +kernel
theorem dX6_putOn_5 : decode cX6_putOn 5 = .ok (.ifCond .eq 10, 3) := by decide +kernel
theorem dX6_putOn_8 : decode cX6_putOn 8 = .ok (.aload_n 0, 1) := by decide +kernel
theorem dX6_putOn_9 : decode cX6_putOn 9 = .ok (.getfield 23, 3) := by decide +kernel
theorem dX6_putOn_12 : decode cX6_putOn 12 = .ok (.iload_n 1, 1) := by decide +kernel
theorem dX6_putOn_13 : decode cX6_putOn 13 = .ok (.iload_n 2, 1) := by decide +kernel
theorem dX6_putOn_14 : decode cX6_putOn 14 = .ok (.iastore, 1) := by decide +kernel
theorem dX6_putOn_15 : decode cX6_putOn 15 = .ok (.return_, 1) := by decide +kernel
theorem dX6_hasPieceFrom_0 : decode cX6_hasPieceFrom 0 = .ok (.iconst 0, 1) := by decide +kernel
theorem dX6_hasPieceFrom_1 : decode cX6_hasPieceFrom 1 = .ok (.istore_n 2, 1) := by decide +kernel
theorem dX6_hasPieceFrom_2 : decode cX6_hasPieceFrom 2 = .ok (.iload_n 2, 1) := by decide +kernel
theorem dX6_hasPieceFrom_3 : decode cX6_hasPieceFrom 3 = .ok (.aload_n 0, 1) := by decide +kernel
theorem dX6_hasPieceFrom_4 : decode cX6_hasPieceFrom 4 = .ok (.getfield 33, 3) := by decide +kernel
theorem dX6_hasPieceFrom_7 : decode cX6_hasPieceFrom 7 = .ok (.if_icmp .ge 21, 3) := by decide +kernel
theorem dX6_hasPieceFrom_10 : decode cX6_hasPieceFrom 10 = .ok (.aload_n 0, 1) := by decide +kernel
theorem dX6_hasPieceFrom_11 : decode cX6_hasPieceFrom 11 = .ok (.getfield 23, 3) := by decide +kernel
theorem dX6_hasPieceFrom_14 : decode cX6_hasPieceFrom 14 = .ok (.iload_n 2, 1) := by decide +kernel
theorem dX6_hasPieceFrom_15 : decode cX6_hasPieceFrom 15 = .ok (.iaload, 1) := by decide +kernel
theorem dX6_hasPieceFrom_16 : decode cX6_hasPieceFrom 16 = .ok (.iload_n 1, 1) := by decide +kernel
theorem dX6_hasPieceFrom_17 : decode cX6_hasPieceFrom 17 = .ok (.if_icmp .lt 5, 3) := by decide +kernel
theorem dX6_hasPieceFrom_20 : decode cX6_hasPieceFrom 20 = .ok (.iconst 1, 1) := by decide +kernel
theorem dX6_hasPieceFrom_21 : decode cX6_hasPieceFrom 21 = .ok (.ireturn, 1) := by decide +kernel
theorem dX6_hasPieceFrom_22 : decode cX6_hasPieceFrom 22 = .ok (.iinc 2 1, 3) := by decide +kernel
theorem dX6_hasPieceFrom_25 : decode cX6_hasPieceFrom 25 = .ok (.goto (-23), 3) := by decide +kernel
theorem dX6_hasPieceFrom_28 : decode cX6_hasPieceFrom 28 = .ok (.iconst 0, 1) := by decide +kernel
theorem dX6_hasPieceFrom_29 : decode cX6_hasPieceFrom 29 = .ok (.ireturn, 1) := by decide +kernel
theorem dX6_countWith_0 : decode cX6_countWith 0 = .ok (.iconst 0, 1) := by decide +kernel
theorem dX6_countWith_1 : decode cX6_countWith 1 = .ok (.istore_n 2, 1) := by decide +kernel
theorem dX6_countWith_2 : decode cX6_countWith 2 = .ok (.iconst 0, 1) := by decide +kernel
theorem dX6_countWith_3 : decode cX6_countWith 3 = .ok (.istore_n 3, 1) := by decide +kernel
theorem dX6_countWith_4 : decode cX6_countWith 4 = .ok (.iload_n 3, 1) := by decide +kernel
theorem dX6_countWith_5 : decode cX6_countWith 5 = .ok (.aload_n 0, 1) := by decide +kernel
theorem dX6_countWith_6 : decode cX6_countWith 6 = .ok (.getfield 33, 3) := by decide +kernel
theorem dX6_countWith_9 : decode cX6_countWith 9 = .ok (.if_icmp .ge 24, 3) := by decide +kernel
theorem dX6_countWith_12 : decode cX6_countWith 12 = .ok (.aload_n 0, 1) := by decide +kernel
theorem dX6_countWith_13 : decode cX6_countWith 13 = .ok (.getfield 26, 3) := by decide +kernel
theorem dX6_countWith_16 : decode cX6_countWith 16 = .ok (.iload_n 3, 1) := by decide +kernel
theorem dX6_countWith_17 : decode cX6_countWith 17 = .ok (.iaload, 1) := by decide +kernel
theorem dX6_countWith_18 : decode cX6_countWith 18 = .ok (.iload_n 1, 1) := by decide +kernel
theorem dX6_countWith_19 : decode cX6_countWith 19 = .ok (.iand, 1) := by decide +kernel
theorem dX6_countWith_20 : decode cX6_countWith 20 = .ok (.iload_n 1, 1) := by decide +kernel
theorem dX6_countWith_21 : decode cX6_countWith 21 = .ok (.if_icmp .ne 6, 3) := by decide +kernel
theorem dX6_countWith_24 : decode cX6_countWith 24 = .ok (.iinc 2 1, 3) := by decide +kernel
theorem dX6_countWith_27 : decode cX6_countWith 27 = .ok (.iinc 3 1, 3) := by decide +kernel
theorem dX6_countWith_30 : decode cX6_countWith 30 = .ok (.goto (-26), 3) := by decide +kernel
theorem dX6_countWith_33 : decode cX6_countWith 33 = .ok (.iload_n 2, 1) := by decide +kernel
theorem dX6_countWith_34 : decode cX6_countWith 34 = .ok (.ireturn, 1) := by decide +kernel
theorem dX6_countWithOn_0 : decode cX6_countWithOn 0 = .ok (.iconst 0, 1) := by decide +kernel
theorem dX6_countWithOn_1 : decode cX6_countWithOn 1 = .ok (.istore_n 3, 1) := by decide +kernel
theorem dX6_countWithOn_2 : decode cX6_countWithOn 2 = .ok (.iconst 0, 1) := by decide +kernel
theorem dX6_countWithOn_3 : decode cX6_countWithOn 3 = .ok (.istore 4, 2) := by decide +kernel
theorem dX6_countWithOn_5 : decode cX6_countWithOn 5 = .ok (.iload 4, 2) := by decide +kernel
theorem dX6_countWithOn_7 : decode cX6_countWithOn 7 = .ok (.aload_n 0, 1) := by decide +kernel
theorem dX6_countWithOn_8 : decode cX6_countWithOn 8 = .ok (.getfield 33, 3) := by decide +kernel
theorem dX6_countWithOn_11 : decode cX6_countWithOn 11 = .ok (.if_icmp .ge 36, 3) := by decide +kernel
theorem dX6_countWithOn_14 : decode cX6_countWithOn 14 = .ok (.aload_n 0, 1) := by decide +kernel
theorem dX6_countWithOn_15 : decode cX6_countWithOn 15 = .ok (.getfield 23, 3) := by decide +kernel
theorem dX6_countWithOn_18 : decode cX6_countWithOn 18 = .ok (.iload 4, 2) := by decide +kernel
theorem dX6_countWithOn_20 : decode cX6_countWithOn 20 = .ok (.iaload, 1) := by decide +kernel
theorem dX6_countWithOn_21 : decode cX6_countWithOn 21 = .ok (.iload_n 2, 1) := by decide +kernel
theorem dX6_countWithOn_22 : decode cX6_countWithOn 22 = .ok (.if_icmp .ne 19, 3) := by decide +kernel
theorem dX6_countWithOn_25 : decode cX6_countWithOn 25 = .ok (.aload_n 0, 1) := by decide +kernel
theorem dX6_countWithOn_26 : decode cX6_countWithOn 26 = .ok (.getfield 26, 3) := by decide +kernel
theorem dX6_countWithOn_29 : decode cX6_countWithOn 29 = .ok (.iload 4, 2) := by decide +kernel
theorem dX6_countWithOn_31 : decode cX6_countWithOn 31 = .ok (.iaload, 1) := by decide +kernel
theorem dX6_countWithOn_32 : decode cX6_countWithOn 32 = .ok (.iload_n 1, 1) := by decide +kernel
theorem dX6_countWithOn_33 : decode cX6_countWithOn 33 = .ok (.iand, 1) := by decide +kernel
theorem dX6_countWithOn_34 : decode cX6_countWithOn 34 = .ok (.iload_n 1, 1) := by decide +kernel
theorem dX6_countWithOn_35 : decode cX6_countWithOn 35 = .ok (.if_icmp .ne 6, 3) := by decide +kernel
theorem dX6_countWithOn_38 : decode cX6_countWithOn 38 = .ok (.iinc 3 1, 3) := by decide +kernel
theorem dX6_countWithOn_41 : decode cX6_countWithOn 41 = .ok (.iinc 4 1, 3) := by decide +kernel
theorem dX6_countWithOn_44 : decode cX6_countWithOn 44 = .ok (.goto (-39), 3) := by decide +kernel
theorem dX6_countWithOn_47 : decode cX6_countWithOn 47 = .ok (.iload_n 3, 1) := by decide +kernel
theorem dX6_countWithOn_48 : decode cX6_countWithOn 48 = .ok (.ireturn, 1) := by decide +kernel
theorem dX6_become_0 : decode cX6_become 0 = .ok (.aload_n 1, 1) := by decide +kernel
theorem dX6_become_1 : decode cX6_become 1 = .ok (.ifnonnull 4, 3) := by decide +kernel
theorem dX6_become_4 : decode cX6_become 4 = .ok (.return_, 1) := by decide +kernel
theorem dX6_become_5 : decode cX6_become 5 = .ok (.aload_n 0, 1) := by decide +kernel
theorem dX6_become_6 : decode cX6_become 6 = .ok (.aload_n 1, 1) := by decide +kernel
theorem dX6_become_7 : decode cX6_become 7 = .ok (.getfield 29, 3) := by decide +kernel
theorem dX6_become_10 : decode cX6_become 10 = .ok (.putfield 29, 3) := by decide +kernel
theorem dX6_become_13 : decode cX6_become 13 = .ok (.aload_n 0, 1) := by decide +kernel
theorem dX6_become_14 : decode cX6_become 14 = .ok (.aload_n 1, 1) := by decide +kernel
theorem dX6_become_15 : decode cX6_become 15 = .ok (.getfield 33, 3) := by decide +kernel
theorem dX6_become_18 : decode cX6_become 18 = .ok (.putfield 33, 3) := by decide +kernel
theorem dX6_become_21 : decode cX6_become 21 = .ok (.aload_n 1, 1) := by decide +kernel
theorem dX6_become_22 : decode cX6_become 22 = .ok (.getfield 20, 3) := by decide +kernel
theorem dX6_become_25 : decode cX6_become 25 = .ok (.iconst 0, 1) := by decide +kernel
theorem dX6_become_26 : decode cX6_become 26 = .ok (.aload_n 0, 1) := by decide +kernel
theorem dX6_become_27 : decode cX6_become 27 = .ok (.getfield 20, 3) := by decide +kernel
theorem dX6_become_30 : decode cX6_become 30 = .ok (.iconst 0, 1) := by decide +kernel
theorem dX6_become_31 : decode cX6_become 31 = .ok (.iconst 4, 1) := by decide +kernel
theorem dX6_become_32 : decode cX6_become 32 = .ok (.invokestatic 66, 3) := by decide +kernel
theorem dX6_become_35 : decode cX6_become 35 = .ok (.aload_n 1, 1) := by decide +kernel
theorem dX6_become_36 : decode cX6_become 36 = .ok (.getfield 23, 3) := by decide +kernel
theorem dX6_become_39 : decode cX6_become 39 = .ok (.iconst 0, 1) := by decide +kernel
theorem dX6_become_40 : decode cX6_become 40 = .ok (.aload_n 0, 1) := by decide +kernel
theorem dX6_become_41 : decode cX6_become 41 = .ok (.getfield 23, 3) := by decide +kernel
theorem dX6_become_44 : decode cX6_become 44 = .ok (.iconst 0, 1) := by decide +kernel
theorem dX6_become_45 : decode cX6_become 45 = .ok (.bipush 40, 2) := by decide +kernel
theorem dX6_become_47 : decode cX6_become 47 = .ok (.invokestatic 66, 3) := by decide +kernel
theorem dX6_become_50 : decode cX6_become 50 = .ok (.aload_n 1, 1) := by decide +kernel
theorem dX6_become_51 : decode cX6_become 51 = .ok (.getfield 26, 3) := by decide +kernel
theorem dX6_become_54 : decode cX6_become 54 = .ok (.iconst 0, 1) := by decide +kernel
theorem dX6_become_55 : decode cX6_become 55 = .ok (.aload_n 0, 1) := by decide +kernel
theorem dX6_become_56 : decode cX6_become 56 = .ok (.getfield 26, 3) := by decide +kernel
theorem dX6_become_59 : decode cX6_become 59 = .ok (.iconst 0, 1) := by decide +kernel
theorem dX6_become_60 : decode cX6_become 60 = .ok (.bipush 40, 2) := by decide +kernel
theorem dX6_become_62 : decode cX6_become 62 = .ok (.invokestatic 66, 3) := by decide +kernel
theorem dX6_become_65 : decode cX6_become 65 = .ok (.return_, 1) := by decide +kernel
theorem dX7_init_0 : decode cX7_init 0 = .ok (.aload_n 0, 1) := by decide +kernel
theorem dX7_init_1 : decode cX7_init 1 = .ok (.invokespecial 3, 3) := by decide +kernel
theorem dX7_init_4 : decode cX7_init 4 = .ok (.aload_n 0, 1) := by decide +kernel
theorem dX7_init_5 : decode cX7_init 5 = .ok (.sipush 144, 3) := by decide +kernel
theorem dX7_init_8 : decode cX7_init 8 = .ok (.newarray .int, 2) := by decide +kernel
theorem dX7_init_10 : decode cX7_init 10 = .ok (.putfield 11, 3) := by decide +kernel
theorem dX7_init_13 : decode cX7_init 13 = .ok (.aload_n 0, 1) := by decide +kernel
theorem dX7_init_14 : decode cX7_init 14 = .ok (.iconst 4, 1) := by decide +kernel
theorem dX7_init_15 : decode cX7_init 15 = .ok (.bipush 48, 2) := by decide +kernel
theorem dX7_init_17 : decode cX7_init 17 = .ok (.multianewarray 17 2, 4) := by decide +kernel
theorem dX7_init_21 : decode cX7_init 21 = .ok (.putfield 19, 3) := by decide +kernel
theorem dX7_init_24 : decode cX7_init 24 = .ok (.aload_n 0, 1) := by decide +kernel
theorem dX7_init_25 : decode cX7_init 25 = .ok (.iconst 0, 1) := by decide +kernel
theorem dX7_init_26 : decode cX7_init 26 = .ok (.putfield 22, 3) := by decide +kernel
theorem dX7_init_29 : decode cX7_init 29 = .ok (.return_, 1) := by decide +kernel
theorem dX7_number_0 : decode cX7_number 0 = .ok (.aload_n 0, 1) := by decide +kernel
theorem dX7_number_1 : decode cX7_number 1 = .ok (.getfield 22, 3) := by decide +kernel
theorem dX7_number_4 : decode cX7_number 4 = .ok (.ireturn, 1) := by decide +kernel
theorem dX7_has_0 : decode cX7_has 0 = .ok (.iload_n 1, 1) := by decide +kernel
theorem dX7_has_1 : decode cX7_has 1 = .ok (.ifCond .lt 15, 3) := by decide +kernel
theorem dX7_has_4 : decode cX7_has 4 = .ok (.iload_n 1, 1) := by decide +kernel
theorem dX7_has_5 : decode cX7_has 5 = .ok (.aload_n 0, 1) := by decide +kernel
theorem dX7_has_6 : decode cX7_has 6 = .ok (.getfield 22, 3) := by decide +kernel
theorem dX7_has_9 : decode cX7_has 9 = .ok (.if_icmp .ge 7, 3) := by decide +kernel
theorem dX7_has_12 : decode cX7_has 12 = .ok (.iconst 1, 1) := by decide +kernel
theorem dX7_has_13 : decode cX7_has 13 = .ok (.goto 4, 3) := by decide +kernel
theorem dX7_has_16 : decode cX7_has 16 = .ok (.iconst 0, 1) := by decide +kernel
theorem dX7_has_17 : decode cX7_has 17 = .ok (.ireturn, 1) := by decide +kernel
theorem dX7_isFact_0 : decode cX7_isFact 0 = .ok (.iload_n 0, 1) := by decide +kernel
theorem dX7_isFact_1 : decode cX7_isFact 1 = .ok (.ifCond .lt 12, 3) := by decide +kernel
theorem dX7_isFact_4 : decode cX7_isFact 4 = .ok (.iload_n 0, 1) := by decide +kernel
theorem dX7_isFact_5 : decode cX7_isFact 5 = .ok (.iconst 4, 1) := by decide +kernel
theorem dX7_isFact_6 : decode cX7_isFact 6 = .ok (.if_icmp .ge 7, 3) := by decide +kernel
theorem dX7_isFact_9 : decode cX7_isFact 9 = .ok (.iconst 1, 1) := by decide +kernel
theorem dX7_isFact_10 : decode cX7_isFact 10 = .ok (.goto 4, 3) := by decide +kernel
theorem dX7_isFact_13 : decode cX7_isFact 13 = .ok (.iconst 0, 1) := by decide +kernel
theorem dX7_isFact_14 : decode cX7_isFact 14 = .ok (.ireturn, 1) := by decide +kernel
theorem dX7_fact_0 : decode cX7_fact 0 = .ok (.aload_n 0, 1) := by decide +kernel
theorem dX7_fact_1 : decode cX7_fact 1 = .ok (.iload_n 1, 1) := by decide +kernel
theorem dX7_fact_2 : decode cX7_fact 2 = .ok (.invokevirtual 26, 3) := by decide +kernel
theorem dX7_fact_5 : decode cX7_fact 5 = .ok (.ifCond .eq 21, 3) := by decide +kernel
theorem dX7_fact_8 : decode cX7_fact 8 = .ok (.iload_n 2, 1) := by decide +kernel
theorem dX7_fact_9 : decode cX7_fact 9 = .ok (.invokestatic 30, 3) := by decide +kernel
theorem dX7_fact_12 : decode cX7_fact 12 = .ok (.ifCond .eq 14, 3) := by decide +kernel
theorem dX7_fact_15 : decode cX7_fact 15 = .ok (.aload_n 0, 1) := by decide +kernel
theorem dX7_fact_16 : decode cX7_fact 16 = .ok (.getfield 19, 3) := by decide +kernel
theorem dX7_fact_19 : decode cX7_fact 19 = .ok (.iload_n 2, 1) := by decide +kernel
theorem dX7_fact_20 : decode cX7_fact 20 = .ok (.aaload, 1) := by decide +kernel
theorem dX7_fact_21 : decode cX7_fact 21 = .ok (.iload_n 1, 1) := by decide +kernel
theorem dX7_fact_22 : decode cX7_fact 22 = .ok (.iaload, 1) := by decide +kernel
theorem dX7_fact_23 : decode cX7_fact 23 = .ok (.goto 4, 3) := by decide +kernel
theorem dX7_fact_26 : decode cX7_fact 26 = .ok (.iconst (-1), 1) := by decide +kernel
theorem dX7_fact_27 : decode cX7_fact 27 = .ok (.ireturn, 1) := by decide +kernel
theorem dX7_findAll_0 : decode cX7_findAll 0 = .ok (.iconst 0, 1) := by decide +kernel
theorem dX7_findAll_1 : decode cX7_findAll 1 = .ok (.istore_n 3, 1) := by decide +kernel
theorem dX7_findAll_2 : decode cX7_findAll 2 = .ok (.iload_n 3, 1) := by decide +kernel
theorem dX7_findAll_3 : decode cX7_findAll 3 = .ok (.aload_n 2, 1) := by decide +kernel
theorem dX7_findAll_4 : decode cX7_findAll 4 = .ok (.invokevirtual 33, 3) := by decide +kernel
theorem dX7_findAll_7 : decode cX7_findAll 7 = .ok (.if_icmp .ge 28, 3) := by decide +kernel
theorem dX7_findAll_10 : decode cX7_findAll 10 = .ok (.aload_n 0, 1) := by decide +kernel
theorem dX7_findAll_11 : decode cX7_findAll 11 = .ok (.getfield 11, 3) := by decide +kernel
theorem dX7_findAll_14 : decode cX7_findAll 14 = .ok (.iload_n 3, 1) := by decide +kernel
theorem dX7_findAll_15 : decode cX7_findAll 15 = .ok (.aload_n 2, 1) := by decide +kernel
theorem dX7_findAll_16 : decode cX7_findAll 16 = .ok (.iload_n 3, 1) := by decide +kernel
theorem dX7_findAll_17 : decode cX7_findAll 17 = .ok (.invokevirtual 36, 3) := by decide +kernel
theorem dX7_findAll_20 : decode cX7_findAll 20 = .ok (.ifCond .eq 7, 3) := by decide +kernel
theorem dX7_findAll_23 : decode cX7_findAll 23 = .ok (.iload_n 3, 1) := by decide +kernel
theorem dX7_findAll_24 : decode cX7_findAll 24 = .ok (.goto 4, 3) := by decide +kernel
theorem dX7_findAll_27 : decode cX7_findAll 27 = .ok (.iconst (-1), 1) := by decide +kernel
theorem dX7_findAll_28 : decode cX7_findAll 28 = .ok (.iastore, 1) := by decide +kernel
theorem dX7_findAll_29 : decode cX7_findAll 29 = .ok (.iinc 3 1, 3) := by decide +kernel
theorem dX7_findAll_32 : decode cX7_findAll 32 = .ok (.goto (-30), 3) := by decide +kernel
theorem dX7_findAll_35 : decode cX7_findAll 35 = .ok (.iconst 0, 1) := by decide +kernel
theorem dX7_findAll_36 : decode cX7_findAll 36 = .ok (.istore_n 3, 1) := by decide +kernel
theorem dX7_findAll_37 : decode cX7_findAll 37 = .ok (.iload_n 3, 1) := by decide +kernel
theorem dX7_findAll_38 : decode cX7_findAll 38 = .ok (.aload_n 1, 1) := by decide +kernel
theorem dX7_findAll_39 : decode cX7_findAll 39 = .ok (.invokevirtual 39, 3) := by decide +kernel
theorem dX7_findAll_42 : decode cX7_findAll 42 = .ok (.if_icmp .ge 24, 3) := by decide +kernel
theorem dX7_findAll_45 : decode cX7_findAll 45 = .ok (.aload_n 0, 1) := by decide +kernel
theorem dX7_findAll_46 : decode cX7_findAll 46 = .ok (.aload_n 2, 1) := by decide +kernel
theorem dX7_findAll_47 : decode cX7_findAll 47 = .ok (.aload_n 1, 1) := by decide +kernel
theorem dX7_findAll_48 : decode cX7_findAll 48 = .ok (.iload_n 3, 1) := by decide +kernel
theorem dX7_findAll_49 : decode cX7_findAll 49 = .ok (.invokevirtual 44, 3) := by decide +kernel
theorem dX7_findAll_52 : decode cX7_findAll 52 = .ok (.aload_n 1, 1) := by decide +kernel
theorem dX7_findAll_53 : decode cX7_findAll 53 = .ok (.iload_n 3, 1) := by decide +kernel
theorem dX7_findAll_54 : decode cX7_findAll 54 = .ok (.invokevirtual 48, 3) := by decide +kernel
theorem dX7_findAll_57 : decode cX7_findAll 57 = .ok (.invokevirtual 51, 3) := by decide +kernel
theorem dX7_findAll_60 : decode cX7_findAll 60 = .ok (.iinc 3 1, 3) := by decide +kernel
theorem dX7_findAll_63 : decode cX7_findAll 63 = .ok (.goto (-26), 3) := by decide +kernel
theorem dX7_findAll_66 : decode cX7_findAll 66 = .ok (.aload_n 0, 1) := by decide +kernel
theorem dX7_findAll_67 : decode cX7_findAll 67 = .ok (.aload_n 2, 1) := by decide +kernel
theorem dX7_findAll_68 : decode cX7_findAll 68 = .ok (.invokevirtual 55, 3) := by decide +kernel
theorem dX7_findAll_71 : decode cX7_findAll 71 = .ok (.return_, 1) := by decide +kernel
theorem dX7_tieBy_0 : decode cX7_tieBy 0 = .ok (.iconst (-1), 1) := by decide +kernel
theorem dX7_tieBy_1 : decode cX7_tieBy 1 = .ok (.istore 4, 2) := by decide +kernel
theorem dX7_tieBy_3 : decode cX7_tieBy 3 = .ok (.iconst 0, 1) := by decide +kernel
theorem dX7_tieBy_4 : decode cX7_tieBy 4 = .ok (.istore 5, 2) := by decide +kernel
theorem dX7_tieBy_6 : decode cX7_tieBy 6 = .ok (.iload 5, 2) := by decide +kernel
theorem dX7_tieBy_8 : decode cX7_tieBy 8 = .ok (.aload_n 1, 1) := by decide +kernel
theorem dX7_tieBy_9 : decode cX7_tieBy 9 = .ok (.invokevirtual 33, 3) := by decide +kernel
theorem dX7_tieBy_12 : decode cX7_tieBy 12 = .ok (.if_icmp .ge 86, 3) := by decide +kernel
theorem dX7_tieBy_15 : decode cX7_tieBy 15 = .ok (.aload_n 1, 1) := by decide +kernel
theorem dX7_tieBy_16 : decode cX7_tieBy 16 = .ok (.iload 5, 2) := by decide +kernel
theorem dX7_tieBy_18 : decode cX7_tieBy 18 = .ok (.invokevirtual 36, 3) := by decide +kernel
theorem dX7_tieBy_21 : decode cX7_tieBy 21 = .ok (.ifCond .eq 28, 3) := by decide +kernel
theorem dX7_tieBy_24 : decode cX7_tieBy 24 = .ok (.aload_n 1, 1) := by decide +kernel
theorem dX7_tieBy_25 : decode cX7_tieBy 25 = .ok (.iload 5, 2) := by decide +kernel
theorem dX7_tieBy_27 : decode cX7_tieBy 27 = .ok (.iload_n 2, 1) := by decide +kernel
theorem dX7_tieBy_28 : decode cX7_tieBy 28 = .ok (.invokevirtual 59, 3) := by decide +kernel
theorem dX7_tieBy_31 : decode cX7_tieBy 31 = .ok (.ifCond .eq 18, 3) := by decide +kernel
theorem dX7_tieBy_34 : decode cX7_tieBy 34 = .ok (.iload_n 3, 1) := by decide +kernel
theorem dX7_tieBy_35 : decode cX7_tieBy 35 = .ok (.aload_n 1, 1) := by decide +kernel
theorem dX7_tieBy_36 : decode cX7_tieBy 36 = .ok (.iload 5, 2) := by decide +kernel
theorem dX7_tieBy_38 : decode cX7_tieBy 38 = .ok (.invokevirtual 63, 3) := by decide +kernel
theorem dX7_tieBy_41 : decode cX7_tieBy 41 = .ok (.iand, 1) := by decide +kernel
theorem dX7_tieBy_42 : decode cX7_tieBy 42 = .ok (.ifCond .eq 7, 3) := by decide +kernel
theorem dX7_tieBy_45 : decode cX7_tieBy 45 = .ok (.iconst 1, 1) := by decide +kernel
theorem dX7_tieBy_46 : decode cX7_tieBy 46 = .ok (.goto 4, 3) := by decide +kernel
theorem dX7_tieBy_49 : decode cX7_tieBy 49 = .ok (.iconst 0, 1) := by decide +kernel
theorem dX7_tieBy_50 : decode cX7_tieBy 50 = .ok (.istore 6, 2) := by decide +kernel
theorem dX7_tieBy_52 : decode cX7_tieBy 52 = .ok (.iload 6, 2) := by decide +kernel
theorem dX7_tieBy_54 : decode cX7_tieBy 54 = .ok (.ifCond .eq 38, 3) := by decide +kernel
theorem dX7_tieBy_57 : decode cX7_tieBy 57 = .ok (.iload 4, 2) := by decide +kernel
theorem dX7_tieBy_59 : decode cX7_tieBy 59 = .ok (.iconst (-1), 1) := by decide +kernel
theorem dX7_tieBy_60 : decode cX7_tieBy 60 = .ok (.if_icmp .ne 13, 3) := by decide +kernel
theorem dX7_tieBy_63 : decode cX7_tieBy 63 = .ok (.aload_n 0, 1) := by decide +kernel
theorem dX7_tieBy_64 : decode cX7_tieBy 64 = .ok (.getfield 11, 3) := by decide +kernel
theorem dX7_tieBy_67 : decode cX7_tieBy 67 = .ok (.iload 5, 2) := by decide +kernel
theorem dX7_tieBy_69 : decode cX7_tieBy 69 = .ok (.iaload, 1) := by decide +kernel
theorem dX7_tieBy_70 : decode cX7_tieBy 70 = .ok (.goto 20, 3) := by decide +kernel
theorem dX7_tieBy_73 : decode cX7_tieBy 73 = .ok (.aload_n 0, 1) := by decide +kernel
theorem dX7_tieBy_74 : decode cX7_tieBy 74 = .ok (.iload 4, 2) := by decide +kernel
theorem dX7_tieBy_76 : decode cX7_tieBy 76 = .ok (.aload_n 0, 1) := by decide +kernel
theorem dX7_tieBy_77 : decode cX7_tieBy 77 = .ok (.getfield 11, 3) := by decide +kernel
theorem dX7_tieBy_80 : decode cX7_tieBy 80 = .ok (.iload 5, 2) := by decide +kernel
theorem dX7_tieBy_82 : decode cX7_tieBy 82 = .ok (.iaload, 1) := by decide +kernel
theorem dX7_tieBy_83 : decode cX7_tieBy 83 = .ok (.aload_n 1, 1) := by decide +kernel
theorem dX7_tieBy_84 : decode cX7_tieBy 84 = .ok (.invokevirtual 33, 3) := by decide +kernel
theorem dX7_tieBy_87 : decode cX7_tieBy 87 = .ok (.invokevirtual 64, 3) := by decide +kernel
theorem dX7_tieBy_90 : decode cX7_tieBy 90 = .ok (.istore 4, 2) := by decide +kernel
theorem dX7_tieBy_92 : decode cX7_tieBy 92 = .ok (.iinc 5 1, 3) := by decide +kernel
theorem dX7_tieBy_95 : decode cX7_tieBy 95 = .ok (.goto (-89), 3) := by decide +kernel
theorem dX7_tieBy_98 : decode cX7_tieBy 98 = .ok (.return_, 1) := by decide +kernel
theorem dX7_joined_0 : decode cX7_joined 0 = .ok (.iload_n 1, 1) := by decide +kernel
theorem dX7_joined_1 : decode cX7_joined 1 = .ok (.iload_n 2, 1) := by decide +kernel
theorem dX7_joined_2 : decode cX7_joined 2 = .ok (.invokestatic 68, 3) := by decide +kernel
theorem dX7_joined_5 : decode cX7_joined 5 = .ok (.istore 4, 2) := by decide +kernel
theorem dX7_joined_7 : decode cX7_joined 7 = .ok (.iload_n 1, 1) := by decide +kernel
theorem dX7_joined_8 : decode cX7_joined 8 = .ok (.iload_n 2, 1) := by decide +kernel
theorem dX7_joined_9 : decode cX7_joined 9 = .ok (.invokestatic 74, 3) := by decide +kernel
theorem dX7_joined_12 : decode cX7_joined 12 = .ok (.istore 5, 2) := by decide +kernel
theorem dX7_joined_14 : decode cX7_joined 14 = .ok (.iconst 0, 1) := by decide +kernel
theorem dX7_joined_15 : decode cX7_joined 15 = .ok (.istore 6, 2) := by decide +kernel
theorem dX7_joined_17 : decode cX7_joined 17 = .ok (.iload 6, 2) := by decide +kernel
theorem dX7_joined_19 : decode cX7_joined 19 = .ok (.iload_n 3, 1) := by decide +kernel
theorem dX7_joined_20 : decode cX7_joined 20 = .ok (.if_icmp .ge 30, 3) := by decide +kernel
theorem dX7_joined_23 : decode cX7_joined 23 = .ok (.aload_n 0, 1) := by decide +kernel
theorem dX7_joined_24 : decode cX7_joined 24 = .ok (.getfield 11, 3) := by decide +kernel
theorem dX7_joined_27 : decode cX7_joined 27 = .ok (.iload 6, 2) := by decide +kernel
theorem dX7_joined_29 : decode cX7_joined 29 = .ok (.iaload, 1) := by decide +kernel
theorem dX7_joined_30 : decode cX7_joined 30 = .ok (.iload 5, 2) := by decide +kernel
theorem dX7_joined_32 : decode cX7_joined 32 = .ok (.if_icmp .ne 12, 3) := by decide +kernel
theorem dX7_joined_35 : decode cX7_joined 35 = .ok (.aload_n 0, 1) := by decide +kernel
theorem dX7_joined_36 : decode cX7_joined 36 = .ok (.getfield 11, 3) := by decide +kernel
theorem dX7_joined_39 : decode cX7_joined 39 = .ok (.iload 6, 2) := by decide +kernel
theorem dX7_joined_41 : decode cX7_joined 41 = .ok (.iload 4, 2) := by decide +kernel
theorem dX7_joined_43 : decode cX7_joined 43 = .ok (.iastore, 1) := by decide +kernel
theorem dX7_joined_44 : decode cX7_joined 44 = .ok (.iinc 6 1, 3) := by decide +kernel
theorem dX7_joined_47 : decode cX7_joined 47 = .ok (.goto (-30), 3) := by decide +kernel
theorem dX7_joined_50 : decode cX7_joined 50 = .ok (.iload 4, 2) := by decide +kernel
theorem dX7_joined_52 : decode cX7_joined 52 = .ok (.ireturn, 1) := by decide +kernel
theorem dX7_numberHeaps_0 : decode cX7_numberHeaps 0 = .ok (.aload_n 0, 1) := by decide +kernel
theorem dX7_numberHeaps_1 : decode cX7_numberHeaps 1 = .ok (.iconst 0, 1) := by decide +kernel
theorem dX7_numberHeaps_2 : decode cX7_numberHeaps 2 = .ok (.putfield 22, 3) := by decide +kernel
theorem dX7_numberHeaps_5 : decode cX7_numberHeaps 5 = .ok (.iconst 0, 1) := by decide +kernel
theorem dX7_numberHeaps_6 : decode cX7_numberHeaps 6 = .ok (.istore_n 2, 1) := by decide +kernel
theorem dX7_numberHeaps_7 : decode cX7_numberHeaps 7 = .ok (.iload_n 2, 1) := by decide +kernel
theorem dX7_numberHeaps_8 : decode cX7_numberHeaps 8 = .ok (.aload_n 1, 1) := by decide +kernel
theorem dX7_numberHeaps_9 : decode cX7_numberHeaps 9 = .ok (.invokevirtual 33, 3) := by decide +kernel
theorem dX7_numberHeaps_12 : decode cX7_numberHeaps 12 = .ok (.if_icmp .ge 62, 3) := by decide +kernel
theorem dX7_numberHeaps_15 : decode cX7_numberHeaps 15 = .ok (.aload_n 1, 1) := by decide +kernel
theorem dX7_numberHeaps_16 : decode cX7_numberHeaps 16 = .ok (.iload_n 2, 1) := by decide +kernel
theorem dX7_numberHeaps_17 : decode cX7_numberHeaps 17 = .ok (.invokevirtual 36, 3) := by decide +kernel
theorem dX7_numberHeaps_20 : decode cX7_numberHeaps 20 = .ok (.ifCond .eq 48, 3) := by decide +kernel
theorem dX7_numberHeaps_23 : decode cX7_numberHeaps 23 = .ok (.aload_n 0, 1) := by decide +kernel
theorem dX7_numberHeaps_24 : decode cX7_numberHeaps 24 = .ok (.getfield 11, 3) := by decide +kernel
theorem dX7_numberHeaps_27 : decode cX7_numberHeaps 27 = .ok (.iload_n 2, 1) := by decide +kernel
theorem dX7_numberHeaps_28 : decode cX7_numberHeaps 28 = .ok (.iaload, 1) := by decide +kernel
theorem dX7_numberHeaps_29 : decode cX7_numberHeaps 29 = .ok (.iload_n 2, 1) := by decide +kernel
theorem dX7_numberHeaps_30 : decode cX7_numberHeaps 30 = .ok (.if_icmp .ne 12, 3) := by decide +kernel
theorem dX7_numberHeaps_33 : decode cX7_numberHeaps 33 = .ok (.aload_n 0, 1) := by decide +kernel
theorem dX7_numberHeaps_34 : decode cX7_numberHeaps 34 = .ok (.aload_n 1, 1) := by decide +kernel
theorem dX7_numberHeaps_35 : decode cX7_numberHeaps 35 = .ok (.iload_n 2, 1) := by decide +kernel
theorem dX7_numberHeaps_36 : decode cX7_numberHeaps 36 = .ok (.invokevirtual 77, 3) := by decide +kernel
theorem dX7_numberHeaps_39 : decode cX7_numberHeaps 39 = .ok (.goto 15, 3) := by decide +kernel
theorem dX7_numberHeaps_42 : decode cX7_numberHeaps 42 = .ok (.aload_n 1, 1) := by decide +kernel
theorem dX7_numberHeaps_43 : decode cX7_numberHeaps 43 = .ok (.aload_n 0, 1) := by decide +kernel
theorem dX7_numberHeaps_44 : decode cX7_numberHeaps 44 = .ok (.getfield 11, 3) := by decide +kernel
theorem dX7_numberHeaps_47 : decode cX7_numberHeaps 47 = .ok (.iload_n 2, 1) := by decide +kernel
theorem dX7_numberHeaps_48 : decode cX7_numberHeaps 48 = .ok (.iaload, 1) := by decide +kernel
theorem dX7_numberHeaps_49 : decode cX7_numberHeaps 49 = .ok (.bipush 8, 2) := by decide +kernel
theorem dX7_numberHeaps_51 : decode cX7_numberHeaps 51 = .ok (.invokevirtual 81, 3) := by decide +kernel
theorem dX7_numberHeaps_54 : decode cX7_numberHeaps 54 = .ok (.istore_n 3, 1) := by decide +kernel
theorem dX7_numberHeaps_55 : decode cX7_numberHeaps 55 = .ok (.aload_n 1, 1) := by decide +kernel
theorem dX7_numberHeaps_56 : decode cX7_numberHeaps 56 = .ok (.iload_n 2, 1) := by decide +kernel
theorem dX7_numberHeaps_57 : decode cX7_numberHeaps 57 = .ok (.iload_n 3, 1) := by decide +kernel
theorem dX7_numberHeaps_58 : decode cX7_numberHeaps 58 = .ok (.invokevirtual 84, 3) := by decide +kernel
theorem dX7_numberHeaps_61 : decode cX7_numberHeaps 61 = .ok (.aload_n 0, 1) := by decide +kernel
theorem dX7_numberHeaps_62 : decode cX7_numberHeaps 62 = .ok (.iload_n 3, 1) := by decide +kernel
theorem dX7_numberHeaps_63 : decode cX7_numberHeaps 63 = .ok (.aload_n 1, 1) := by decide +kernel
theorem dX7_numberHeaps_64 : decode cX7_numberHeaps 64 = .ok (.iload_n 2, 1) := by decide +kernel
theorem dX7_numberHeaps_65 : decode cX7_numberHeaps 65 = .ok (.invokevirtual 88, 3) := by decide +kernel
theorem dX7_numberHeaps_68 : decode cX7_numberHeaps 68 = .ok (.iinc 2 1, 3) := by decide +kernel
theorem dX7_numberHeaps_71 : decode cX7_numberHeaps 71 = .ok (.goto (-64), 3) := by decide +kernel
theorem dX7_numberHeaps_74 : decode cX7_numberHeaps 74 = .ok (.return_, 1) := by decide +kernel
theorem dX7_begun_0 : decode cX7_begun 0 = .ok (.aload_n 0, 1) := by decide +kernel
theorem dX7_begun_1 : decode cX7_begun 1 = .ok (.getfield 22, 3) := by decide +kernel
theorem dX7_begun_4 : decode cX7_begun 4 = .ok (.bipush 48, 2) := by decide +kernel
theorem dX7_begun_6 : decode cX7_begun 6 = .ok (.if_icmp .lt 5, 3) := by decide +kernel
theorem dX7_begun_9 : decode cX7_begun 9 = .ok (.iconst (-1), 1) := by decide +kernel
theorem dX7_begun_10 : decode cX7_begun 10 = .ok (.ireturn, 1) := by decide +kernel
theorem dX7_begun_11 : decode cX7_begun 11 = .ok (.aload_n 0, 1) := by decide +kernel
theorem dX7_begun_12 : decode cX7_begun 12 = .ok (.getfield 19, 3) := by decide +kernel
theorem dX7_begun_15 : decode cX7_begun 15 = .ok (.iconst 0, 1) := by decide +kernel
theorem dX7_begun_16 : decode cX7_begun 16 = .ok (.aaload, 1) := by decide +kernel
theorem dX7_begun_17 : decode cX7_begun 17 = .ok (.aload_n 0, 1) := by decide +kernel
theorem dX7_begun_18 : decode cX7_begun 18 = .ok (.getfield 22, 3) := by decide +kernel
theorem dX7_begun_21 : decode cX7_begun 21 = .ok (.iconst 0, 1) := by decide +kernel
theorem dX7_begun_22 : decode cX7_begun 22 = .ok (.iastore, 1) := by decide +kernel
theorem dX7_begun_23 : decode cX7_begun 23 = .ok (.aload_n 0, 1) := by decide +kernel
theorem dX7_begun_24 : decode cX7_begun 24 = .ok (.getfield 19, 3) := by decide +kernel
theorem dX7_begun_27 : decode cX7_begun 27 = .ok (.iconst 1, 1) := by decide +kernel
theorem dX7_begun_28 : decode cX7_begun 28 = .ok (.aaload, 1) := by decide +kernel
theorem dX7_begun_29 : decode cX7_begun 29 = .ok (.aload_n 0, 1) := by decide +kernel
theorem dX7_begun_30 : decode cX7_begun 30 = .ok (.getfield 22, 3) := by decide +kernel
theorem dX7_begun_33 : decode cX7_begun 33 = .ok (.iconst 0, 1) := by decide +kernel
theorem dX7_begun_34 : decode cX7_begun 34 = .ok (.iastore, 1) := by decide +kernel
theorem dX7_begun_35 : decode cX7_begun 35 = .ok (.aload_n 0, 1) := by decide +kernel
theorem dX7_begun_36 : decode cX7_begun 36 = .ok (.getfield 19, 3) := by decide +kernel
theorem dX7_begun_39 : decode cX7_begun 39 = .ok (.iconst 2, 1) := by decide +kernel
theorem dX7_begun_40 : decode cX7_begun 40 = .ok (.aaload, 1) := by decide +kernel
theorem dX7_begun_41 : decode cX7_begun 41 = .ok (.aload_n 0, 1) := by decide +kernel
theorem dX7_begun_42 : decode cX7_begun 42 = .ok (.getfield 22, 3) := by decide +kernel
theorem dX7_begun_45 : decode cX7_begun 45 = .ok (.aload_n 1, 1) := by decide +kernel
theorem dX7_begun_46 : decode cX7_begun 46 = .ok (.iload_n 2, 1) := by decide +kernel
theorem dX7_begun_47 : decode cX7_begun 47 = .ok (.iconst 2, 1) := by decide +kernel
theorem dX7_begun_48 : decode cX7_begun 48 = .ok (.invokevirtual 81, 3) := by decide +kernel
theorem dX7_begun_51 : decode cX7_begun 51 = .ok (.iastore, 1) := by decide +kernel
theorem dX7_begun_52 : decode cX7_begun 52 = .ok (.aload_n 0, 1) := by decide +kernel
theorem dX7_begun_53 : decode cX7_begun 53 = .ok (.getfield 19, 3) := by decide +kernel
theorem dX7_begun_56 : decode cX7_begun 56 = .ok (.iconst 3, 1) := by decide +kernel
theorem dX7_begun_57 : decode cX7_begun 57 = .ok (.aaload, 1) := by decide +kernel
theorem dX7_begun_58 : decode cX7_begun 58 = .ok (.aload_n 0, 1) := by decide +kernel
theorem dX7_begun_59 : decode cX7_begun 59 = .ok (.getfield 22, 3) := by decide +kernel
theorem dX7_begun_62 : decode cX7_begun 62 = .ok (.aload_n 1, 1) := by decide +kernel
theorem dX7_begun_63 : decode cX7_begun 63 = .ok (.iload_n 2, 1) := by decide +kernel
theorem dX7_begun_64 : decode cX7_begun 64 = .ok (.iconst 3, 1) := by decide +kernel
theorem dX7_begun_65 : decode cX7_begun 65 = .ok (.invokevirtual 81, 3) := by decide +kernel
theorem dX7_begun_68 : decode cX7_begun 68 = .ok (.iastore, 1) := by decide +kernel
theorem dX7_begun_69 : decode cX7_begun 69 = .ok (.aload_n 0, 1) := by decide +kernel
theorem dX7_begun_70 : decode cX7_begun 70 = .ok (.dup, 1) := by decide +kernel
theorem dX7_begun_71 : decode cX7_begun 71 = .ok (.getfield 22, 3) := by decide +kernel
theorem dX7_begun_74 : decode cX7_begun 74 = .ok (.iconst 1, 1) := by decide +kernel
theorem dX7_begun_75 : decode cX7_begun 75 = .ok (.iadd, 1) := by decide +kernel
theorem dX7_begun_76 : decode cX7_begun 76 = .ok (.putfield 22, 3) := by decide +kernel
theorem dX7_begun_79 : decode cX7_begun 79 = .ok (.aload_n 0, 1) := by decide +kernel
theorem dX7_begun_80 : decode cX7_begun 80 = .ok (.getfield 22, 3) := by decide +kernel
theorem dX7_begun_83 : decode cX7_begun 83 = .ok (.iconst 1, 1) := by decide +kernel
theorem dX7_begun_84 : decode cX7_begun 84 = .ok (.isub, 1) := by decide +kernel
theorem dX7_begun_85 : decode cX7_begun 85 = .ok (.ireturn, 1) := by decide +kernel
theorem dX7_grow_0 : decode cX7_grow 0 = .ok (.aload_n 0, 1) := by decide +kernel
theorem dX7_grow_1 : decode cX7_grow 1 = .ok (.iload_n 1, 1) := by decide +kernel
theorem dX7_grow_2 : decode cX7_grow 2 = .ok (.invokevirtual 26, 3) := by decide +kernel
theorem dX7_grow_5 : decode cX7_grow 5 = .ok (.ifCond .ne 4, 3) := by decide +kernel
theorem dX7_grow_8 : decode cX7_grow 8 = .ok (.return_, 1) := by decide +kernel
theorem dX7_grow_9 : decode cX7_grow 9 = .ok (.aload_n 0, 1) := by decide +kernel
theorem dX7_grow_10 : decode cX7_grow 10 = .ok (.getfield 19, 3) := by decide +kernel
theorem dX7_grow_13 : decode cX7_grow 13 = .ok (.iconst 0, 1) := by decide +kernel
theorem dX7_grow_14 : decode cX7_grow 14 = .ok (.aaload, 1) := by decide +kernel
theorem dX7_grow_15 : decode cX7_grow 15 = .ok (.iload_n 1, 1) := by decide +kernel
theorem dX7_grow_16 : decode cX7_grow 16 = .ok (.dup2, 1) := by decide +kernel
theorem dX7_grow_17 : decode cX7_grow 17 = .ok (.iaload, 1) := by decide +kernel
theorem dX7_grow_18 : decode cX7_grow 18 = .ok (.iconst 1, 1) := by decide +kernel
theorem dX7_grow_19 : decode cX7_grow 19 = .ok (.iadd, 1) := by decide +kernel
theorem dX7_grow_20 : decode cX7_grow 20 = .ok (.iastore, 1) := by decide +kernel
theorem dX7_grow_21 : decode cX7_grow 21 = .ok (.aload_n 0, 1) := by decide +kernel
theorem dX7_grow_22 : decode cX7_grow 22 = .ok (.getfield 19, 3) := by decide +kernel
theorem dX7_grow_25 : decode cX7_grow 25 = .ok (.iconst 1, 1) := by decide +kernel
theorem dX7_grow_26 : decode cX7_grow 26 = .ok (.aaload, 1) := by decide +kernel
theorem dX7_grow_27 : decode cX7_grow 27 = .ok (.iload_n 1, 1) := by decide +kernel
theorem dX7_grow_28 : decode cX7_grow 28 = .ok (.dup2, 1) := by decide +kernel
theorem dX7_grow_29 : decode cX7_grow 29 = .ok (.iaload, 1) := by decide +kernel
theorem dX7_grow_30 : decode cX7_grow 30 = .ok (.aload_n 2, 1) := by decide +kernel
theorem dX7_grow_31 : decode cX7_grow 31 = .ok (.iload_n 3, 1) := by decide +kernel
theorem dX7_grow_32 : decode cX7_grow 32 = .ok (.invokevirtual 63, 3) := by decide +kernel
theorem dX7_grow_35 : decode cX7_grow 35 = .ok (.ior, 1) := by decide +kernel
theorem dX7_grow_36 : decode cX7_grow 36 = .ok (.iastore, 1) := by decide +kernel
theorem dX7_grow_37 : decode cX7_grow 37 = .ok (.aload_n 0, 1) := by decide +kernel
theorem dX7_grow_38 : decode cX7_grow 38 = .ok (.getfield 19, 3) := by decide +kernel
theorem dX7_grow_41 : decode cX7_grow 41 = .ok (.iconst 2, 1) := by decide +kernel
theorem dX7_grow_42 : decode cX7_grow 42 = .ok (.aaload, 1) := by decide +kernel
theorem dX7_grow_43 : decode cX7_grow 43 = .ok (.iload_n 1, 1) := by decide +kernel
theorem dX7_grow_44 : decode cX7_grow 44 = .ok (.aload_n 0, 1) := by decide +kernel
theorem dX7_grow_45 : decode cX7_grow 45 = .ok (.getfield 19, 3) := by decide +kernel
theorem dX7_grow_48 : decode cX7_grow 48 = .ok (.iconst 2, 1) := by decide +kernel
theorem dX7_grow_49 : decode cX7_grow 49 = .ok (.aaload, 1) := by decide +kernel
theorem dX7_grow_50 : decode cX7_grow 50 = .ok (.iload_n 1, 1) := by decide +kernel
theorem dX7_grow_51 : decode cX7_grow 51 = .ok (.iaload, 1) := by decide +kernel
theorem dX7_grow_52 : decode cX7_grow 52 = .ok (.aload_n 2, 1) := by decide +kernel
theorem dX7_grow_53 : decode cX7_grow 53 = .ok (.iload_n 3, 1) := by decide +kernel
theorem dX7_grow_54 : decode cX7_grow 54 = .ok (.iconst 2, 1) := by decide +kernel
theorem dX7_grow_55 : decode cX7_grow 55 = .ok (.invokevirtual 81, 3) := by decide +kernel
theorem dX7_grow_58 : decode cX7_grow 58 = .ok (.invokestatic 68, 3) := by decide +kernel
theorem dX7_grow_61 : decode cX7_grow 61 = .ok (.iastore, 1) := by decide +kernel
theorem dX7_grow_62 : decode cX7_grow 62 = .ok (.aload_n 0, 1) := by decide +kernel
theorem dX7_grow_63 : decode cX7_grow 63 = .ok (.getfield 19, 3) := by decide +kernel
theorem dX7_grow_66 : decode cX7_grow 66 = .ok (.iconst 3, 1) := by decide +kernel
theorem dX7_grow_67 : decode cX7_grow 67 = .ok (.aaload, 1) := by decide +kernel
theorem dX7_grow_68 : decode cX7_grow 68 = .ok (.iload_n 1, 1) := by decide +kernel
theorem dX7_grow_69 : decode cX7_grow 69 = .ok (.aload_n 0, 1) := by decide +kernel
theorem dX7_grow_70 : decode cX7_grow 70 = .ok (.getfield 19, 3) := by decide +kernel
theorem dX7_grow_73 : decode cX7_grow 73 = .ok (.iconst 3, 1) := by decide +kernel
theorem dX7_grow_74 : decode cX7_grow 74 = .ok (.aaload, 1) := by decide +kernel
theorem dX7_grow_75 : decode cX7_grow 75 = .ok (.iload_n 1, 1) := by decide +kernel
theorem dX7_grow_76 : decode cX7_grow 76 = .ok (.iaload, 1) := by decide +kernel
theorem dX7_grow_77 : decode cX7_grow 77 = .ok (.aload_n 2, 1) := by decide +kernel
theorem dX7_grow_78 : decode cX7_grow 78 = .ok (.iload_n 3, 1) := by decide +kernel
theorem dX7_grow_79 : decode cX7_grow 79 = .ok (.iconst 3, 1) := by decide +kernel
theorem dX7_grow_80 : decode cX7_grow 80 = .ok (.invokevirtual 81, 3) := by decide +kernel
theorem dX7_grow_83 : decode cX7_grow 83 = .ok (.invokestatic 74, 3) := by decide +kernel
theorem dX7_grow_86 : decode cX7_grow 86 = .ok (.iastore, 1) := by decide +kernel
theorem dX7_grow_87 : decode cX7_grow 87 = .ok (.return_, 1) := by decide +kernel
theorem dX8_init_0 : decode cX8_init 0 = .ok (.aload_n 0, 1) := by decide +kernel
theorem dX8_init_1 : decode cX8_init 1 = .ok (.invokespecial 3, 3) := by decide +kernel
theorem dX8_init_4 : decode cX8_init 4 = .ok (.aload_n 0, 1) := by decide +kernel
theorem dX8_init_5 : decode cX8_init 5 = .ok (.bipush 12, 2) := by decide +kernel
theorem dX8_init_7 : decode cX8_init 7 = .ok (.newarray .int, 2) := by decide +kernel
theorem dX8_init_9 : decode cX8_init 9 = .ok (.putfield 9, 3) := by decide +kernel
theorem dX8_init_12 : decode cX8_init 12 = .ok (.aload_n 0, 1) := by decide +kernel
theorem dX8_init_13 : decode cX8_init 13 = .ok (.bipush 8, 2) := by decide +kernel
theorem dX8_init_15 : decode cX8_init 15 = .ok (.bipush 12, 2) := by decide +kernel
theorem dX8_init_17 : decode cX8_init 17 = .ok (.multianewarray 15 2, 4) := by decide +kernel
theorem dX8_init_21 : decode cX8_init 21 = .ok (.putfield 17, 3) := by decide +kernel
theorem dX8_init_24 : decode cX8_init 24 = .ok (.aload_n 0, 1) := by decide +kernel
theorem dX8_init_25 : decode cX8_init 25 = .ok (.bipush 8, 2) := by decide +kernel
theorem dX8_init_27 : decode cX8_init 27 = .ok (.bipush 12, 2) := by decide +kernel
theorem dX8_init_29 : decode cX8_init 29 = .ok (.multianewarray 15 2, 4) := by decide +kernel
theorem dX8_init_33 : decode cX8_init 33 = .ok (.putfield 20, 3) := by decide +kernel
theorem dX8_init_36 : decode cX8_init 36 = .ok (.aload_n 0, 1) := by decide +kernel
theorem dX8_init_37 : decode cX8_init 37 = .ok (.iconst 0, 1) := by decide +kernel
theorem dX8_init_38 : decode cX8_init 38 = .ok (.putfield 23, 3) := by decide +kernel
theorem dX8_init_41 : decode cX8_init 41 = .ok (.aload_n 0, 1) := by decide +kernel
theorem dX8_init_42 : decode cX8_init 42 = .ok (.iconst 0, 1) := by decide +kernel
theorem dX8_init_43 : decode cX8_init 43 = .ok (.putfield 27, 3) := by decide +kernel
theorem dX8_init_46 : decode cX8_init 46 = .ok (.aload_n 0, 1) := by decide +kernel
theorem dX8_init_47 : decode cX8_init 47 = .ok (.iconst 0, 1) := by decide +kernel
theorem dX8_init_48 : decode cX8_init 48 = .ok (.putfield 30, 3) := by decide +kernel
theorem dX8_init_51 : decode cX8_init 51 = .ok (.aload_n 0, 1) := by decide +kernel
theorem dX8_init_52 : decode cX8_init 52 = .ok (.iconst 0, 1) := by decide +kernel
theorem dX8_init_53 : decode cX8_init 53 = .ok (.putfield 33, 3) := by decide +kernel
theorem dX8_init_56 : decode cX8_init 56 = .ok (.aload_n 0, 1) := by decide +kernel
theorem dX8_init_57 : decode cX8_init 57 = .ok (.iconst 0, 1) := by decide +kernel
theorem dX8_init_58 : decode cX8_init 58 = .ok (.putfield 36, 3) := by decide +kernel
theorem dX8_init_61 : decode cX8_init 61 = .ok (.return_, 1) := by decide +kernel
theorem dX8_countAll_0 : decode cX8_countAll 0 = .ok (.aload_n 0, 1) := by decide +kernel
theorem dX8_countAll_1 : decode cX8_countAll 1 = .ok (.aload_n 1, 1) := by decide +kernel
theorem dX8_countAll_2 : decode cX8_countAll 2 = .ok (.invokevirtual 39, 3) := by decide +kernel
theorem dX8_countAll_5 : decode cX8_countAll 5 = .ok (.putfield 23, 3) := by decide +kernel
theorem dX8_countAll_8 : decode cX8_countAll 8 = .ok (.aload_n 0, 1) := by decide +kernel
theorem dX8_countAll_9 : decode cX8_countAll 9 = .ok (.aload_n 1, 1) := by decide +kernel
theorem dX8_countAll_10 : decode cX8_countAll 10 = .ok (.invokevirtual 44, 3) := by decide +kernel
theorem dX8_countAll_13 : decode cX8_countAll 13 = .ok (.putfield 27, 3) := by decide +kernel
theorem dX8_countAll_16 : decode cX8_countAll 16 = .ok (.aload_n 0, 1) := by decide +kernel
theorem dX8_countAll_17 : decode cX8_countAll 17 = .ok (.aload_n 1, 1) := by decide +kernel
theorem dX8_countAll_18 : decode cX8_countAll 18 = .ok (.invokevirtual 47, 3) := by decide +kernel
theorem dX8_countAll_21 : decode cX8_countAll 21 = .ok (.putfield 30, 3) := by decide +kernel
theorem dX8_countAll_24 : decode cX8_countAll 24 = .ok (.aload_n 0, 1) := by decide +kernel
theorem dX8_countAll_25 : decode cX8_countAll 25 = .ok (.aload_n 1, 1) := by decide +kernel
theorem dX8_countAll_26 : decode cX8_countAll 26 = .ok (.invokevirtual 49, 3) := by decide +kernel
theorem dX8_countAll_29 : decode cX8_countAll 29 = .ok (.putfield 33, 3) := by decide +kernel
theorem dX8_countAll_32 : decode cX8_countAll 32 = .ok (.aload_n 0, 1) := by decide +kernel
theorem dX8_countAll_33 : decode cX8_countAll 33 = .ok (.aload_n 1, 1) := by decide +kernel
theorem dX8_countAll_34 : decode cX8_countAll 34 = .ok (.invokevirtual 51, 3) := by decide +kernel
theorem dX8_countAll_37 : decode cX8_countAll 37 = .ok (.putfield 36, 3) := by decide +kernel
theorem dX8_countAll_40 : decode cX8_countAll 40 = .ok (.iconst 0, 1) := by decide +kernel
theorem dX8_countAll_41 : decode cX8_countAll 41 = .ok (.istore_n 2, 1) := by decide +kernel
theorem dX8_countAll_42 : decode cX8_countAll 42 = .ok (.iload_n 2, 1) := by decide +kernel
theorem dX8_countAll_43 : decode cX8_countAll 43 = .ok (.bipush 12, 2) := by decide +kernel
theorem dX8_countAll_45 : decode cX8_countAll 45 = .ok (.if_icmp .ge 21, 3) := by decide +kernel
theorem dX8_countAll_48 : decode cX8_countAll 48 = .ok (.aload_n 0, 1) := by decide +kernel
theorem dX8_countAll_49 : decode cX8_countAll 49 = .ok (.getfield 9, 3) := by decide +kernel
theorem dX8_countAll_52 : decode cX8_countAll 52 = .ok (.iload_n 2, 1) := by decide +kernel
theorem dX8_countAll_53 : decode cX8_countAll 53 = .ok (.aload_n 1, 1) := by decide +kernel
theorem dX8_countAll_54 : decode cX8_countAll 54 = .ok (.iconst 0, 1) := by decide +kernel
theorem dX8_countAll_55 : decode cX8_countAll 55 = .ok (.iload_n 2, 1) := by decide +kernel
theorem dX8_countAll_56 : decode cX8_countAll 56 = .ok (.invokevirtual 53, 3) := by decide +kernel
theorem dX8_countAll_59 : decode cX8_countAll 59 = .ok (.iastore, 1) := by decide +kernel
theorem dX8_countAll_60 : decode cX8_countAll 60 = .ok (.iinc 2 1, 3) := by decide +kernel
theorem dX8_countAll_63 : decode cX8_countAll 63 = .ok (.goto (-21), 3) := by decide +kernel
theorem dX8_countAll_66 : decode cX8_countAll 66 = .ok (.iconst 0, 1) := by decide +kernel
theorem dX8_countAll_67 : decode cX8_countAll 67 = .ok (.istore_n 2, 1) := by decide +kernel
theorem dX8_countAll_68 : decode cX8_countAll 68 = .ok (.iload_n 2, 1) := by decide +kernel
theorem dX8_countAll_69 : decode cX8_countAll 69 = .ok (.bipush 8, 2) := by decide +kernel
theorem dX8_countAll_71 : decode cX8_countAll 71 = .ok (.if_icmp .ge 15, 3) := by decide +kernel
theorem dX8_countAll_74 : decode cX8_countAll 74 = .ok (.aload_n 0, 1) := by decide +kernel
theorem dX8_countAll_75 : decode cX8_countAll 75 = .ok (.aload_n 1, 1) := by decide +kernel
theorem dX8_countAll_76 : decode cX8_countAll 76 = .ok (.iload_n 2, 1) := by decide +kernel
theorem dX8_countAll_77 : decode cX8_countAll 77 = .ok (.invokevirtual 57, 3) := by decide +kernel
theorem dX8_countAll_80 : decode cX8_countAll 80 = .ok (.iinc 2 1, 3) := by decide +kernel
theorem dX8_countAll_83 : decode cX8_countAll 83 = .ok (.goto (-15), 3) := by decide +kernel
theorem dX8_countAll_86 : decode cX8_countAll 86 = .ok (.return_, 1) := by decide +kernel
theorem dX8_countWord_0 : decode cX8_countWord 0 = .ok (.aload_n 1, 1) := by decide +kernel
theorem dX8_countWord_1 : decode cX8_countWord 1 = .ok (.invokevirtual 61, 3) := by decide +kernel
theorem dX8_countWord_4 : decode cX8_countWord 4 = .ok (.istore_n 3, 1) := by decide +kernel
theorem dX8_countWord_5 : decode cX8_countWord 5 = .ok (.aload_n 1, 1) := by decide +kernel
theorem dX8_countWord_6 : decode cX8_countWord 6 = .ok (.iload_n 2, 1) := by decide +kernel
theorem dX8_countWord_7 : decode cX8_countWord 7 = .ok (.invokestatic 64, 3) := by decide +kernel
theorem dX8_countWord_10 : decode cX8_countWord 10 = .ok (.invokevirtual 68, 3) := by decide +kernel
theorem dX8_countWord_13 : decode cX8_countWord 13 = .ok (.istore 4, 2) := by decide +kernel
theorem dX8_countWord_15 : decode cX8_countWord 15 = .ok (.iconst 0, 1) := by decide +kernel
theorem dX8_countWord_16 : decode cX8_countWord 16 = .ok (.istore 5, 2) := by decide +kernel
theorem dX8_countWord_18 : decode cX8_countWord 18 = .ok (.iload 5, 2) := by decide +kernel
theorem dX8_countWord_20 : decode cX8_countWord 20 = .ok (.bipush 12, 2) := by decide +kernel
theorem dX8_countWord_22 : decode cX8_countWord 22 = .ok (.if_icmp .ge 58, 3) := by decide +kernel
theorem dX8_countWord_25 : decode cX8_countWord 25 = .ok (.aload_n 0, 1) := by decide +kernel
theorem dX8_countWord_26 : decode cX8_countWord 26 = .ok (.getfield 17, 3) := by decide +kernel
theorem dX8_countWord_29 : decode cX8_countWord 29 = .ok (.iload_n 2, 1) := by decide +kernel
theorem dX8_countWord_30 : decode cX8_countWord 30 = .ok (.aaload, 1) := by decide +kernel
theorem dX8_countWord_31 : decode cX8_countWord 31 = .ok (.iload 5, 2) := by decide +kernel
theorem dX8_countWord_33 : decode cX8_countWord 33 = .ok (.aload_n 1, 1) := by decide +kernel
theorem dX8_countWord_34 : decode cX8_countWord 34 = .ok (.iload_n 2, 1) := by decide +kernel
theorem dX8_countWord_35 : decode cX8_countWord 35 = .ok (.invokestatic 64, 3) := by decide +kernel
theorem dX8_countWord_38 : decode cX8_countWord 38 = .ok (.iload 5, 2) := by decide +kernel
theorem dX8_countWord_40 : decode cX8_countWord 40 = .ok (.invokevirtual 53, 3) := by decide +kernel
theorem dX8_countWord_43 : decode cX8_countWord 43 = .ok (.iastore, 1) := by decide +kernel
theorem dX8_countWord_44 : decode cX8_countWord 44 = .ok (.aload_n 0, 1) := by decide +kernel
theorem dX8_countWord_45 : decode cX8_countWord 45 = .ok (.getfield 20, 3) := by decide +kernel
theorem dX8_countWord_48 : decode cX8_countWord 48 = .ok (.iload_n 2, 1) := by decide +kernel
theorem dX8_countWord_49 : decode cX8_countWord 49 = .ok (.aaload, 1) := by decide +kernel
theorem dX8_countWord_50 : decode cX8_countWord 50 = .ok (.iload 5, 2) := by decide +kernel
theorem dX8_countWord_52 : decode cX8_countWord 52 = .ok (.iload_n 3, 1) := by decide +kernel
theorem dX8_countWord_53 : decode cX8_countWord 53 = .ok (.iconst 1, 1) := by decide +kernel
theorem dX8_countWord_54 : decode cX8_countWord 54 = .ok (.if_icmp .ge 7, 3) := by decide +kernel
theorem dX8_countWord_57 : decode cX8_countWord 57 = .ok (.iconst 0, 1) := by decide +kernel
theorem dX8_countWord_58 : decode cX8_countWord 58 = .ok (.goto 15, 3) := by decide +kernel
theorem dX8_countWord_61 : decode cX8_countWord 61 = .ok (.aload_n 0, 1) := by decide +kernel
theorem dX8_countWord_62 : decode cX8_countWord 62 = .ok (.getfield 9, 3) := by decide +kernel
theorem dX8_countWord_65 : decode cX8_countWord 65 = .ok (.iload 5, 2) := by decide +kernel
theorem dX8_countWord_67 : decode cX8_countWord 67 = .ok (.iaload, 1) := by decide +kernel
theorem dX8_countWord_68 : decode cX8_countWord 68 = .ok (.iload 4, 2) := by decide +kernel
theorem dX8_countWord_70 : decode cX8_countWord 70 = .ok (.imul, 1) := by decide +kernel
theorem dX8_countWord_71 : decode cX8_countWord 71 = .ok (.iload_n 3, 1) := by decide +kernel
theorem dX8_countWord_72 : decode cX8_countWord 72 = .ok (.idiv, 1) := by decide +kernel
theorem dX8_countWord_73 : decode cX8_countWord 73 = .ok (.iastore, 1) := by decide +kernel
theorem dX8_countWord_74 : decode cX8_countWord 74 = .ok (.iinc 5 1, 3) := by decide +kernel
theorem dX8_countWord_77 : decode cX8_countWord 77 = .ok (.goto (-59), 3) := by decide +kernel
theorem dX8_countWord_80 : decode cX8_countWord 80 = .ok (.return_, 1) := by decide +kernel
theorem dX8_isDay_0 : decode cX8_isDay 0 = .ok (.iload_n 0, 1) := by decide +kernel
theorem dX8_isDay_1 : decode cX8_isDay 1 = .ok (.ifCond .lt 13, 3) := by decide +kernel
theorem dX8_isDay_4 : decode cX8_isDay 4 = .ok (.iload_n 0, 1) := by decide +kernel
theorem dX8_isDay_5 : decode cX8_isDay 5 = .ok (.bipush 12, 2) := by decide +kernel
theorem dX8_isDay_7 : decode cX8_isDay 7 = .ok (.if_icmp .ge 7, 3) := by decide +kernel
theorem dX8_isDay_10 : decode cX8_isDay 10 = .ok (.iconst 1, 1) := by decide +kernel
theorem dX8_isDay_11 : decode cX8_isDay 11 = .ok (.goto 4, 3) := by decide +kernel
theorem dX8_isDay_14 : decode cX8_isDay 14 = .ok (.iconst 0, 1) := by decide +kernel
theorem dX8_isDay_15 : decode cX8_isDay 15 = .ok (.ireturn, 1) := by decide +kernel
theorem dX8_dayCount_0 : decode cX8_dayCount 0 = .ok (.aload_n 0, 1) := by decide +kernel
theorem dX8_dayCount_1 : decode cX8_dayCount 1 = .ok (.getfield 23, 3) := by decide +kernel
theorem dX8_dayCount_4 : decode cX8_dayCount 4 = .ok (.ireturn, 1) := by decide +kernel
theorem dX8_highest_0 : decode cX8_highest 0 = .ok (.aload_n 0, 1) := by decide +kernel
theorem dX8_highest_1 : decode cX8_highest 1 = .ok (.getfield 27, 3) := by decide +kernel
theorem dX8_highest_4 : decode cX8_highest 4 = .ok (.ireturn, 1) := by decide +kernel
theorem dX8_all_0 : decode cX8_all 0 = .ok (.iload_n 1, 1) := by decide +kernel
theorem dX8_all_1 : decode cX8_all 1 = .ok (.invokestatic 71, 3) := by decide +kernel
theorem dX8_all_4 : decode cX8_all 4 = .ok (.ifCond .eq 12, 3) := by decide +kernel
theorem dX8_all_7 : decode cX8_all 7 = .ok (.aload_n 0, 1) := by decide +kernel
theorem dX8_all_8 : decode cX8_all 8 = .ok (.getfield 9, 3) := by decide +kernel
theorem dX8_all_11 : decode cX8_all 11 = .ok (.iload_n 1, 1) := by decide +kernel
theorem dX8_all_12 : decode cX8_all 12 = .ok (.iaload, 1) := by decide +kernel
theorem dX8_all_13 : decode cX8_all 13 = .ok (.goto 4, 3) := by decide +kernel
theorem dX8_all_16 : decode cX8_all 16 = .ok (.iconst 0, 1) := by decide +kernel
theorem dX8_all_17 : decode cX8_all 17 = .ok (.ireturn, 1) := by decide +kernel
theorem dX8_count_0 : decode cX8_count 0 = .ok (.iload_n 1, 1) := by decide +kernel
theorem dX8_count_1 : decode cX8_count 1 = .ok (.invokestatic 75, 3) := by decide +kernel
theorem dX8_count_4 : decode cX8_count 4 = .ok (.ifCond .eq 21, 3) := by decide +kernel
theorem dX8_count_7 : decode cX8_count 7 = .ok (.iload_n 2, 1) := by decide +kernel
theorem dX8_count_8 : decode cX8_count 8 = .ok (.invokestatic 71, 3) := by decide +kernel
theorem dX8_count_11 : decode cX8_count 11 = .ok (.ifCond .eq 14, 3) := by decide +kernel
theorem dX8_count_14 : decode cX8_count 14 = .ok (.aload_n 0, 1) := by decide +kernel
theorem dX8_count_15 : decode cX8_count 15 = .ok (.getfield 17, 3) := by decide +kernel
theorem dX8_count_18 : decode cX8_count 18 = .ok (.iload_n 1, 1) := by decide +kernel
theorem dX8_count_19 : decode cX8_count 19 = .ok (.aaload, 1) := by decide +kernel
theorem dX8_count_20 : decode cX8_count 20 = .ok (.iload_n 2, 1) := by decide +kernel
theorem dX8_count_21 : decode cX8_count 21 = .ok (.iaload, 1) := by decide +kernel
theorem dX8_count_22 : decode cX8_count 22 = .ok (.goto 4, 3) := by decide +kernel
theorem dX8_count_25 : decode cX8_count 25 = .ok (.iconst 0, 1) := by decide +kernel
theorem dX8_count_26 : decode cX8_count 26 = .ok (.ireturn, 1) := by decide +kernel
theorem dX8_wanted_0 : decode cX8_wanted 0 = .ok (.iload_n 1, 1) := by decide +kernel
theorem dX8_wanted_1 : decode cX8_wanted 1 = .ok (.invokestatic 75, 3) := by decide +kernel
theorem dX8_wanted_4 : decode cX8_wanted 4 = .ok (.ifCond .eq 28, 3) := by decide +kernel
theorem dX8_wanted_7 : decode cX8_wanted 7 = .ok (.iload_n 2, 1) := by decide +kernel
theorem dX8_wanted_8 : decode cX8_wanted 8 = .ok (.invokestatic 71, 3) := by decide +kernel
theorem dX8_wanted_11 : decode cX8_wanted 11 = .ok (.ifCond .eq 21, 3) := by decide +kernel
theorem dX8_wanted_14 : decode cX8_wanted 14 = .ok (.aload_n 0, 1) := by decide +kernel
theorem dX8_wanted_15 : decode cX8_wanted 15 = .ok (.getfield 20, 3) := by decide +kernel
theorem dX8_wanted_18 : decode cX8_wanted 18 = .ok (.iload_n 1, 1) := by decide +kernel
theorem dX8_wanted_19 : decode cX8_wanted 19 = .ok (.aaload, 1) := by decide +kernel
theorem dX8_wanted_20 : decode cX8_wanted 20 = .ok (.iload_n 2, 1) := by decide +kernel
theorem dX8_wanted_21 : decode cX8_wanted 21 = .ok (.iaload, 1) := by decide +kernel
theorem dX8_wanted_22 : decode cX8_wanted 22 = .ok (.iload_n 3, 1) := by decide +kernel
theorem dX8_wanted_23 : decode cX8_wanted 23 = .ok (.aload_n 0, 1) := by decide +kernel
theorem dX8_wanted_24 : decode cX8_wanted 24 = .ok (.getfield 33, 3) := by decide +kernel
theorem dX8_wanted_27 : decode cX8_wanted 27 = .ok (.imul, 1) := by decide +kernel
theorem dX8_wanted_28 : decode cX8_wanted 28 = .ok (.iadd, 1) := by decide +kernel
theorem dX8_wanted_29 : decode cX8_wanted 29 = .ok (.goto 4, 3) := by decide +kernel
theorem dX8_wanted_32 : decode cX8_wanted 32 = .ok (.iconst 0, 1) := by decide +kernel
theorem dX8_wanted_33 : decode cX8_wanted 33 = .ok (.ireturn, 1) := by decide +kernel
theorem dX8_unlikely_0 : decode cX8_unlikely 0 = .ok (.aload_n 0, 1) := by decide +kernel
theorem dX8_unlikely_1 : decode cX8_unlikely 1 = .ok (.getfield 30, 3) := by decide +kernel
theorem dX8_unlikely_4 : decode cX8_unlikely 4 = .ok (.aload_n 0, 1) := by decide +kernel
theorem dX8_unlikely_5 : decode cX8_unlikely 5 = .ok (.iload_n 1, 1) := by decide +kernel
theorem dX8_unlikely_6 : decode cX8_unlikely 6 = .ok (.iload_n 2, 1) := by decide +kernel
theorem dX8_unlikely_7 : decode cX8_unlikely 7 = .ok (.invokevirtual 78, 3) := by decide +kernel
theorem dX8_unlikely_10 : decode cX8_unlikely 10 = .ok (.aload_n 0, 1) := by decide +kernel
theorem dX8_unlikely_11 : decode cX8_unlikely 11 = .ok (.iload_n 1, 1) := by decide +kernel
theorem dX8_unlikely_12 : decode cX8_unlikely 12 = .ok (.iload_n 2, 1) := by decide +kernel
theorem dX8_unlikely_13 : decode cX8_unlikely 13 = .ok (.iload_n 3, 1) := by decide +kernel
theorem dX8_unlikely_14 : decode cX8_unlikely 14 = .ok (.invokevirtual 80, 3) := by decide +kernel
theorem dX8_unlikely_17 : decode cX8_unlikely 17 = .ok (.isub, 1) := by decide +kernel
theorem dX8_unlikely_18 : decode cX8_unlikely 18 = .ok (.invokestatic 84, 3) := by decide +kernel
theorem dX8_unlikely_21 : decode cX8_unlikely 21 = .ok (.imul, 1) := by decide +kernel
theorem dX8_unlikely_22 : decode cX8_unlikely 22 = .ok (.ireturn, 1) := by decide +kernel
theorem dX8_costOfRise_0 : decode cX8_costOfRise 0 = .ok (.iload_n 2, 1) := by decide +kernel
theorem dX8_costOfRise_1 : decode cX8_costOfRise 1 = .ok (.iload_n 1, 1) := by decide +kernel
theorem dX8_costOfRise_2 : decode cX8_costOfRise 2 = .ok (.if_icmp .le 14, 3) := by decide +kernel
theorem dX8_costOfRise_5 : decode cX8_costOfRise 5 = .ok (.aload_n 0, 1) := by decide +kernel
theorem dX8_costOfRise_6 : decode cX8_costOfRise 6 = .ok (.getfield 36, 3) := by decide +kernel
theorem dX8_costOfRise_9 : decode cX8_costOfRise 9 = .ok (.iload_n 2, 1) := by decide +kernel
theorem dX8_costOfRise_10 : decode cX8_costOfRise 10 = .ok (.iload_n 1, 1) := by decide +kernel
theorem dX8_costOfRise_11 : decode cX8_costOfRise 11 = .ok (.isub, 1) := by decide +kernel
theorem dX8_costOfRise_12 : decode cX8_costOfRise 12 = .ok (.imul, 1) := by decide +kernel
theorem dX8_costOfRise_13 : decode cX8_costOfRise 13 = .ok (.goto 4, 3) := by decide +kernel
theorem dX8_costOfRise_16 : decode cX8_costOfRise 16 = .ok (.iconst 0, 1) := by decide +kernel
theorem dX8_costOfRise_17 : decode cX8_costOfRise 17 = .ok (.ireturn, 1) := by decide +kernel
theorem dX8_costOfSteady_0 : decode cX8_costOfSteady 0 = .ok (.aload_n 0, 1) := by decide +kernel
theorem dX8_costOfSteady_1 : decode cX8_costOfSteady 1 = .ok (.iconst 0, 1) := by decide +kernel
theorem dX8_costOfSteady_2 : decode cX8_costOfSteady 2 = .ok (.iload_n 2, 1) := by decide +kernel
theorem dX8_costOfSteady_3 : decode cX8_costOfSteady 3 = .ok (.invokevirtual 89, 3) := by decide +kernel
theorem dX8_costOfSteady_6 : decode cX8_costOfSteady 6 = .ok (.istore_n 3, 1) := by decide +kernel
theorem dX8_costOfSteady_7 : decode cX8_costOfSteady 7 = .ok (.iconst 0, 1) := by decide +kernel
theorem dX8_costOfSteady_8 : decode cX8_costOfSteady 8 = .ok (.istore 4, 2) := by decide +kernel
theorem dX8_costOfSteady_10 : decode cX8_costOfSteady 10 = .ok (.iload 4, 2) := by decide +kernel
theorem dX8_costOfSteady_12 : decode cX8_costOfSteady 12 = .ok (.aload_n 0, 1) := by decide +kernel
theorem dX8_costOfSteady_13 : decode cX8_costOfSteady 13 = .ok (.getfield 23, 3) := by decide +kernel
theorem dX8_costOfSteady_16 : decode cX8_costOfSteady 16 = .ok (.if_icmp .ge 20, 3) := by decide +kernel
theorem dX8_costOfSteady_19 : decode cX8_costOfSteady 19 = .ok (.iload_n 3, 1) := by decide +kernel
theorem dX8_costOfSteady_20 : decode cX8_costOfSteady 20 = .ok (.aload_n 0, 1) := by decide +kernel
theorem dX8_costOfSteady_21 : decode cX8_costOfSteady 21 = .ok (.iload_n 1, 1) := by decide +kernel
theorem dX8_costOfSteady_22 : decode cX8_costOfSteady 22 = .ok (.iload 4, 2) := by decide +kernel
theorem dX8_costOfSteady_24 : decode cX8_costOfSteady 24 = .ok (.iload_n 2, 1) := by decide +kernel
theorem dX8_costOfSteady_25 : decode cX8_costOfSteady 25 = .ok (.invokevirtual 92, 3) := by decide +kernel
theorem dX8_costOfSteady_28 : decode cX8_costOfSteady 28 = .ok (.iadd, 1) := by decide +kernel
theorem dX8_costOfSteady_29 : decode cX8_costOfSteady 29 = .ok (.istore_n 3, 1) := by decide +kernel
theorem dX8_costOfSteady_30 : decode cX8_costOfSteady 30 = .ok (.iinc 4 1, 3) := by decide +kernel
theorem dX8_costOfSteady_33 : decode cX8_costOfSteady 33 = .ok (.goto (-23), 3) := by decide +kernel
theorem dX8_costOfSteady_36 : decode cX8_costOfSteady 36 = .ok (.iload_n 3, 1) := by decide +kernel
theorem dX8_costOfSteady_37 : decode cX8_costOfSteady 37 = .ok (.ireturn, 1) := by decide +kernel
theorem dX9_init_0 : decode cX9_init 0 = .ok (.aload_n 0, 1) := by decide +kernel
theorem dX9_init_1 : decode cX9_init 1 = .ok (.invokespecial 5, 3) := by decide +kernel
theorem dX9_init_4 : decode cX9_init 4 = .ok (.aload_n 0, 1) := by decide +kernel
theorem dX9_init_5 : decode cX9_init 5 = .ok (.bipush 60, 2) := by decide +kernel
theorem dX9_init_7 : decode cX9_init 7 = .ok (.newarray .int, 2) := by decide +kernel
theorem dX9_init_9 : decode cX9_init 9 = .ok (.putfield 11, 3) := by decide +kernel
theorem dX9_init_12 : decode cX9_init 12 = .ok (.aload_n 0, 1) := by decide +kernel
theorem dX9_init_13 : decode cX9_init 13 = .ok (.bipush 20, 2) := by decide +kernel
theorem dX9_init_15 : decode cX9_init 15 = .ok (.newarray .int, 2) := by decide +kernel
theorem dX9_init_17 : decode cX9_init 17 = .ok (.putfield 15, 3) := by decide +kernel
theorem dX9_init_20 : decode cX9_init 20 = .ok (.aload_n 0, 1) := by decide +kernel
theorem dX9_init_21 : decode cX9_init 21 = .ok (.bipush 20, 2) := by decide +kernel
theorem dX9_init_23 : decode cX9_init 23 = .ok (.newarray .int, 2) := by decide +kernel
theorem dX9_init_25 : decode cX9_init 25 = .ok (.putfield 18, 3) := by decide +kernel
theorem dX9_init_28 : decode cX9_init 28 = .ok (.aload_n 0, 1) := by decide +kernel
theorem dX9_init_29 : decode cX9_init 29 = .ok (.iconst 0, 1) := by decide +kernel
theorem dX9_init_30 : decode cX9_init 30 = .ok (.putfield 21, 3) := by decide +kernel
theorem dX9_init_33 : decode cX9_init 33 = .ok (.aload_n 0, 1) := by decide +kernel
theorem dX9_init_34 : decode cX9_init 34 = .ok (.iconst 0, 1) := by decide +kernel
theorem dX9_init_35 : decode cX9_init 35 = .ok (.putfield 25, 3) := by decide +kernel
theorem dX9_init_38 : decode cX9_init 38 = .ok (.aload_n 0, 1) := by decide +kernel
theorem dX9_init_39 : decode cX9_init 39 = .ok (.iconst 0, 1) := by decide +kernel
theorem dX9_init_40 : decode cX9_init 40 = .ok (.putfield 28, 3) := by decide +kernel
theorem dX9_init_43 : decode cX9_init 43 = .ok (.return_, 1) := by decide +kernel
theorem dX9_hasRoom_0 : decode cX9_hasRoom 0 = .ok (.aload_n 0, 1) := by decide +kernel
theorem dX9_hasRoom_1 : decode cX9_hasRoom 1 = .ok (.getfield 21, 3) := by decide +kernel
theorem dX9_hasRoom_4 : decode cX9_hasRoom 4 = .ok (.bipush 60, 2) := by decide +kernel
theorem dX9_hasRoom_6 : decode cX9_hasRoom 6 = .ok (.if_icmp .ge 7, 3) := by decide +kernel
theorem dX9_hasRoom_9 : decode cX9_hasRoom 9 = .ok (.iconst 1, 1) := by decide +kernel
theorem dX9_hasRoom_10 : decode cX9_hasRoom 10 = .ok (.goto 4, 3) := by decide +kernel
theorem dX9_hasRoom_13 : decode cX9_hasRoom 13 = .ok (.iconst 0, 1) := by decide +kernel
theorem dX9_hasRoom_14 : decode cX9_hasRoom 14 = .ok (.ireturn, 1) := by decide +kernel
theorem dX9_length_0 : decode cX9_length 0 = .ok (.aload_n 0, 1) := by decide +kernel
theorem dX9_length_1 : decode cX9_length 1 = .ok (.getfield 21, 3) := by decide +kernel
theorem dX9_length_4 : decode cX9_length 4 = .ok (.ireturn, 1) := by decide +kernel
theorem dX9_add_0 : decode cX9_add 0 = .ok (.aload_n 0, 1) := by decide +kernel
theorem dX9_add_1 : decode cX9_add 1 = .ok (.invokevirtual 31, 3) := by decide +kernel
theorem dX9_add_4 : decode cX9_add 4 = .ok (.ifCond .eq 23, 3) := by decide +kernel
theorem dX9_add_7 : decode cX9_add 7 = .ok (.aload_n 0, 1) := by decide +kernel
theorem dX9_add_8 : decode cX9_add 8 = .ok (.getfield 11, 3) := by decide +kernel
theorem dX9_add_11 : decode cX9_add 11 = .ok (.aload_n 0, 1) := by decide +kernel
theorem dX9_add_12 : decode cX9_add 12 = .ok (.getfield 21, 3) := by decide +kernel
theorem dX9_add_15 : decode cX9_add 15 = .ok (.iload_n 1, 1) := by decide +kernel
theorem dX9_add_16 : decode cX9_add 16 = .ok (.iastore, 1) := by decide +kernel
theorem dX9_add_17 : decode cX9_add 17 = .ok (.aload_n 0, 1) := by decide +kernel
theorem dX9_add_18 : decode cX9_add 18 = .ok (.dup, 1) := by decide +kernel
theorem dX9_add_19 : decode cX9_add 19 = .ok (.getfield 21, 3) := by decide +kernel
theorem dX9_add_22 : decode cX9_add 22 = .ok (.iconst 1, 1) := by decide +kernel
theorem dX9_add_23 : decode cX9_add 23 = .ok (.iadd, 1) := by decide +kernel
theorem dX9_add_24 : decode cX9_add 24 = .ok (.putfield 21, 3) := by decide +kernel
theorem dX9_add_27 : decode cX9_add 27 = .ok (.return_, 1) := by decide +kernel
theorem dX9_clear_0 : decode cX9_clear 0 = .ok (.aload_n 0, 1) := by decide +kernel
theorem dX9_clear_1 : decode cX9_clear 1 = .ok (.iconst 0, 1) := by decide +kernel
theorem dX9_clear_2 : decode cX9_clear 2 = .ok (.putfield 21, 3) := by decide +kernel
theorem dX9_clear_5 : decode cX9_clear 5 = .ok (.return_, 1) := by decide +kernel
theorem dX9_place_0 : decode cX9_place 0 = .ok (.aload_n 0, 1) := by decide +kernel
theorem dX9_place_1 : decode cX9_place 1 = .ok (.getfield 28, 3) := by decide +kernel
theorem dX9_place_4 : decode cX9_place 4 = .ok (.ireturn, 1) := by decide +kernel
theorem dX9_readCount_0 : decode cX9_readCount 0 = .ok (.aload_n 0, 1) := by decide +kernel
theorem dX9_readCount_1 : decode cX9_readCount 1 = .ok (.getfield 25, 3) := by decide +kernel
theorem dX9_readCount_4 : decode cX9_readCount 4 = .ok (.ireturn, 1) := by decide +kernel
theorem dX9_dayRead_0 : decode cX9_dayRead 0 = .ok (.iload_n 1, 1) := by decide +kernel
theorem dX9_dayRead_1 : decode cX9_dayRead 1 = .ok (.ifCond .lt 20, 3) := by decide +kernel
theorem dX9_dayRead_4 : decode cX9_dayRead 4 = .ok (.iload_n 1, 1) := by decide +kernel
theorem dX9_dayRead_5 : decode cX9_dayRead 5 = .ok (.aload_n 0, 1) := by decide +kernel
theorem dX9_dayRead_6 : decode cX9_dayRead 6 = .ok (.getfield 25, 3) := by decide +kernel
theorem dX9_dayRead_9 : decode cX9_dayRead 9 = .ok (.if_icmp .ge 12, 3) := by decide +kernel
theorem dX9_dayRead_12 : decode cX9_dayRead 12 = .ok (.aload_n 0, 1) := by decide +kernel
theorem dX9_dayRead_13 : decode cX9_dayRead 13 = .ok (.getfield 15, 3) := by decide +kernel
theorem dX9_dayRead_16 : decode cX9_dayRead 16 = .ok (.iload_n 1, 1) := by decide +kernel
theorem dX9_dayRead_17 : decode cX9_dayRead 17 = .ok (.iaload, 1) := by decide +kernel
theorem dX9_dayRead_18 : decode cX9_dayRead 18 = .ok (.goto 4, 3) := by decide +kernel
theorem dX9_dayRead_21 : decode cX9_dayRead 21 = .ok (.iconst (-1), 1) := by decide +kernel
theorem dX9_dayRead_22 : decode cX9_dayRead 22 = .ok (.ireturn, 1) := by decide +kernel
theorem dX9_setRead_0 : decode cX9_setRead 0 = .ok (.iload_n 1, 1) := by decide +kernel
theorem dX9_setRead_1 : decode cX9_setRead 1 = .ok (.ifCond .lt 20, 3) := by decide +kernel
theorem dX9_setRead_4 : decode cX9_setRead 4 = .ok (.iload_n 1, 1) := by decide +kernel
theorem dX9_setRead_5 : decode cX9_setRead 5 = .ok (.aload_n 0, 1) := by decide +kernel
theorem dX9_setRead_6 : decode cX9_setRead 6 = .ok (.getfield 25, 3) := by decide +kernel
theorem dX9_setRead_9 : decode cX9_setRead 9 = .ok (.if_icmp .ge 12, 3) := by decide +kernel
theorem dX9_setRead_12 : decode cX9_setRead 12 = .ok (.aload_n 0, 1) := by decide +kernel
theorem dX9_setRead_13 : decode cX9_setRead 13 = .ok (.getfield 18, 3) := by decide +kernel
theorem dX9_setRead_16 : decode cX9_setRead 16 = .ok (.iload_n 1, 1) := by decide +kernel
theorem dX9_setRead_17 : decode cX9_setRead 17 = .ok (.iaload, 1) := by decide +kernel
theorem dX9_setRead_18 : decode cX9_setRead 18 = .ok (.goto 4, 3) := by decide +kernel
theorem dX9_setRead_21 : decode cX9_setRead 21 = .ok (.iconst 0, 1) := by decide +kernel
theorem dX9_setRead_22 : decode cX9_setRead 22 = .ok (.ireturn, 1) := by decide +kernel
theorem dX9_read_0 : decode cX9_read 0 = .ok (.aload_n 0, 1) := by decide +kernel
theorem dX9_read_1 : decode cX9_read 1 = .ok (.iconst 0, 1) := by decide +kernel
theorem dX9_read_2 : decode cX9_read 2 = .ok (.putfield 28, 3) := by decide +kernel
theorem dX9_read_5 : decode cX9_read 5 = .ok (.aload_n 0, 1) := by decide +kernel
theorem dX9_read_6 : decode cX9_read 6 = .ok (.iconst 0, 1) := by decide +kernel
theorem dX9_read_7 : decode cX9_read 7 = .ok (.putfield 25, 3) := by decide +kernel
theorem dX9_read_10 : decode cX9_read 10 = .ok (.iconst 0, 1) := by decide +kernel
theorem dX9_read_11 : decode cX9_read 11 = .ok (.istore_n 3, 1) := by decide +kernel
theorem dX9_read_12 : decode cX9_read 12 = .ok (.iconst 0, 1) := by decide +kernel
theorem dX9_read_13 : decode cX9_read 13 = .ok (.istore 4, 2) := by decide +kernel
theorem dX9_read_15 : decode cX9_read 15 = .ok (.iload 4, 2) := by decide +kernel
theorem dX9_read_17 : decode cX9_read 17 = .ok (.bipush 20, 2) := by decide +kernel
theorem dX9_read_19 : decode cX9_read 19 = .ok (.if_icmp .ge 31, 3) := by decide +kernel
theorem dX9_read_22 : decode cX9_read 22 = .ok (.aload_n 0, 1) := by decide +kernel
theorem dX9_read_23 : decode cX9_read 23 = .ok (.getfield 28, 3) := by decide +kernel
theorem dX9_read_26 : decode cX9_read 26 = .ok (.aload_n 0, 1) := by decide +kernel
theorem dX9_read_27 : decode cX9_read 27 = .ok (.getfield 21, 3) := by decide +kernel
theorem dX9_read_30 : decode cX9_read 30 = .ok (.if_icmp .ge 20, 3) := by decide +kernel
theorem dX9_read_33 : decode cX9_read 33 = .ok (.iload_n 3, 1) := by decide +kernel
theorem dX9_read_34 : decode cX9_read 34 = .ok (.ifCond .ne 16, 3) := by decide +kernel
theorem dX9_read_37 : decode cX9_read 37 = .ok (.aload_n 0, 1) := by decide +kernel
theorem dX9_read_38 : decode cX9_read 38 = .ok (.iload_n 1, 1) := by decide +kernel
theorem dX9_read_39 : decode cX9_read 39 = .ok (.iload_n 2, 1) := by decide +kernel
theorem dX9_read_40 : decode cX9_read 40 = .ok (.invokevirtual 35, 3) := by decide +kernel
theorem dX9_read_43 : decode cX9_read 43 = .ok (.istore_n 3, 1) := by decide +kernel
theorem dX9_read_44 : decode cX9_read 44 = .ok (.iinc 4 1, 3) := by decide +kernel
theorem dX9_read_47 : decode cX9_read 47 = .ok (.goto (-32), 3) := by decide +kernel
theorem dX9_read_50 : decode cX9_read 50 = .ok (.iload_n 3, 1) := by decide +kernel
theorem dX9_read_51 : decode cX9_read 51 = .ok (.ireturn, 1) := by decide +kernel
theorem dX9_readPiece_0 : decode cX9_readPiece 0 = .ok (.aload_n 0, 1) := by decide +kernel
theorem dX9_readPiece_1 : decode cX9_readPiece 1 = .ok (.aload_n 0, 1) := by decide +kernel
theorem dX9_readPiece_2 : decode cX9_readPiece 2 = .ok (.getfield 28, 3) := by decide +kernel
theorem dX9_readPiece_5 : decode cX9_readPiece 5 = .ok (.invokevirtual 39, 3) := by decide +kernel
theorem dX9_readPiece_8 : decode cX9_readPiece 8 = .ok (.invokestatic 43, 3) := by decide +kernel
theorem dX9_readPiece_11 : decode cX9_readPiece 11 = .ok (.ifCond .ne 5, 3) := by decide +kernel
theorem dX9_readPiece_14 : decode cX9_readPiece 14 = .ok (.iconst 1, 1) := by decide +kernel
theorem dX9_readPiece_15 : decode cX9_readPiece 15 = .ok (.ireturn, 1) := by decide +kernel
theorem dX9_readPiece_16 : decode cX9_readPiece 16 = .ok (.aload_n 0, 1) := by decide +kernel
theorem dX9_readPiece_17 : decode cX9_readPiece 17 = .ok (.invokevirtual 47, 3) := by decide +kernel
theorem dX9_readPiece_20 : decode cX9_readPiece 20 = .ok (.istore_n 3, 1) := by decide +kernel
theorem dX9_readPiece_21 : decode cX9_readPiece 21 = .ok (.iload_n 3, 1) := by decide +kernel
theorem dX9_readPiece_22 : decode cX9_readPiece 22 = .ok (.ifCond .eq 22, 3) := by decide +kernel
theorem dX9_readPiece_25 : decode cX9_readPiece 25 = .ok (.bipush 10, 2) := by decide +kernel
theorem dX9_readPiece_27 : decode cX9_readPiece 27 = .ok (.aload_n 0, 1) := by decide +kernel
theorem dX9_readPiece_28 : decode cX9_readPiece 28 = .ok (.aload_n 0, 1) := by decide +kernel
theorem dX9_readPiece_29 : decode cX9_readPiece 29 = .ok (.getfield 28, 3) := by decide +kernel
theorem dX9_readPiece_32 : decode cX9_readPiece 32 = .ok (.iconst 1, 1) := by decide +kernel
theorem dX9_readPiece_33 : decode cX9_readPiece 33 = .ok (.iadd, 1) := by decide +kernel
theorem dX9_readPiece_34 : decode cX9_readPiece 34 = .ok (.invokevirtual 39, 3) := by decide +kernel
theorem dX9_readPiece_37 : decode cX9_readPiece 37 = .ok (.iadd, 1) := by decide +kernel
theorem dX9_readPiece_38 : decode cX9_readPiece 38 = .ok (.bipush 48, 2) := by decide +kernel
theorem dX9_readPiece_40 : decode cX9_readPiece 40 = .ok (.isub, 1) := by decide +kernel
theorem dX9_readPiece_41 : decode cX9_readPiece 41 = .ok (.goto 14, 3) := by decide +kernel
theorem dX9_readPiece_44 : decode cX9_readPiece 44 = .ok (.aload_n 0, 1) := by decide +kernel
theorem dX9_readPiece_45 : decode cX9_readPiece 45 = .ok (.aload_n 0, 1) := by decide +kernel
theorem dX9_readPiece_46 : decode cX9_readPiece 46 = .ok (.getfield 28, 3) := by decide +kernel
theorem dX9_readPiece_49 : decode cX9_readPiece 49 = .ok (.invokevirtual 39, 3) := by decide +kernel
theorem dX9_readPiece_52 : decode cX9_readPiece 52 = .ok (.bipush 48, 2) := by decide +kernel
theorem dX9_readPiece_54 : decode cX9_readPiece 54 = .ok (.isub, 1) := by decide +kernel
theorem dX9_readPiece_55 : decode cX9_readPiece 55 = .ok (.istore 4, 2) := by decide +kernel
theorem dX9_readPiece_57 : decode cX9_readPiece 57 = .ok (.iload 4, 2) := by decide +kernel
theorem dX9_readPiece_59 : decode cX9_readPiece 59 = .ok (.iload_n 1, 1) := by decide +kernel
theorem dX9_readPiece_60 : decode cX9_readPiece 60 = .ok (.if_icmp .lt 5, 3) := by decide +kernel
theorem dX9_readPiece_63 : decode cX9_readPiece 63 = .ok (.iconst 2, 1) := by decide +kernel
theorem dX9_readPiece_64 : decode cX9_readPiece 64 = .ok (.ireturn, 1) := by decide +kernel
theorem dX9_readPiece_65 : decode cX9_readPiece 65 = .ok (.aload_n 0, 1) := by decide +kernel
theorem dX9_readPiece_66 : decode cX9_readPiece 66 = .ok (.getfield 25, 3) := by decide +kernel
theorem dX9_readPiece_69 : decode cX9_readPiece 69 = .ok (.iload_n 2, 1) := by decide +kernel
theorem dX9_readPiece_70 : decode cX9_readPiece 70 = .ok (.if_icmp .ge 12, 3) := by decide +kernel
theorem dX9_readPiece_73 : decode cX9_readPiece 73 = .ok (.aload_n 0, 1) := by decide +kernel
theorem dX9_readPiece_74 : decode cX9_readPiece 74 = .ok (.getfield 25, 3) := by decide +kernel
theorem dX9_readPiece_77 : decode cX9_readPiece 77 = .ok (.bipush 20, 2) := by decide +kernel
theorem dX9_readPiece_79 : decode cX9_readPiece 79 = .ok (.if_icmp .lt 5, 3) := by decide +kernel
theorem dX9_readPiece_82 : decode cX9_readPiece 82 = .ok (.iconst 3, 1) := by decide +kernel
theorem dX9_readPiece_83 : decode cX9_readPiece 83 = .ok (.ireturn, 1) := by decide +kernel
theorem dX9_readPiece_84 : decode cX9_readPiece 84 = .ok (.aload_n 0, 1) := by decide +kernel
theorem dX9_readPiece_85 : decode cX9_readPiece 85 = .ok (.dup, 1) := by decide +kernel
theorem dX9_readPiece_86 : decode cX9_readPiece 86 = .ok (.getfield 28, 3) := by decide +kernel
theorem dX9_readPiece_89 : decode cX9_readPiece 89 = .ok (.iload_n 3, 1) := by decide +kernel
theorem dX9_readPiece_90 : decode cX9_readPiece 90 = .ok (.ifCond .eq 7, 3) := by decide +kernel
theorem dX9_readPiece_93 : decode cX9_readPiece 93 = .ok (.iconst 2, 1) := by decide +kernel
theorem dX9_readPiece_94 : decode cX9_readPiece 94 = .ok (.goto 4, 3) := by decide +kernel
theorem dX9_readPiece_97 : decode cX9_readPiece 97 = .ok (.iconst 1, 1) := by decide +kernel
theorem dX9_readPiece_98 : decode cX9_readPiece 98 = .ok (.iadd, 1) := by decide +kernel
theorem dX9_readPiece_99 : decode cX9_readPiece 99 = .ok (.putfield 28, 3) := by decide +kernel
theorem dX9_readPiece_102 : decode cX9_readPiece 102 = .ok (.aload_n 0, 1) := by decide +kernel
theorem dX9_readPiece_103 : decode cX9_readPiece 103 = .ok (.bipush 58, 2) := by decide +kernel
theorem dX9_readPiece_105 : decode cX9_readPiece 105 = .ok (.invokevirtual 50, 3) := by decide +kernel
theorem dX9_readPiece_108 : decode cX9_readPiece 108 = .ok (.ifCond .ne 5, 3) := by decide +kernel
theorem dX9_readPiece_111 : decode cX9_readPiece 111 = .ok (.iconst 1, 1) := by decide +kernel
theorem dX9_readPiece_112 : decode cX9_readPiece 112 = .ok (.ireturn, 1) := by decide +kernel
theorem dX9_readPiece_113 : decode cX9_readPiece 113 = .ok (.aload_n 0, 1) := by decide +kernel
theorem dX9_readPiece_114 : decode cX9_readPiece 114 = .ok (.invokevirtual 54, 3) := by decide +kernel
theorem dX9_readPiece_117 : decode cX9_readPiece 117 = .ok (.istore 5, 2) := by decide +kernel
theorem dX9_readPiece_119 : decode cX9_readPiece 119 = .ok (.aload_n 0, 1) := by decide +kernel
theorem dX9_readPiece_120 : decode cX9_readPiece 120 = .ok (.bipush 59, 2) := by decide +kernel
theorem dX9_readPiece_122 : decode cX9_readPiece 122 = .ok (.invokevirtual 50, 3) := by decide +kernel
theorem dX9_readPiece_125 : decode cX9_readPiece 125 = .ok (.ifCond .ne 5, 3) := by decide +kernel
theorem dX9_readPiece_128 : decode cX9_readPiece 128 = .ok (.iconst 1, 1) := by decide +kernel
theorem dX9_readPiece_129 : decode cX9_readPiece 129 = .ok (.ireturn, 1) := by decide +kernel
theorem dX9_readPiece_130 : decode cX9_readPiece 130 = .ok (.aload_n 0, 1) := by decide +kernel
theorem dX9_readPiece_131 : decode cX9_readPiece 131 = .ok (.getfield 15, 3) := by decide +kernel
theorem dX9_readPiece_134 : decode cX9_readPiece 134 = .ok (.aload_n 0, 1) := by decide +kernel
theorem dX9_readPiece_135 : decode cX9_readPiece 135 = .ok (.getfield 25, 3) := by decide +kernel
theorem dX9_readPiece_138 : decode cX9_readPiece 138 = .ok (.iload 4, 2) := by decide +kernel
theorem dX9_readPiece_140 : decode cX9_readPiece 140 = .ok (.iastore, 1) := by decide +kernel
theorem dX9_readPiece_141 : decode cX9_readPiece 141 = .ok (.aload_n 0, 1) := by decide +kernel
theorem dX9_readPiece_142 : decode cX9_readPiece 142 = .ok (.getfield 18, 3) := by decide +kernel
theorem dX9_readPiece_145 : decode cX9_readPiece 145 = .ok (.aload_n 0, 1) := by decide +kernel
theorem dX9_readPiece_146 : decode cX9_readPiece 146 = .ok (.getfield 25, 3) := by decide +kernel
theorem dX9_readPiece_149 : decode cX9_readPiece 149 = .ok (.iload 5, 2) := by decide +kernel
theorem dX9_readPiece_151 : decode cX9_readPiece 151 = .ok (.iastore, 1) := by decide +kernel
theorem dX9_readPiece_152 : decode cX9_readPiece 152 = .ok (.aload_n 0, 1) := by decide +kernel
theorem dX9_readPiece_153 : decode cX9_readPiece 153 = .ok (.dup, 1) := by decide +kernel
theorem dX9_readPiece_154 : decode cX9_readPiece 154 = .ok (.getfield 25, 3) := by decide +kernel
theorem dX9_readPiece_157 : decode cX9_readPiece 157 = .ok (.iconst 1, 1) := by decide +kernel
theorem dX9_readPiece_158 : decode cX9_readPiece 158 = .ok (.iadd, 1) := by decide +kernel
theorem dX9_readPiece_159 : decode cX9_readPiece 159 = .ok (.putfield 25, 3) := by decide +kernel
theorem dX9_readPiece_162 : decode cX9_readPiece 162 = .ok (.iconst 0, 1) := by decide +kernel
theorem dX9_readPiece_163 : decode cX9_readPiece 163 = .ok (.ireturn, 1) := by decide +kernel
theorem dX9_hasTwoFigures_0 : decode cX9_hasTwoFigures 0 = .ok (.aload_n 0, 1) := by decide +kernel
theorem dX9_hasTwoFigures_1 : decode cX9_hasTwoFigures 1 = .ok (.aload_n 0, 1) := by decide +kernel
theorem dX9_hasTwoFigures_2 : decode cX9_hasTwoFigures 2 = .ok (.getfield 28, 3) := by decide +kernel
theorem dX9_hasTwoFigures_5 : decode cX9_hasTwoFigures 5 = .ok (.iconst 1, 1) := by decide +kernel
theorem dX9_hasTwoFigures_6 : decode cX9_hasTwoFigures 6 = .ok (.iadd, 1) := by decide +kernel
theorem dX9_hasTwoFigures_7 : decode cX9_hasTwoFigures 7 = .ok (.invokevirtual 39, 3) := by decide +kernel
theorem dX9_hasTwoFigures_10 : decode cX9_hasTwoFigures 10 = .ok (.istore_n 1, 1) := by decide +kernel
theorem dX9_hasTwoFigures_11 : decode cX9_hasTwoFigures 11 = .ok (.aload_n 0, 1) := by decide +kernel
theorem dX9_hasTwoFigures_12 : decode cX9_hasTwoFigures 12 = .ok (.aload_n 0, 1) := by decide +kernel
theorem dX9_hasTwoFigures_13 : decode cX9_hasTwoFigures 13 = .ok (.getfield 28, 3) := by decide +kernel
theorem dX9_hasTwoFigures_16 : decode cX9_hasTwoFigures 16 = .ok (.invokevirtual 39, 3) := by decide +kernel
theorem dX9_hasTwoFigures_19 : decode cX9_hasTwoFigures 19 = .ok (.bipush 49, 2) := by decide +kernel
theorem dX9_hasTwoFigures_21 : decode cX9_hasTwoFigures 21 = .ok (.if_icmp .ne 19, 3) := by decide +kernel
theorem dX9_hasTwoFigures_24 : decode cX9_hasTwoFigures 24 = .ok (.iload_n 1, 1) := by decide +kernel
theorem dX9_hasTwoFigures_25 : decode cX9_hasTwoFigures 25 = .ok (.bipush 48, 2) := by decide +kernel
theorem dX9_hasTwoFigures_27 : decode cX9_hasTwoFigures 27 = .ok (.if_icmp .eq 9, 3) := by decide +kernel
theorem dX9_hasTwoFigures_30 : decode cX9_hasTwoFigures 30 = .ok (.iload_n 1, 1) := by decide +kernel
theorem dX9_hasTwoFigures_31 : decode cX9_hasTwoFigures 31 = .ok (.bipush 49, 2) := by decide +kernel
theorem dX9_hasTwoFigures_33 : decode cX9_hasTwoFigures 33 = .ok (.if_icmp .ne 7, 3) := by decide +kernel
theorem dX9_hasTwoFigures_36 : decode cX9_hasTwoFigures 36 = .ok (.iconst 1, 1) := by decide +kernel
theorem dX9_hasTwoFigures_37 : decode cX9_hasTwoFigures 37 = .ok (.goto 4, 3) := by decide +kernel
theorem dX9_hasTwoFigures_40 : decode cX9_hasTwoFigures 40 = .ok (.iconst 0, 1) := by decide +kernel
theorem dX9_hasTwoFigures_41 : decode cX9_hasTwoFigures 41 = .ok (.ireturn, 1) := by decide +kernel
theorem dX9_readWords_0 : decode cX9_readWords 0 = .ok (.iconst 0, 1) := by decide +kernel
theorem dX9_readWords_1 : decode cX9_readWords 1 = .ok (.istore_n 1, 1) := by decide +kernel
theorem dX9_readWords_2 : decode cX9_readWords 2 = .ok (.aload_n 0, 1) := by decide +kernel
theorem dX9_readWords_3 : decode cX9_readWords 3 = .ok (.getfield 28, 3) := by decide +kernel
theorem dX9_readWords_6 : decode cX9_readWords 6 = .ok (.aload_n 0, 1) := by decide +kernel
theorem dX9_readWords_7 : decode cX9_readWords 7 = .ok (.getfield 21, 3) := by decide +kernel
theorem dX9_readWords_10 : decode cX9_readWords 10 = .ok (.if_icmp .ge 50, 3) := by decide +kernel
theorem dX9_readWords_13 : decode cX9_readWords 13 = .ok (.aload_n 0, 1) := by decide +kernel
theorem dX9_readWords_14 : decode cX9_readWords 14 = .ok (.aload_n 0, 1) := by decide +kernel
theorem dX9_readWords_15 : decode cX9_readWords 15 = .ok (.getfield 28, 3) := by decide +kernel
theorem dX9_readWords_18 : decode cX9_readWords 18 = .ok (.invokevirtual 39, 3) := by decide +kernel
theorem dX9_readWords_21 : decode cX9_readWords 21 = .ok (.bipush 97, 2) := by decide +kernel
theorem dX9_readWords_23 : decode cX9_readWords 23 = .ok (.isub, 1) := by decide +kernel
theorem dX9_readWords_24 : decode cX9_readWords 24 = .ok (.invokestatic 58, 3) := by decide +kernel
theorem dX9_readWords_27 : decode cX9_readWords 27 = .ok (.ifCond .eq 33, 3) := by decide +kernel
theorem dX9_readWords_30 : decode cX9_readWords 30 = .ok (.iload_n 1, 1) := by decide +kernel
theorem dX9_readWords_31 : decode cX9_readWords 31 = .ok (.aload_n 0, 1) := by decide +kernel
theorem dX9_readWords_32 : decode cX9_readWords 32 = .ok (.aload_n 0, 1) := by decide +kernel
theorem dX9_readWords_33 : decode cX9_readWords 33 = .ok (.getfield 28, 3) := by decide +kernel
theorem dX9_readWords_36 : decode cX9_readWords 36 = .ok (.invokevirtual 39, 3) := by decide +kernel
theorem dX9_readWords_39 : decode cX9_readWords 39 = .ok (.bipush 97, 2) := by decide +kernel
theorem dX9_readWords_41 : decode cX9_readWords 41 = .ok (.isub, 1) := by decide +kernel
theorem dX9_readWords_42 : decode cX9_readWords 42 = .ok (.invokestatic 61, 3) := by decide +kernel
theorem dX9_readWords_45 : decode cX9_readWords 45 = .ok (.ior, 1) := by decide +kernel
theorem dX9_readWords_46 : decode cX9_readWords 46 = .ok (.istore_n 1, 1) := by decide +kernel
theorem dX9_readWords_47 : decode cX9_readWords 47 = .ok (.aload_n 0, 1) := by decide +kernel
theorem dX9_readWords_48 : decode cX9_readWords 48 = .ok (.dup, 1) := by decide +kernel
theorem dX9_readWords_49 : decode cX9_readWords 49 = .ok (.getfield 28, 3) := by decide +kernel
theorem dX9_readWords_52 : decode cX9_readWords 52 = .ok (.iconst 1, 1) := by decide +kernel
theorem dX9_readWords_53 : decode cX9_readWords 53 = .ok (.iadd, 1) := by decide +kernel
theorem dX9_readWords_54 : decode cX9_readWords 54 = .ok (.putfield 28, 3) := by decide +kernel
theorem dX9_readWords_57 : decode cX9_readWords 57 = .ok (.goto (-55), 3) := by decide +kernel
theorem dX9_readWords_60 : decode cX9_readWords 60 = .ok (.iload_n 1, 1) := by decide +kernel
theorem dX9_readWords_61 : decode cX9_readWords 61 = .ok (.ireturn, 1) := by decide +kernel
theorem dX9_passes_0 : decode cX9_passes 0 = .ok (.aload_n 0, 1) := by decide +kernel
theorem dX9_passes_1 : decode cX9_passes 1 = .ok (.aload_n 0, 1) := by decide +kernel
theorem dX9_passes_2 : decode cX9_passes 2 = .ok (.getfield 28, 3) := by decide +kernel
theorem dX9_passes_5 : decode cX9_passes 5 = .ok (.invokevirtual 39, 3) := by decide +kernel
theorem dX9_passes_8 : decode cX9_passes 8 = .ok (.iload_n 1, 1) := by decide +kernel
theorem dX9_passes_9 : decode cX9_passes 9 = .ok (.if_icmp .ne 7, 3) := by decide +kernel
theorem dX9_passes_12 : decode cX9_passes 12 = .ok (.iconst 1, 1) := by decide +kernel
theorem dX9_passes_13 : decode cX9_passes 13 = .ok (.goto 4, 3) := by decide +kernel
theorem dX9_passes_16 : decode cX9_passes 16 = .ok (.iconst 0, 1) := by decide +kernel
theorem dX9_passes_17 : decode cX9_passes 17 = .ok (.istore_n 2, 1) := by decide +kernel
theorem dX9_passes_18 : decode cX9_passes 18 = .ok (.iload_n 2, 1) := by decide +kernel
theorem dX9_passes_19 : decode cX9_passes 19 = .ok (.ifCond .eq 13, 3) := by decide +kernel
theorem dX9_passes_22 : decode cX9_passes 22 = .ok (.aload_n 0, 1) := by decide +kernel
theorem dX9_passes_23 : decode cX9_passes 23 = .ok (.dup, 1) := by decide +kernel
theorem dX9_passes_24 : decode cX9_passes 24 = .ok (.getfield 28, 3) := by decide +kernel
theorem dX9_passes_27 : decode cX9_passes 27 = .ok (.iconst 1, 1) := by decide +kernel
theorem dX9_passes_28 : decode cX9_passes 28 = .ok (.iadd, 1) := by decide +kernel
theorem dX9_passes_29 : decode cX9_passes 29 = .ok (.putfield 28, 3) := by decide +kernel
theorem dX9_passes_32 : decode cX9_passes 32 = .ok (.iload_n 2, 1) := by decide +kernel
theorem dX9_passes_33 : decode cX9_passes 33 = .ok (.ireturn, 1) := by decide +kernel
theorem dX9_letterAt_0 : decode cX9_letterAt 0 = .ok (.iload_n 1, 1) := by decide +kernel
theorem dX9_letterAt_1 : decode cX9_letterAt 1 = .ok (.ifCond .lt 20, 3) := by decide +kernel
theorem dX9_letterAt_4 : decode cX9_letterAt 4 = .ok (.iload_n 1, 1) := by decide +kernel
theorem dX9_letterAt_5 : decode cX9_letterAt 5 = .ok (.aload_n 0, 1) := by decide +kernel
theorem dX9_letterAt_6 : decode cX9_letterAt 6 = .ok (.getfield 21, 3) := by decide +kernel
theorem dX9_letterAt_9 : decode cX9_letterAt 9 = .ok (.if_icmp .ge 12, 3) := by decide +kernel
theorem dX9_letterAt_12 : decode cX9_letterAt 12 = .ok (.aload_n 0, 1) := by decide +kernel
theorem dX9_letterAt_13 : decode cX9_letterAt 13 = .ok (.getfield 11, 3) := by decide +kernel
theorem dX9_letterAt_16 : decode cX9_letterAt 16 = .ok (.iload_n 1, 1) := by decide +kernel
theorem dX9_letterAt_17 : decode cX9_letterAt 17 = .ok (.iaload, 1) := by decide +kernel
theorem dX9_letterAt_18 : decode cX9_letterAt 18 = .ok (.goto 4, 3) := by decide +kernel
theorem dX9_letterAt_21 : decode cX9_letterAt 21 = .ok (.iconst (-1), 1) := by decide +kernel
theorem dX9_letterAt_22 : decode cX9_letterAt 22 = .ok (.ireturn, 1) := by decide +kernel
theorem dX9_isFigure_0 : decode cX9_isFigure 0 = .ok (.iload_n 0, 1) := by decide +kernel
theorem dX9_isFigure_1 : decode cX9_isFigure 1 = .ok (.bipush 48, 2) := by decide +kernel
theorem dX9_isFigure_3 : decode cX9_isFigure 3 = .ok (.if_icmp .lt 13, 3) := by decide +kernel
theorem dX9_isFigure_6 : decode cX9_isFigure 6 = .ok (.iload_n 0, 1) := by decide +kernel
theorem dX9_isFigure_7 : decode cX9_isFigure 7 = .ok (.bipush 57, 2) := by decide +kernel
theorem dX9_isFigure_9 : decode cX9_isFigure 9 = .ok (.if_icmp .gt 7, 3) := by decide +kernel
theorem dX9_isFigure_12 : decode cX9_isFigure 12 = .ok (.iconst 1, 1) := by decide +kernel
theorem dX9_isFigure_13 : decode cX9_isFigure 13 = .ok (.goto 4, 3) := by decide +kernel
theorem dX9_isFigure_16 : decode cX9_isFigure 16 = .ok (.iconst 0, 1) := by decide +kernel
theorem dX9_isFigure_17 : decode cX9_isFigure 17 = .ok (.ireturn, 1) := by decide +kernel
end
section
theorem dX10_init_0 : decode cX10_init 0 = .ok (.aload_n 0, 1) := by decide +kernel
theorem dX10_init_1 : decode cX10_init 1 = .ok (.invokespecial 1, 3) := by decide +kernel
theorem dX10_init_4 : decode cX10_init 4 = .ok (.aload_n 0, 1) := by decide +kernel
theorem dX10_init_5 : decode cX10_init 5 = .ok (.new 7, 3) := by decide +kernel
theorem dX10_init_8 : decode cX10_init 8 = .ok (.dup, 1) := by decide +kernel
theorem dX10_init_9 : decode cX10_init 9 = .ok (.invokespecial 9, 3) := by decide +kernel
theorem dX10_init_12 : decode cX10_init 12 = .ok (.putfield 10, 3) := by decide +kernel
theorem dX10_init_15 : decode cX10_init 15 = .ok (.aload_n 0, 1) := by decide +kernel
theorem dX10_init_16 : decode cX10_init 16 = .ok (.new 16, 3) := by decide +kernel
theorem dX10_init_19 : decode cX10_init 19 = .ok (.dup, 1) := by decide +kernel
theorem dX10_init_20 : decode cX10_init 20 = .ok (.invokespecial 18, 3) := by decide +kernel
theorem dX10_init_23 : decode cX10_init 23 = .ok (.putfield 19, 3) := by decide +kernel
theorem dX10_init_26 : decode cX10_init 26 = .ok (.aload_n 0, 1) := by decide +kernel
theorem dX10_init_27 : decode cX10_init 27 = .ok (.new 23, 3) := by decide +kernel
theorem dX10_init_30 : decode cX10_init 30 = .ok (.dup, 1) := by decide +kernel
theorem dX10_init_31 : decode cX10_init 31 = .ok (.invokespecial 25, 3) := by decide +kernel
theorem dX10_init_34 : decode cX10_init 34 = .ok (.putfield 26, 3) := by decide +kernel
theorem dX10_init_37 : decode cX10_init 37 = .ok (.aload_n 0, 1) := by decide +kernel
theorem dX10_init_38 : decode cX10_init 38 = .ok (.new 30, 3) := by decide +kernel
theorem dX10_init_41 : decode cX10_init 41 = .ok (.dup, 1) := by decide +kernel
theorem dX10_init_42 : decode cX10_init 42 = .ok (.invokespecial 32, 3) := by decide +kernel
theorem dX10_init_45 : decode cX10_init 45 = .ok (.putfield 33, 3) := by decide +kernel
theorem dX10_init_48 : decode cX10_init 48 = .ok (.aload_n 0, 1) := by decide +kernel
theorem dX10_init_49 : decode cX10_init 49 = .ok (.new 37, 3) := by decide +kernel
theorem dX10_init_52 : decode cX10_init 52 = .ok (.dup, 1) := by decide +kernel
theorem dX10_init_53 : decode cX10_init 53 = .ok (.invokespecial 39, 3) := by decide +kernel
theorem dX10_init_56 : decode cX10_init 56 = .ok (.putfield 40, 3) := by decide +kernel
theorem dX10_init_59 : decode cX10_init 59 = .ok (.aload_n 0, 1) := by decide +kernel
theorem dX10_init_60 : decode cX10_init 60 = .ok (.iconst 2, 1) := by decide +kernel
theorem dX10_init_61 : decode cX10_init 61 = .ok (.anewarray 44, 3) := by decide +kernel
theorem dX10_init_64 : decode cX10_init 64 = .ok (.putfield 46, 3) := by decide +kernel
theorem dX10_init_67 : decode cX10_init 67 = .ok (.aload_n 0, 1) := by decide +kernel
theorem dX10_init_68 : decode cX10_init 68 = .ok (.iconst 0, 1) := by decide +kernel
theorem dX10_init_69 : decode cX10_init 69 = .ok (.putfield 50, 3) := by decide +kernel
theorem dX10_init_72 : decode cX10_init 72 = .ok (.aload_n 0, 1) := by decide +kernel
theorem dX10_init_73 : decode cX10_init 73 = .ok (.iconst (-1), 1) := by decide +kernel
theorem dX10_init_74 : decode cX10_init 74 = .ok (.putfield 54, 3) := by decide +kernel
theorem dX10_init_77 : decode cX10_init 77 = .ok (.aload_n 0, 1) := by decide +kernel
theorem dX10_init_78 : decode cX10_init 78 = .ok (.iconst 1, 1) := by decide +kernel
theorem dX10_init_79 : decode cX10_init 79 = .ok (.putfield 57, 3) := by decide +kernel
theorem dX10_init_82 : decode cX10_init 82 = .ok (.iconst 0, 1) := by decide +kernel
theorem dX10_init_83 : decode cX10_init 83 = .ok (.istore_n 1, 1) := by decide +kernel
theorem dX10_init_84 : decode cX10_init 84 = .ok (.iload_n 1, 1) := by decide +kernel
theorem dX10_init_85 : decode cX10_init 85 = .ok (.iconst 2, 1) := by decide +kernel
theorem dX10_init_86 : decode cX10_init 86 = .ok (.if_icmp .ge 22, 3) := by decide +kernel
theorem dX10_init_89 : decode cX10_init 89 = .ok (.aload_n 0, 1) := by decide +kernel
theorem dX10_init_90 : decode cX10_init 90 = .ok (.getfield 46, 3) := by decide +kernel
theorem dX10_init_93 : decode cX10_init 93 = .ok (.iload_n 1, 1) := by decide +kernel
theorem dX10_init_94 : decode cX10_init 94 = .ok (.new 44, 3) := by decide +kernel
theorem dX10_init_97 : decode cX10_init 97 = .ok (.dup, 1) := by decide +kernel
theorem dX10_init_98 : decode cX10_init 98 = .ok (.invokespecial 61, 3) := by decide +kernel
theorem dX10_init_101 : decode cX10_init 101 = .ok (.aastore, 1) := by decide +kernel
theorem dX10_init_102 : decode cX10_init 102 = .ok (.iinc 1 1, 3) := by decide +kernel
theorem dX10_init_105 : decode cX10_init 105 = .ok (.goto (-21), 3) := by decide +kernel
theorem dX10_init_108 : decode cX10_init 108 = .ok (.return_, 1) := by decide +kernel
theorem dX10_feed_0 : decode cX10_feed 0 = .ok (.iload_n 1, 1) := by decide +kernel
theorem dX10_feed_1 : decode cX10_feed 1 = .ok (.ifCond .lt 10, 3) := by decide +kernel
theorem dX10_feed_4 : decode cX10_feed 4 = .ok (.iload_n 1, 1) := by decide +kernel
theorem dX10_feed_5 : decode cX10_feed 5 = .ok (.sipush 256, 3) := by decide +kernel
theorem dX10_feed_8 : decode cX10_feed 8 = .ok (.if_icmp .lt 6, 3) := by decide +kernel
theorem dX10_feed_11 : decode cX10_feed 11 = .ok (.ldc 62, 2) := by decide +kernel
theorem dX10_feed_13 : decode cX10_feed 13 = .ok (.ireturn, 1) := by decide +kernel
theorem dX10_feed_14 : decode cX10_feed 14 = .ok (.aload_n 0, 1) := by decide +kernel
theorem dX10_feed_15 : decode cX10_feed 15 = .ok (.getfield 26, 3) := by decide +kernel
theorem dX10_feed_18 : decode cX10_feed 18 = .ok (.invokevirtual 63, 3) := by decide +kernel
theorem dX10_feed_21 : decode cX10_feed 21 = .ok (.ifCond .ne 6, 3) := by decide +kernel
theorem dX10_feed_24 : decode cX10_feed 24 = .ok (.ldc 67, 2) := by decide +kernel
theorem dX10_feed_26 : decode cX10_feed 26 = .ok (.ireturn, 1) := by decide +kernel
theorem dX10_feed_27 : decode cX10_feed 27 = .ok (.aload_n 0, 1) := by decide +kernel
theorem dX10_feed_28 : decode cX10_feed 28 = .ok (.getfield 26, 3) := by decide +kernel
theorem dX10_feed_31 : decode cX10_feed 31 = .ok (.iload_n 1, 1) := by decide +kernel
theorem dX10_feed_32 : decode cX10_feed 32 = .ok (.invokevirtual 68, 3) := by decide +kernel
theorem dX10_feed_35 : decode cX10_feed 35 = .ok (.aload_n 0, 1) := by decide +kernel
theorem dX10_feed_36 : decode cX10_feed 36 = .ok (.getfield 26, 3) := by decide +kernel
theorem dX10_feed_39 : decode cX10_feed 39 = .ok (.invokevirtual 72, 3) := by decide +kernel
theorem dX10_feed_42 : decode cX10_feed 42 = .ok (.ireturn, 1) := by decide +kernel
theorem dX10_pieces_0 : decode cX10_pieces 0 = .ok (.aload_n 0, 1) := by decide +kernel
theorem dX10_pieces_1 : decode cX10_pieces 1 = .ok (.getfield 26, 3) := by decide +kernel
theorem dX10_pieces_4 : decode cX10_pieces 4 = .ok (.aload_n 0, 1) := by decide +kernel
theorem dX10_pieces_5 : decode cX10_pieces 5 = .ok (.getfield 10, 3) := by decide +kernel
theorem dX10_pieces_8 : decode cX10_pieces 8 = .ok (.invokevirtual 76, 3) := by decide +kernel
theorem dX10_pieces_11 : decode cX10_pieces 11 = .ok (.bipush 40, 2) := by decide +kernel
theorem dX10_pieces_13 : decode cX10_pieces 13 = .ok (.aload_n 0, 1) := by decide +kernel
theorem dX10_pieces_14 : decode cX10_pieces 14 = .ok (.getfield 10, 3) := by decide +kernel
theorem dX10_pieces_17 : decode cX10_pieces 17 = .ok (.invokevirtual 79, 3) := by decide +kernel
theorem dX10_pieces_20 : decode cX10_pieces 20 = .ok (.isub, 1) := by decide +kernel
theorem dX10_pieces_21 : decode cX10_pieces 21 = .ok (.invokevirtual 82, 3) := by decide +kernel
theorem dX10_pieces_24 : decode cX10_pieces 24 = .ok (.istore_n 1, 1) := by decide +kernel
theorem dX10_pieces_25 : decode cX10_pieces 25 = .ok (.aload_n 0, 1) := by decide +kernel
theorem dX10_pieces_26 : decode cX10_pieces 26 = .ok (.iload_n 1, 1) := by decide +kernel
theorem dX10_pieces_27 : decode cX10_pieces 27 = .ok (.ifCond .ne 7, 3) := by decide +kernel
theorem dX10_pieces_30 : decode cX10_pieces 30 = .ok (.iconst (-1), 1) := by decide +kernel
theorem dX10_pieces_31 : decode cX10_pieces 31 = .ok (.goto 10, 3) := by decide +kernel
theorem dX10_pieces_34 : decode cX10_pieces 34 = .ok (.aload_n 0, 1) := by decide +kernel
theorem dX10_pieces_35 : decode cX10_pieces 35 = .ok (.getfield 26, 3) := by decide +kernel
theorem dX10_pieces_38 : decode cX10_pieces 38 = .ok (.invokevirtual 86, 3) := by decide +kernel
theorem dX10_pieces_41 : decode cX10_pieces 41 = .ok (.putfield 54, 3) := by decide +kernel
theorem dX10_pieces_44 : decode cX10_pieces 44 = .ok (.aload_n 0, 1) := by decide +kernel
theorem dX10_pieces_45 : decode cX10_pieces 45 = .ok (.getfield 26, 3) := by decide +kernel
theorem dX10_pieces_48 : decode cX10_pieces 48 = .ok (.invokevirtual 89, 3) := by decide +kernel
theorem dX10_pieces_51 : decode cX10_pieces 51 = .ok (.iload_n 1, 1) := by decide +kernel
theorem dX10_pieces_52 : decode cX10_pieces 52 = .ok (.ifCond .eq 8, 3) := by decide +kernel
theorem dX10_pieces_55 : decode cX10_pieces 55 = .ok (.bipush (-10), 2) := by decide +kernel
theorem dX10_pieces_57 : decode cX10_pieces 57 = .ok (.iload_n 1, 1) := by decide +kernel
theorem dX10_pieces_58 : decode cX10_pieces 58 = .ok (.isub, 1) := by decide +kernel
theorem dX10_pieces_59 : decode cX10_pieces 59 = .ok (.ireturn, 1) := by decide +kernel
theorem dX10_pieces_60 : decode cX10_pieces 60 = .ok (.aload_n 0, 1) := by decide +kernel
theorem dX10_pieces_61 : decode cX10_pieces 61 = .ok (.invokevirtual 92, 3) := by decide +kernel
theorem dX10_pieces_64 : decode cX10_pieces 64 = .ok (.iconst 0, 1) := by decide +kernel
theorem dX10_pieces_65 : decode cX10_pieces 65 = .ok (.istore_n 2, 1) := by decide +kernel
theorem dX10_pieces_66 : decode cX10_pieces 66 = .ok (.iload_n 2, 1) := by decide +kernel
theorem dX10_pieces_67 : decode cX10_pieces 67 = .ok (.aload_n 0, 1) := by decide +kernel
theorem dX10_pieces_68 : decode cX10_pieces 68 = .ok (.getfield 26, 3) := by decide +kernel
theorem dX10_pieces_71 : decode cX10_pieces 71 = .ok (.invokevirtual 95, 3) := by decide +kernel
theorem dX10_pieces_74 : decode cX10_pieces 74 = .ok (.if_icmp .ge 32, 3) := by decide +kernel
theorem dX10_pieces_77 : decode cX10_pieces 77 = .ok (.aload_n 0, 1) := by decide +kernel
theorem dX10_pieces_78 : decode cX10_pieces 78 = .ok (.getfield 10, 3) := by decide +kernel
theorem dX10_pieces_81 : decode cX10_pieces 81 = .ok (.aload_n 0, 1) := by decide +kernel
theorem dX10_pieces_82 : decode cX10_pieces 82 = .ok (.getfield 26, 3) := by decide +kernel
theorem dX10_pieces_85 : decode cX10_pieces 85 = .ok (.iload_n 2, 1) := by decide +kernel
theorem dX10_pieces_86 : decode cX10_pieces 86 = .ok (.invokevirtual 98, 3) := by decide +kernel
theorem dX10_pieces_89 : decode cX10_pieces 89 = .ok (.aload_n 0, 1) := by decide +kernel
theorem dX10_pieces_90 : decode cX10_pieces 90 = .ok (.getfield 26, 3) := by decide +kernel
theorem dX10_pieces_93 : decode cX10_pieces 93 = .ok (.iload_n 2, 1) := by decide +kernel
theorem dX10_pieces_94 : decode cX10_pieces 94 = .ok (.invokevirtual 102, 3) := by decide +kernel
theorem dX10_pieces_97 : decode cX10_pieces 97 = .ok (.invokevirtual 105, 3) := by decide +kernel
theorem dX10_pieces_100 : decode cX10_pieces 100 = .ok (.iinc 2 1, 3) := by decide +kernel
theorem dX10_pieces_103 : decode cX10_pieces 103 = .ok (.goto (-37), 3) := by decide +kernel
theorem dX10_pieces_106 : decode cX10_pieces 106 = .ok (.aload_n 0, 1) := by decide +kernel
theorem dX10_pieces_107 : decode cX10_pieces 107 = .ok (.getfield 10, 3) := by decide +kernel
theorem dX10_pieces_110 : decode cX10_pieces 110 = .ok (.invokevirtual 79, 3) := by decide +kernel
theorem dX10_pieces_113 : decode cX10_pieces 113 = .ok (.ireturn, 1) := by decide +kernel
theorem dX10_fault_0 : decode cX10_fault 0 = .ok (.aload_n 0, 1) := by decide +kernel
theorem dX10_fault_1 : decode cX10_fault 1 = .ok (.getfield 54, 3) := by decide +kernel
theorem dX10_fault_4 : decode cX10_fault 4 = .ok (.ireturn, 1) := by decide +kernel
theorem dX10_told_0 : decode cX10_told 0 = .ok (.iload_n 1, 1) := by decide +kernel
theorem dX10_told_1 : decode cX10_told 1 = .ok (.tableswitch 185 0 12 #[67, 75, 83, 94, 105, 113, 121, 129, 137, 145, 153, 172, 180], 67) := by decide +kernel
theorem dX10_told_68 : decode cX10_told 68 = .ok (.aload_n 0, 1) := by decide +kernel
theorem dX10_told_69 : decode cX10_told 69 = .ok (.getfield 10, 3) := by decide +kernel
theorem dX10_told_72 : decode cX10_told 72 = .ok (.invokevirtual 76, 3) := by decide +kernel
theorem dX10_told_75 : decode cX10_told 75 = .ok (.ireturn, 1) := by decide +kernel
theorem dX10_told_76 : decode cX10_told 76 = .ok (.aload_n 0, 1) := by decide +kernel
theorem dX10_told_77 : decode cX10_told 77 = .ok (.getfield 10, 3) := by decide +kernel
theorem dX10_told_80 : decode cX10_told 80 = .ok (.invokevirtual 79, 3) := by decide +kernel
theorem dX10_told_83 : decode cX10_told 83 = .ok (.ireturn, 1) := by decide +kernel
theorem dX10_told_84 : decode cX10_told 84 = .ok (.aload_n 0, 1) := by decide +kernel
theorem dX10_told_85 : decode cX10_told 85 = .ok (.invokevirtual 108, 3) := by decide +kernel
theorem dX10_told_88 : decode cX10_told 88 = .ok (.getfield 112, 3) := by decide +kernel
theorem dX10_told_91 : decode cX10_told 91 = .ok (.invokevirtual 116, 3) := by decide +kernel
theorem dX10_told_94 : decode cX10_told 94 = .ok (.ireturn, 1) := by decide +kernel
theorem dX10_told_95 : decode cX10_told 95 = .ok (.aload_n 0, 1) := by decide +kernel
theorem dX10_told_96 : decode cX10_told 96 = .ok (.invokevirtual 108, 3) := by decide +kernel
theorem dX10_told_99 : decode cX10_told 99 = .ok (.getfield 121, 3) := by decide +kernel
theorem dX10_told_102 : decode cX10_told 102 = .ok (.invokevirtual 125, 3) := by decide +kernel
theorem dX10_told_105 : decode cX10_told 105 = .ok (.ireturn, 1) := by decide +kernel
theorem dX10_told_106 : decode cX10_told 106 = .ok (.aload_n 0, 1) := by decide +kernel
theorem dX10_told_107 : decode cX10_told 107 = .ok (.getfield 10, 3) := by decide +kernel
theorem dX10_told_110 : decode cX10_told 110 = .ok (.invokevirtual 128, 3) := by decide +kernel
theorem dX10_told_113 : decode cX10_told 113 = .ok (.ireturn, 1) := by decide +kernel
theorem dX10_told_114 : decode cX10_told 114 = .ok (.aload_n 0, 1) := by decide +kernel
theorem dX10_told_115 : decode cX10_told 115 = .ok (.getfield 10, 3) := by decide +kernel
theorem dX10_told_118 : decode cX10_told 118 = .ok (.invokevirtual 131, 3) := by decide +kernel
theorem dX10_told_121 : decode cX10_told 121 = .ok (.ireturn, 1) := by decide +kernel
theorem dX10_told_122 : decode cX10_told 122 = .ok (.aload_n 0, 1) := by decide +kernel
theorem dX10_told_123 : decode cX10_told 123 = .ok (.getfield 10, 3) := by decide +kernel
theorem dX10_told_126 : decode cX10_told 126 = .ok (.invokevirtual 134, 3) := by decide +kernel
theorem dX10_told_129 : decode cX10_told 129 = .ok (.ireturn, 1) := by decide +kernel
theorem dX10_told_130 : decode cX10_told 130 = .ok (.aload_n 0, 1) := by decide +kernel
theorem dX10_told_131 : decode cX10_told 131 = .ok (.getfield 10, 3) := by decide +kernel
theorem dX10_told_134 : decode cX10_told 134 = .ok (.invokevirtual 137, 3) := by decide +kernel
theorem dX10_told_137 : decode cX10_told 137 = .ok (.ireturn, 1) := by decide +kernel
theorem dX10_told_138 : decode cX10_told 138 = .ok (.aload_n 0, 1) := by decide +kernel
theorem dX10_told_139 : decode cX10_told 139 = .ok (.getfield 26, 3) := by decide +kernel
theorem dX10_told_142 : decode cX10_told 142 = .ok (.invokevirtual 72, 3) := by decide +kernel
theorem dX10_told_145 : decode cX10_told 145 = .ok (.ireturn, 1) := by decide +kernel
theorem dX10_told_146 : decode cX10_told 146 = .ok (.aload_n 0, 1) := by decide +kernel
theorem dX10_told_147 : decode cX10_told 147 = .ok (.getfield 40, 3) := by decide +kernel
theorem dX10_told_150 : decode cX10_told 150 = .ok (.invokevirtual 140, 3) := by decide +kernel
theorem dX10_told_153 : decode cX10_told 153 = .ok (.ireturn, 1) := by decide +kernel
theorem dX10_told_154 : decode cX10_told 154 = .ok (.aload_n 0, 1) := by decide +kernel
theorem dX10_told_155 : decode cX10_told 155 = .ok (.getfield 40, 3) := by decide +kernel
theorem dX10_told_158 : decode cX10_told 158 = .ok (.aload_n 0, 1) := by decide +kernel
theorem dX10_told_159 : decode cX10_told 159 = .ok (.getfield 10, 3) := by decide +kernel
theorem dX10_told_162 : decode cX10_told 162 = .ok (.aload_n 0, 1) := by decide +kernel
theorem dX10_told_163 : decode cX10_told 163 = .ok (.invokevirtual 108, 3) := by decide +kernel
theorem dX10_told_166 : decode cX10_told 166 = .ok (.getfield 143, 3) := by decide +kernel
theorem dX10_told_169 : decode cX10_told 169 = .ok (.invokevirtual 146, 3) := by decide +kernel
theorem dX10_told_172 : decode cX10_told 172 = .ok (.ireturn, 1) := by decide +kernel
theorem dX10_told_173 : decode cX10_told 173 = .ok (.aload_n 0, 1) := by decide +kernel
theorem dX10_told_174 : decode cX10_told 174 = .ok (.getfield 33, 3) := by decide +kernel
theorem dX10_told_177 : decode cX10_told 177 = .ok (.invokevirtual 150, 3) := by decide +kernel
theorem dX10_told_180 : decode cX10_told 180 = .ok (.ireturn, 1) := by decide +kernel
theorem dX10_told_181 : decode cX10_told 181 = .ok (.aload_n 0, 1) := by decide +kernel
theorem dX10_told_182 : decode cX10_told 182 = .ok (.getfield 50, 3) := by decide +kernel
theorem dX10_told_185 : decode cX10_told 185 = .ok (.ireturn, 1) := by decide +kernel
theorem dX10_told_186 : decode cX10_told 186 = .ok (.ldc 62, 2) := by decide +kernel
theorem dX10_told_188 : decode cX10_told 188 = .ok (.ireturn, 1) := by decide +kernel
theorem dX10_at_0 : decode cX10_at 0 = .ok (.aload_n 0, 1) := by decide +kernel
theorem dX10_at_1 : decode cX10_at 1 = .ok (.getfield 10, 3) := by decide +kernel
theorem dX10_at_4 : decode cX10_at 4 = .ok (.iload_n 1, 1) := by decide +kernel
theorem dX10_at_5 : decode cX10_at 5 = .ok (.invokevirtual 151, 3) := by decide +kernel
theorem dX10_at_8 : decode cX10_at 8 = .ok (.ifCond .ne 6, 3) := by decide +kernel
theorem dX10_at_11 : decode cX10_at 11 = .ok (.ldc 155, 2) := by decide +kernel
theorem dX10_at_13 : decode cX10_at 13 = .ok (.ireturn, 1) := by decide +kernel
theorem dX10_at_14 : decode cX10_at 14 = .ok (.iload_n 2, 1) := by decide +kernel
theorem dX10_at_15 : decode cX10_at 15 = .ok (.lookupswitch 43 #[(0, 25), (1, 34)], 25) := by decide +kernel
theorem dX10_at_40 : decode cX10_at 40 = .ok (.aload_n 0, 1) := by decide +kernel
theorem dX10_at_41 : decode cX10_at 41 = .ok (.getfield 10, 3) := by decide +kernel
theorem dX10_at_44 : decode cX10_at 44 = .ok (.iload_n 1, 1) := by decide +kernel
theorem dX10_at_45 : decode cX10_at 45 = .ok (.invokevirtual 156, 3) := by decide +kernel
theorem dX10_at_48 : decode cX10_at 48 = .ok (.ireturn, 1) := by decide +kernel
theorem dX10_at_49 : decode cX10_at 49 = .ok (.aload_n 0, 1) := by decide +kernel
theorem dX10_at_50 : decode cX10_at 50 = .ok (.getfield 10, 3) := by decide +kernel
theorem dX10_at_53 : decode cX10_at 53 = .ok (.iload_n 1, 1) := by decide +kernel
theorem dX10_at_54 : decode cX10_at 54 = .ok (.invokevirtual 159, 3) := by decide +kernel
theorem dX10_at_57 : decode cX10_at 57 = .ok (.ireturn, 1) := by decide +kernel
theorem dX10_at_58 : decode cX10_at 58 = .ok (.ldc 62, 2) := by decide +kernel
theorem dX10_at_60 : decode cX10_at 60 = .ok (.ireturn, 1) := by decide +kernel
theorem dX10_day_0 : decode cX10_day 0 = .ok (.aload_n 0, 1) := by decide +kernel
theorem dX10_day_1 : decode cX10_day 1 = .ok (.getfield 10, 3) := by decide +kernel
theorem dX10_day_4 : decode cX10_day 4 = .ok (.iload_n 1, 1) := by decide +kernel
theorem dX10_day_5 : decode cX10_day 5 = .ok (.invokevirtual 162, 3) := by decide +kernel
theorem dX10_day_8 : decode cX10_day 8 = .ok (.ifCond .ne 6, 3) := by decide +kernel
theorem dX10_day_11 : decode cX10_day 11 = .ok (.ldc 155, 2) := by decide +kernel
theorem dX10_day_13 : decode cX10_day 13 = .ok (.ireturn, 1) := by decide +kernel
theorem dX10_day_14 : decode cX10_day 14 = .ok (.iload_n 2, 1) := by decide +kernel
theorem dX10_day_15 : decode cX10_day 15 = .ok (.tableswitch 55 0 2 #[25, 37, 46], 25) := by decide +kernel
theorem dX10_day_40 : decode cX10_day 40 = .ok (.aload_n 0, 1) := by decide +kernel
theorem dX10_day_41 : decode cX10_day 41 = .ok (.invokevirtual 108, 3) := by decide +kernel
theorem dX10_day_44 : decode cX10_day 44 = .ok (.getfield 165, 3) := by decide +kernel
theorem dX10_day_47 : decode cX10_day 47 = .ok (.iload_n 1, 1) := by decide +kernel
theorem dX10_day_48 : decode cX10_day 48 = .ok (.invokevirtual 169, 3) := by decide +kernel
theorem dX10_day_51 : decode cX10_day 51 = .ok (.ireturn, 1) := by decide +kernel
theorem dX10_day_52 : decode cX10_day 52 = .ok (.aload_n 0, 1) := by decide +kernel
theorem dX10_day_53 : decode cX10_day 53 = .ok (.invokevirtual 108, 3) := by decide +kernel
theorem dX10_day_56 : decode cX10_day 56 = .ok (.iload_n 1, 1) := by decide +kernel
theorem dX10_day_57 : decode cX10_day 57 = .ok (.invokevirtual 174, 3) := by decide +kernel
theorem dX10_day_60 : decode cX10_day 60 = .ok (.ireturn, 1) := by decide +kernel
theorem dX10_day_61 : decode cX10_day 61 = .ok (.aload_n 0, 1) := by decide +kernel
theorem dX10_day_62 : decode cX10_day 62 = .ok (.invokevirtual 108, 3) := by decide +kernel
theorem dX10_day_65 : decode cX10_day 65 = .ok (.iload_n 1, 1) := by decide +kernel
theorem dX10_day_66 : decode cX10_day 66 = .ok (.invokevirtual 177, 3) := by decide +kernel
theorem dX10_day_69 : decode cX10_day 69 = .ok (.ireturn, 1) := by decide +kernel
theorem dX10_day_70 : decode cX10_day 70 = .ok (.ldc 62, 2) := by decide +kernel
theorem dX10_day_72 : decode cX10_day 72 = .ok (.ireturn, 1) := by decide +kernel
theorem dX10_word_0 : decode cX10_word 0 = .ok (.iload_n 1, 1) := by decide +kernel
theorem dX10_word_1 : decode cX10_word 1 = .ok (.invokestatic 180, 3) := by decide +kernel
theorem dX10_word_4 : decode cX10_word 4 = .ok (.ifCond .eq 14, 3) := by decide +kernel
theorem dX10_word_7 : decode cX10_word 7 = .ok (.aload_n 0, 1) := by decide +kernel
theorem dX10_word_8 : decode cX10_word 8 = .ok (.getfield 10, 3) := by decide +kernel
theorem dX10_word_11 : decode cX10_word 11 = .ok (.iload_n 2, 1) := by decide +kernel
theorem dX10_word_12 : decode cX10_word 12 = .ok (.invokevirtual 162, 3) := by decide +kernel
theorem dX10_word_15 : decode cX10_word 15 = .ok (.ifCond .ne 6, 3) := by decide +kernel
theorem dX10_word_18 : decode cX10_word 18 = .ok (.ldc 155, 2) := by decide +kernel
theorem dX10_word_20 : decode cX10_word 20 = .ok (.ireturn, 1) := by decide +kernel
theorem dX10_word_21 : decode cX10_word 21 = .ok (.iload_n 3, 1) := by decide +kernel
theorem dX10_word_22 : decode cX10_word 22 = .ok (.tableswitch 97 0 5 #[38, 51, 64, 64, 64, 64], 38) := by decide +kernel
theorem dX10_word_60 : decode cX10_word 60 = .ok (.aload_n 0, 1) := by decide +kernel
theorem dX10_word_61 : decode cX10_word 61 = .ok (.invokevirtual 108, 3) := by decide +kernel
theorem dX10_word_64 : decode cX10_word 64 = .ok (.getfield 165, 3) := by decide +kernel
theorem dX10_word_67 : decode cX10_word 67 = .ok (.iload_n 1, 1) := by decide +kernel
theorem dX10_word_68 : decode cX10_word 68 = .ok (.iload_n 2, 1) := by decide +kernel
theorem dX10_word_69 : decode cX10_word 69 = .ok (.invokevirtual 183, 3) := by decide +kernel
theorem dX10_word_72 : decode cX10_word 72 = .ok (.ireturn, 1) := by decide +kernel
theorem dX10_word_73 : decode cX10_word 73 = .ok (.aload_n 0, 1) := by decide +kernel
theorem dX10_word_74 : decode cX10_word 74 = .ok (.invokevirtual 108, 3) := by decide +kernel
theorem dX10_word_77 : decode cX10_word 77 = .ok (.getfield 143, 3) := by decide +kernel
theorem dX10_word_80 : decode cX10_word 80 = .ok (.iload_n 1, 1) := by decide +kernel
theorem dX10_word_81 : decode cX10_word 81 = .ok (.iload_n 2, 1) := by decide +kernel
theorem dX10_word_82 : decode cX10_word 82 = .ok (.invokevirtual 185, 3) := by decide +kernel
theorem dX10_word_85 : decode cX10_word 85 = .ok (.ireturn, 1) := by decide +kernel
theorem dX10_word_86 : decode cX10_word 86 = .ok (.aload_n 0, 1) := by decide +kernel
theorem dX10_word_87 : decode cX10_word 87 = .ok (.getfield 10, 3) := by decide +kernel
theorem dX10_word_90 : decode cX10_word 90 = .ok (.iload_n 3, 1) := by decide +kernel
theorem dX10_word_91 : decode cX10_word 91 = .ok (.iconst 2, 1) := by decide +kernel
theorem dX10_word_92 : decode cX10_word 92 = .ok (.isub, 1) := by decide +kernel
theorem dX10_word_93 : decode cX10_word 93 = .ok (.invokevirtual 190, 3) := by decide +kernel
theorem dX10_word_96 : decode cX10_word 96 = .ok (.ifCond .eq 21, 3) := by decide +kernel
theorem dX10_word_99 : decode cX10_word 99 = .ok (.aload_n 0, 1) := by decide +kernel
theorem dX10_word_100 : decode cX10_word 100 = .ok (.invokevirtual 108, 3) := by decide +kernel
theorem dX10_word_103 : decode cX10_word 103 = .ok (.getfield 165, 3) := by decide +kernel
theorem dX10_word_106 : decode cX10_word 106 = .ok (.iload_n 1, 1) := by decide +kernel
theorem dX10_word_107 : decode cX10_word 107 = .ok (.iload_n 2, 1) := by decide +kernel
theorem dX10_word_108 : decode cX10_word 108 = .ok (.iload_n 3, 1) := by decide +kernel
theorem dX10_word_109 : decode cX10_word 109 = .ok (.iconst 2, 1) := by decide +kernel
theorem dX10_word_110 : decode cX10_word 110 = .ok (.isub, 1) := by decide +kernel
theorem dX10_word_111 : decode cX10_word 111 = .ok (.invokevirtual 193, 3) := by decide +kernel
theorem dX10_word_114 : decode cX10_word 114 = .ok (.goto 4, 3) := by decide +kernel
theorem dX10_word_117 : decode cX10_word 117 = .ok (.iconst (-1), 1) := by decide +kernel
theorem dX10_word_118 : decode cX10_word 118 = .ok (.ireturn, 1) := by decide +kernel
theorem dX10_word_119 : decode cX10_word 119 = .ok (.ldc 62, 2) := by decide +kernel
theorem dX10_word_121 : decode cX10_word 121 = .ok (.ireturn, 1) := by decide +kernel
theorem dX10_cost_0 : decode cX10_cost 0 = .ok (.iload_n 1, 1) := by decide +kernel
theorem dX10_cost_1 : decode cX10_cost 1 = .ok (.invokestatic 180, 3) := by decide +kernel
theorem dX10_cost_4 : decode cX10_cost 4 = .ok (.ifCond .eq 17, 3) := by decide +kernel
theorem dX10_cost_7 : decode cX10_cost 7 = .ok (.aload_n 0, 1) := by decide +kernel
theorem dX10_cost_8 : decode cX10_cost 8 = .ok (.invokevirtual 108, 3) := by decide +kernel
theorem dX10_cost_11 : decode cX10_cost 11 = .ok (.getfield 143, 3) := by decide +kernel
theorem dX10_cost_14 : decode cX10_cost 14 = .ok (.iload_n 1, 1) := by decide +kernel
theorem dX10_cost_15 : decode cX10_cost 15 = .ok (.invokevirtual 197, 3) := by decide +kernel
theorem dX10_cost_18 : decode cX10_cost 18 = .ok (.goto 5, 3) := by decide +kernel
theorem dX10_cost_21 : decode cX10_cost 21 = .ok (.ldc 155, 2) := by decide +kernel
theorem dX10_cost_23 : decode cX10_cost 23 = .ok (.ireturn, 1) := by decide +kernel
theorem dX10_steady_0 : decode cX10_steady 0 = .ok (.iload_n 1, 1) := by decide +kernel
theorem dX10_steady_1 : decode cX10_steady 1 = .ok (.invokestatic 180, 3) := by decide +kernel
theorem dX10_steady_4 : decode cX10_steady 4 = .ok (.ifCond .ne 6, 3) := by decide +kernel
theorem dX10_steady_7 : decode cX10_steady 7 = .ok (.ldc 155, 2) := by decide +kernel
theorem dX10_steady_9 : decode cX10_steady 9 = .ok (.ireturn, 1) := by decide +kernel
theorem dX10_steady_10 : decode cX10_steady 10 = .ok (.aload_n 0, 1) := by decide +kernel
theorem dX10_steady_11 : decode cX10_steady 11 = .ok (.getfield 10, 3) := by decide +kernel
theorem dX10_steady_14 : decode cX10_steady 14 = .ok (.iload_n 2, 1) := by decide +kernel
theorem dX10_steady_15 : decode cX10_steady 15 = .ok (.invokevirtual 190, 3) := by decide +kernel
theorem dX10_steady_18 : decode cX10_steady 18 = .ok (.ifCond .eq 18, 3) := by decide +kernel
theorem dX10_steady_21 : decode cX10_steady 21 = .ok (.aload_n 0, 1) := by decide +kernel
theorem dX10_steady_22 : decode cX10_steady 22 = .ok (.invokevirtual 108, 3) := by decide +kernel
theorem dX10_steady_25 : decode cX10_steady 25 = .ok (.getfield 165, 3) := by decide +kernel
theorem dX10_steady_28 : decode cX10_steady 28 = .ok (.iload_n 1, 1) := by decide +kernel
theorem dX10_steady_29 : decode cX10_steady 29 = .ok (.iload_n 2, 1) := by decide +kernel
theorem dX10_steady_30 : decode cX10_steady 30 = .ok (.invokevirtual 200, 3) := by decide +kernel
theorem dX10_steady_33 : decode cX10_steady 33 = .ok (.goto 5, 3) := by decide +kernel
theorem dX10_steady_36 : decode cX10_steady 36 = .ok (.ldc 62, 2) := by decide +kernel
theorem dX10_steady_38 : decode cX10_steady 38 = .ok (.ireturn, 1) := by decide +kernel
theorem dX10_flare_0 : decode cX10_flare 0 = .ok (.aload_n 0, 1) := by decide +kernel
theorem dX10_flare_1 : decode cX10_flare 1 = .ok (.invokevirtual 108, 3) := by decide +kernel
theorem dX10_flare_4 : decode cX10_flare 4 = .ok (.astore_n 3, 1) := by decide +kernel
theorem dX10_flare_5 : decode cX10_flare 5 = .ok (.aload_n 3, 1) := by decide +kernel
theorem dX10_flare_6 : decode cX10_flare 6 = .ok (.getfield 112, 3) := by decide +kernel
theorem dX10_flare_9 : decode cX10_flare 9 = .ok (.iload_n 1, 1) := by decide +kernel
theorem dX10_flare_10 : decode cX10_flare 10 = .ok (.invokevirtual 203, 3) := by decide +kernel
theorem dX10_flare_13 : decode cX10_flare 13 = .ok (.ifCond .ne 6, 3) := by decide +kernel
theorem dX10_flare_16 : decode cX10_flare 16 = .ok (.ldc 155, 2) := by decide +kernel
theorem dX10_flare_18 : decode cX10_flare 18 = .ok (.ireturn, 1) := by decide +kernel
theorem dX10_flare_19 : decode cX10_flare 19 = .ok (.iload_n 2, 1) := by decide +kernel
theorem dX10_flare_20 : decode cX10_flare 20 = .ok (.invokestatic 206, 3) := by decide +kernel
theorem dX10_flare_23 : decode cX10_flare 23 = .ok (.ifCond .eq 15, 3) := by decide +kernel
theorem dX10_flare_26 : decode cX10_flare 26 = .ok (.aload_n 3, 1) := by decide +kernel
theorem dX10_flare_27 : decode cX10_flare 27 = .ok (.getfield 112, 3) := by decide +kernel
theorem dX10_flare_30 : decode cX10_flare 30 = .ok (.iload_n 1, 1) := by decide +kernel
theorem dX10_flare_31 : decode cX10_flare 31 = .ok (.iload_n 2, 1) := by decide +kernel
theorem dX10_flare_32 : decode cX10_flare 32 = .ok (.invokevirtual 209, 3) := by decide +kernel
theorem dX10_flare_35 : decode cX10_flare 35 = .ok (.goto 5, 3) := by decide +kernel
theorem dX10_flare_38 : decode cX10_flare 38 = .ok (.ldc 62, 2) := by decide +kernel
theorem dX10_flare_40 : decode cX10_flare 40 = .ok (.ireturn, 1) := by decide +kernel
theorem dX10_story_0 : decode cX10_story 0 = .ok (.aload_n 0, 1) := by decide +kernel
theorem dX10_story_1 : decode cX10_story 1 = .ok (.invokevirtual 108, 3) := by decide +kernel
theorem dX10_story_4 : decode cX10_story 4 = .ok (.astore_n 3, 1) := by decide +kernel
theorem dX10_story_5 : decode cX10_story 5 = .ok (.aload_n 3, 1) := by decide +kernel
theorem dX10_story_6 : decode cX10_story 6 = .ok (.getfield 121, 3) := by decide +kernel
theorem dX10_story_9 : decode cX10_story 9 = .ok (.iload_n 1, 1) := by decide +kernel
theorem dX10_story_10 : decode cX10_story 10 = .ok (.invokevirtual 212, 3) := by decide +kernel
theorem dX10_story_13 : decode cX10_story 13 = .ok (.ifCond .ne 6, 3) := by decide +kernel
theorem dX10_story_16 : decode cX10_story 16 = .ok (.ldc 155, 2) := by decide +kernel
theorem dX10_story_18 : decode cX10_story 18 = .ok (.ireturn, 1) := by decide +kernel
theorem dX10_story_19 : decode cX10_story 19 = .ok (.iload_n 2, 1) := by decide +kernel
theorem dX10_story_20 : decode cX10_story 20 = .ok (.invokestatic 213, 3) := by decide +kernel
theorem dX10_story_23 : decode cX10_story 23 = .ok (.ifCond .eq 15, 3) := by decide +kernel
theorem dX10_story_26 : decode cX10_story 26 = .ok (.aload_n 3, 1) := by decide +kernel
theorem dX10_story_27 : decode cX10_story 27 = .ok (.getfield 121, 3) := by decide +kernel
theorem dX10_story_30 : decode cX10_story 30 = .ok (.iload_n 1, 1) := by decide +kernel
theorem dX10_story_31 : decode cX10_story 31 = .ok (.iload_n 2, 1) := by decide +kernel
theorem dX10_story_32 : decode cX10_story 32 = .ok (.invokevirtual 214, 3) := by decide +kernel
theorem dX10_story_35 : decode cX10_story 35 = .ok (.goto 5, 3) := by decide +kernel
theorem dX10_story_38 : decode cX10_story 38 = .ok (.ldc 62, 2) := by decide +kernel
theorem dX10_story_40 : decode cX10_story 40 = .ok (.ireturn, 1) := by decide +kernel
theorem dX10_together_0 : decode cX10_together 0 = .ok (.iload_n 1, 1) := by decide +kernel
theorem dX10_together_1 : decode cX10_together 1 = .ok (.invokestatic 180, 3) := by decide +kernel
theorem dX10_together_4 : decode cX10_together 4 = .ok (.ifCond .eq 29, 3) := by decide +kernel
theorem dX10_together_7 : decode cX10_together 7 = .ok (.iload_n 2, 1) := by decide +kernel
theorem dX10_together_8 : decode cX10_together 8 = .ok (.invokestatic 180, 3) := by decide +kernel
theorem dX10_together_11 : decode cX10_together 11 = .ok (.ifCond .eq 22, 3) := by decide +kernel
theorem dX10_together_14 : decode cX10_together 14 = .ok (.aload_n 0, 1) := by decide +kernel
theorem dX10_together_15 : decode cX10_together 15 = .ok (.getfield 10, 3) := by decide +kernel
theorem dX10_together_18 : decode cX10_together 18 = .ok (.iload_n 1, 1) := by decide +kernel
theorem dX10_together_19 : decode cX10_together 19 = .ok (.invokestatic 215, 3) := by decide +kernel
theorem dX10_together_22 : decode cX10_together 22 = .ok (.iload_n 2, 1) := by decide +kernel
theorem dX10_together_23 : decode cX10_together 23 = .ok (.invokestatic 215, 3) := by decide +kernel
theorem dX10_together_26 : decode cX10_together 26 = .ok (.ior, 1) := by decide +kernel
theorem dX10_together_27 : decode cX10_together 27 = .ok (.invokevirtual 218, 3) := by decide +kernel
theorem dX10_together_30 : decode cX10_together 30 = .ok (.goto 5, 3) := by decide +kernel
theorem dX10_together_33 : decode cX10_together 33 = .ok (.ldc 155, 2) := by decide +kernel
theorem dX10_together_35 : decode cX10_together 35 = .ok (.ireturn, 1) := by decide +kernel
theorem dX10_piece_0 : decode cX10_piece 0 = .ok (.aload_n 0, 1) := by decide +kernel
theorem dX10_piece_1 : decode cX10_piece 1 = .ok (.getfield 10, 3) := by decide +kernel
theorem dX10_piece_4 : decode cX10_piece 4 = .ok (.iload_n 1, 1) := by decide +kernel
theorem dX10_piece_5 : decode cX10_piece 5 = .ok (.invokevirtual 162, 3) := by decide +kernel
theorem dX10_piece_8 : decode cX10_piece 8 = .ok (.ifCond .ne 6, 3) := by decide +kernel
theorem dX10_piece_11 : decode cX10_piece 11 = .ok (.ldc 155, 2) := by decide +kernel
theorem dX10_piece_13 : decode cX10_piece 13 = .ok (.ireturn, 1) := by decide +kernel
theorem dX10_piece_14 : decode cX10_piece 14 = .ok (.iload_n 2, 1) := by decide +kernel
theorem dX10_piece_15 : decode cX10_piece 15 = .ok (.ifCond .lt 10, 3) := by decide +kernel
theorem dX10_piece_18 : decode cX10_piece 18 = .ok (.iload_n 2, 1) := by decide +kernel
theorem dX10_piece_19 : decode cX10_piece 19 = .ok (.sipush 256, 3) := by decide +kernel
theorem dX10_piece_22 : decode cX10_piece 22 = .ok (.if_icmp .lt 6, 3) := by decide +kernel
theorem dX10_piece_25 : decode cX10_piece 25 = .ok (.ldc 62, 2) := by decide +kernel
theorem dX10_piece_27 : decode cX10_piece 27 = .ok (.ireturn, 1) := by decide +kernel
theorem dX10_piece_28 : decode cX10_piece 28 = .ok (.aload_n 0, 1) := by decide +kernel
theorem dX10_piece_29 : decode cX10_piece 29 = .ok (.getfield 10, 3) := by decide +kernel
theorem dX10_piece_32 : decode cX10_piece 32 = .ok (.invokevirtual 221, 3) := by decide +kernel
theorem dX10_piece_35 : decode cX10_piece 35 = .ok (.ifCond .ne 6, 3) := by decide +kernel
theorem dX10_piece_38 : decode cX10_piece 38 = .ok (.ldc 67, 2) := by decide +kernel
theorem dX10_piece_40 : decode cX10_piece 40 = .ok (.ireturn, 1) := by decide +kernel
theorem dX10_piece_41 : decode cX10_piece 41 = .ok (.aload_n 0, 1) := by decide +kernel
theorem dX10_piece_42 : decode cX10_piece 42 = .ok (.iload_n 1, 1) := by decide +kernel
theorem dX10_piece_43 : decode cX10_piece 43 = .ok (.iload_n 2, 1) := by decide +kernel
theorem dX10_piece_44 : decode cX10_piece 44 = .ok (.invokevirtual 222, 3) := by decide +kernel
theorem dX10_piece_47 : decode cX10_piece 47 = .ok (.aload_n 0, 1) := by decide +kernel
theorem dX10_piece_48 : decode cX10_piece 48 = .ok (.getfield 10, 3) := by decide +kernel
theorem dX10_piece_51 : decode cX10_piece 51 = .ok (.invokevirtual 79, 3) := by decide +kernel
theorem dX10_piece_54 : decode cX10_piece 54 = .ok (.iconst 1, 1) := by decide +kernel
theorem dX10_piece_55 : decode cX10_piece 55 = .ok (.isub, 1) := by decide +kernel
theorem dX10_piece_56 : decode cX10_piece 56 = .ok (.ireturn, 1) := by decide +kernel
theorem dX10_take_0 : decode cX10_take 0 = .ok (.aload_n 0, 1) := by decide +kernel
theorem dX10_take_1 : decode cX10_take 1 = .ok (.getfield 10, 3) := by decide +kernel
theorem dX10_take_4 : decode cX10_take 4 = .ok (.iload_n 1, 1) := by decide +kernel
theorem dX10_take_5 : decode cX10_take 5 = .ok (.invokevirtual 151, 3) := by decide +kernel
theorem dX10_take_8 : decode cX10_take 8 = .ok (.ifCond .ne 6, 3) := by decide +kernel
theorem dX10_take_11 : decode cX10_take 11 = .ok (.ldc 155, 2) := by decide +kernel
theorem dX10_take_13 : decode cX10_take 13 = .ok (.ireturn, 1) := by decide +kernel
theorem dX10_take_14 : decode cX10_take 14 = .ok (.aload_n 0, 1) := by decide +kernel
theorem dX10_take_15 : decode cX10_take 15 = .ok (.invokevirtual 92, 3) := by decide +kernel
theorem dX10_take_18 : decode cX10_take 18 = .ok (.aload_n 0, 1) := by decide +kernel
theorem dX10_take_19 : decode cX10_take 19 = .ok (.getfield 10, 3) := by decide +kernel
theorem dX10_take_22 : decode cX10_take 22 = .ok (.iload_n 1, 1) := by decide +kernel
theorem dX10_take_23 : decode cX10_take 23 = .ok (.invokevirtual 225, 3) := by decide +kernel
theorem dX10_take_26 : decode cX10_take 26 = .ok (.aload_n 0, 1) := by decide +kernel
theorem dX10_take_27 : decode cX10_take 27 = .ok (.getfield 10, 3) := by decide +kernel
theorem dX10_take_30 : decode cX10_take 30 = .ok (.invokevirtual 79, 3) := by decide +kernel
theorem dX10_take_33 : decode cX10_take 33 = .ok (.ireturn, 1) := by decide +kernel
theorem dX10_move_0 : decode cX10_move 0 = .ok (.aload_n 0, 1) := by decide +kernel
theorem dX10_move_1 : decode cX10_move 1 = .ok (.getfield 10, 3) := by decide +kernel
theorem dX10_move_4 : decode cX10_move 4 = .ok (.iload_n 1, 1) := by decide +kernel
theorem dX10_move_5 : decode cX10_move 5 = .ok (.invokevirtual 151, 3) := by decide +kernel
theorem dX10_move_8 : decode cX10_move 8 = .ok (.ifCond .eq 14, 3) := by decide +kernel
theorem dX10_move_11 : decode cX10_move 11 = .ok (.aload_n 0, 1) := by decide +kernel
theorem dX10_move_12 : decode cX10_move 12 = .ok (.getfield 10, 3) := by decide +kernel
theorem dX10_move_15 : decode cX10_move 15 = .ok (.iload_n 2, 1) := by decide +kernel
theorem dX10_move_16 : decode cX10_move 16 = .ok (.invokevirtual 162, 3) := by decide +kernel
theorem dX10_move_19 : decode cX10_move 19 = .ok (.ifCond .ne 6, 3) := by decide +kernel
theorem dX10_move_22 : decode cX10_move 22 = .ok (.ldc 155, 2) := by decide +kernel
theorem dX10_move_24 : decode cX10_move 24 = .ok (.ireturn, 1) := by decide +kernel
theorem dX10_move_25 : decode cX10_move 25 = .ok (.aload_n 0, 1) := by decide +kernel
theorem dX10_move_26 : decode cX10_move 26 = .ok (.getfield 10, 3) := by decide +kernel
theorem dX10_move_29 : decode cX10_move 29 = .ok (.iload_n 1, 1) := by decide +kernel
theorem dX10_move_30 : decode cX10_move 30 = .ok (.invokevirtual 156, 3) := by decide +kernel
theorem dX10_move_33 : decode cX10_move 33 = .ok (.istore_n 3, 1) := by decide +kernel
theorem dX10_move_34 : decode cX10_move 34 = .ok (.aload_n 0, 1) := by decide +kernel
theorem dX10_move_35 : decode cX10_move 35 = .ok (.invokevirtual 92, 3) := by decide +kernel
theorem dX10_move_38 : decode cX10_move 38 = .ok (.aload_n 0, 1) := by decide +kernel
theorem dX10_move_39 : decode cX10_move 39 = .ok (.getfield 10, 3) := by decide +kernel
theorem dX10_move_42 : decode cX10_move 42 = .ok (.iload_n 1, 1) := by decide +kernel
theorem dX10_move_43 : decode cX10_move 43 = .ok (.iload_n 2, 1) := by decide +kernel
theorem dX10_move_44 : decode cX10_move 44 = .ok (.invokevirtual 228, 3) := by decide +kernel
theorem dX10_move_47 : decode cX10_move 47 = .ok (.iload_n 3, 1) := by decide +kernel
theorem dX10_move_48 : decode cX10_move 48 = .ok (.ireturn, 1) := by decide +kernel
theorem dX10_days_0 : decode cX10_days 0 = .ok (.iload_n 1, 1) := by decide +kernel
theorem dX10_days_1 : decode cX10_days 1 = .ok (.iconst 1, 1) := by decide +kernel
theorem dX10_days_2 : decode cX10_days 2 = .ok (.if_icmp .lt 9, 3) := by decide +kernel
theorem dX10_days_5 : decode cX10_days 5 = .ok (.iload_n 1, 1) := by decide +kernel
theorem dX10_days_6 : decode cX10_days 6 = .ok (.bipush 12, 2) := by decide +kernel
theorem dX10_days_8 : decode cX10_days 8 = .ok (.if_icmp .le 6, 3) := by decide +kernel
theorem dX10_days_11 : decode cX10_days 11 = .ok (.ldc 62, 2) := by decide +kernel
theorem dX10_days_13 : decode cX10_days 13 = .ok (.ireturn, 1) := by decide +kernel
theorem dX10_days_14 : decode cX10_days 14 = .ok (.aload_n 0, 1) := by decide +kernel
theorem dX10_days_15 : decode cX10_days 15 = .ok (.getfield 10, 3) := by decide +kernel
theorem dX10_days_18 : decode cX10_days 18 = .ok (.iload_n 1, 1) := by decide +kernel
theorem dX10_days_19 : decode cX10_days 19 = .ok (.invokevirtual 231, 3) := by decide +kernel
theorem dX10_days_22 : decode cX10_days 22 = .ok (.ifCond .eq 6, 3) := by decide +kernel
theorem dX10_days_25 : decode cX10_days 25 = .ok (.ldc 234, 2) := by decide +kernel
theorem dX10_days_27 : decode cX10_days 27 = .ok (.ireturn, 1) := by decide +kernel
theorem dX10_days_28 : decode cX10_days 28 = .ok (.aload_n 0, 1) := by decide +kernel
theorem dX10_days_29 : decode cX10_days 29 = .ok (.getfield 10, 3) := by decide +kernel
theorem dX10_days_32 : decode cX10_days 32 = .ok (.invokevirtual 76, 3) := by decide +kernel
theorem dX10_days_35 : decode cX10_days 35 = .ok (.istore_n 2, 1) := by decide +kernel
theorem dX10_days_36 : decode cX10_days 36 = .ok (.aload_n 0, 1) := by decide +kernel
theorem dX10_days_37 : decode cX10_days 37 = .ok (.invokevirtual 92, 3) := by decide +kernel
theorem dX10_days_40 : decode cX10_days 40 = .ok (.aload_n 0, 1) := by decide +kernel
theorem dX10_days_41 : decode cX10_days 41 = .ok (.getfield 10, 3) := by decide +kernel
theorem dX10_days_44 : decode cX10_days 44 = .ok (.iload_n 1, 1) := by decide +kernel
theorem dX10_days_45 : decode cX10_days 45 = .ok (.invokevirtual 235, 3) := by decide +kernel
theorem dX10_days_48 : decode cX10_days 48 = .ok (.iload_n 2, 1) := by decide +kernel
theorem dX10_days_49 : decode cX10_days 49 = .ok (.ireturn, 1) := by decide +kernel
theorem dX10_term_0 : decode cX10_term 0 = .ok (.iload_n 1, 1) := by decide +kernel
theorem dX10_term_1 : decode cX10_term 1 = .ok (.invokestatic 238, 3) := by decide +kernel
theorem dX10_term_4 : decode cX10_term 4 = .ok (.ifCond .eq 11, 3) := by decide +kernel
theorem dX10_term_7 : decode cX10_term 7 = .ok (.iload_n 1, 1) := by decide +kernel
theorem dX10_term_8 : decode cX10_term 8 = .ok (.iload_n 2, 1) := by decide +kernel
theorem dX10_term_9 : decode cX10_term 9 = .ok (.invokestatic 241, 3) := by decide +kernel
theorem dX10_term_12 : decode cX10_term 12 = .ok (.ifCond .ne 6, 3) := by decide +kernel
theorem dX10_term_15 : decode cX10_term 15 = .ok (.ldc 62, 2) := by decide +kernel
theorem dX10_term_17 : decode cX10_term 17 = .ok (.ireturn, 1) := by decide +kernel
theorem dX10_term_18 : decode cX10_term 18 = .ok (.aload_n 0, 1) := by decide +kernel
theorem dX10_term_19 : decode cX10_term 19 = .ok (.getfield 10, 3) := by decide +kernel
theorem dX10_term_22 : decode cX10_term 22 = .ok (.iload_n 1, 1) := by decide +kernel
theorem dX10_term_23 : decode cX10_term 23 = .ok (.invokevirtual 245, 3) := by decide +kernel
theorem dX10_term_26 : decode cX10_term 26 = .ok (.istore_n 3, 1) := by decide +kernel
theorem dX10_term_27 : decode cX10_term 27 = .ok (.aload_n 0, 1) := by decide +kernel
theorem dX10_term_28 : decode cX10_term 28 = .ok (.invokevirtual 92, 3) := by decide +kernel
theorem dX10_term_31 : decode cX10_term 31 = .ok (.aload_n 0, 1) := by decide +kernel
theorem dX10_term_32 : decode cX10_term 32 = .ok (.getfield 10, 3) := by decide +kernel
theorem dX10_term_35 : decode cX10_term 35 = .ok (.iload_n 1, 1) := by decide +kernel
theorem dX10_term_36 : decode cX10_term 36 = .ok (.iload_n 2, 1) := by decide +kernel
theorem dX10_term_37 : decode cX10_term 37 = .ok (.invokevirtual 248, 3) := by decide +kernel
theorem dX10_term_40 : decode cX10_term 40 = .ok (.iload_n 3, 1) := by decide +kernel
theorem dX10_term_41 : decode cX10_term 41 = .ok (.ireturn, 1) := by decide +kernel
theorem dX10_drift_0 : decode cX10_drift 0 = .ok (.iload_n 1, 1) := by decide +kernel
theorem dX10_drift_1 : decode cX10_drift 1 = .ok (.iconst 1, 1) := by decide +kernel
theorem dX10_drift_2 : decode cX10_drift 2 = .ok (.if_icmp .lt 9, 3) := by decide +kernel
theorem dX10_drift_5 : decode cX10_drift 5 = .ok (.iload_n 1, 1) := by decide +kernel
theorem dX10_drift_6 : decode cX10_drift 6 = .ok (.bipush 12, 2) := by decide +kernel
theorem dX10_drift_8 : decode cX10_drift 8 = .ok (.if_icmp .le 6, 3) := by decide +kernel
theorem dX10_drift_11 : decode cX10_drift 11 = .ok (.ldc 62, 2) := by decide +kernel
theorem dX10_drift_13 : decode cX10_drift 13 = .ok (.ireturn, 1) := by decide +kernel
theorem dX10_drift_14 : decode cX10_drift 14 = .ok (.iconst 0, 1) := by decide +kernel
theorem dX10_drift_15 : decode cX10_drift 15 = .ok (.istore_n 2, 1) := by decide +kernel
theorem dX10_drift_16 : decode cX10_drift 16 = .ok (.iload_n 2, 1) := by decide +kernel
theorem dX10_drift_17 : decode cX10_drift 17 = .ok (.iload_n 1, 1) := by decide +kernel
theorem dX10_drift_18 : decode cX10_drift 18 = .ok (.if_icmp .ge 47, 3) := by decide +kernel
theorem dX10_drift_21 : decode cX10_drift 21 = .ok (.aload_n 0, 1) := by decide +kernel
theorem dX10_drift_22 : decode cX10_drift 22 = .ok (.getfield 10, 3) := by decide +kernel
theorem dX10_drift_25 : decode cX10_drift 25 = .ok (.invokevirtual 221, 3) := by decide +kernel
theorem dX10_drift_28 : decode cX10_drift 28 = .ok (.ifCond .eq 37, 3) := by decide +kernel
theorem dX10_drift_31 : decode cX10_drift 31 = .ok (.aload_n 0, 1) := by decide +kernel
theorem dX10_drift_32 : decode cX10_drift 32 = .ok (.aload_n 0, 1) := by decide +kernel
theorem dX10_drift_33 : decode cX10_drift 33 = .ok (.getfield 10, 3) := by decide +kernel
theorem dX10_drift_36 : decode cX10_drift 36 = .ok (.invokevirtual 76, 3) := by decide +kernel
theorem dX10_drift_39 : decode cX10_drift 39 = .ok (.invokevirtual 251, 3) := by decide +kernel
theorem dX10_drift_42 : decode cX10_drift 42 = .ok (.istore_n 3, 1) := by decide +kernel
theorem dX10_drift_43 : decode cX10_drift 43 = .ok (.aload_n 0, 1) := by decide +kernel
theorem dX10_drift_44 : decode cX10_drift 44 = .ok (.sipush 256, 3) := by decide +kernel
theorem dX10_drift_47 : decode cX10_drift 47 = .ok (.invokevirtual 251, 3) := by decide +kernel
theorem dX10_drift_50 : decode cX10_drift 50 = .ok (.istore 4, 2) := by decide +kernel
theorem dX10_drift_52 : decode cX10_drift 52 = .ok (.aload_n 0, 1) := by decide +kernel
theorem dX10_drift_53 : decode cX10_drift 53 = .ok (.iload_n 3, 1) := by decide +kernel
theorem dX10_drift_54 : decode cX10_drift 54 = .ok (.iload 4, 2) := by decide +kernel
theorem dX10_drift_56 : decode cX10_drift 56 = .ok (.invokevirtual 222, 3) := by decide +kernel
theorem dX10_drift_59 : decode cX10_drift 59 = .ok (.iinc 2 1, 3) := by decide +kernel
theorem dX10_drift_62 : decode cX10_drift 62 = .ok (.goto (-46), 3) := by decide +kernel
theorem dX10_drift_65 : decode cX10_drift 65 = .ok (.aload_n 0, 1) := by decide +kernel
theorem dX10_drift_66 : decode cX10_drift 66 = .ok (.getfield 10, 3) := by decide +kernel
theorem dX10_drift_69 : decode cX10_drift 69 = .ok (.invokevirtual 79, 3) := by decide +kernel
theorem dX10_drift_72 : decode cX10_drift 72 = .ok (.ireturn, 1) := by decide +kernel
theorem dX10_undo_0 : decode cX10_undo 0 = .ok (.iload_n 1, 1) := by decide +kernel
theorem dX10_undo_1 : decode cX10_undo 1 = .ok (.iconst 1, 1) := by decide +kernel
theorem dX10_undo_2 : decode cX10_undo 2 = .ok (.if_icmp .lt 9, 3) := by decide +kernel
theorem dX10_undo_5 : decode cX10_undo 5 = .ok (.iload_n 1, 1) := by decide +kernel
theorem dX10_undo_6 : decode cX10_undo 6 = .ok (.bipush 16, 2) := by decide +kernel
theorem dX10_undo_8 : decode cX10_undo 8 = .ok (.if_icmp .le 6, 3) := by decide +kernel
theorem dX10_undo_11 : decode cX10_undo 11 = .ok (.ldc 62, 2) := by decide +kernel
theorem dX10_undo_13 : decode cX10_undo 13 = .ok (.ireturn, 1) := by decide +kernel
theorem dX10_undo_14 : decode cX10_undo 14 = .ok (.iload_n 1, 1) := by decide +kernel
theorem dX10_undo_15 : decode cX10_undo 15 = .ok (.aload_n 0, 1) := by decide +kernel
theorem dX10_undo_16 : decode cX10_undo 16 = .ok (.getfield 33, 3) := by decide +kernel
theorem dX10_undo_19 : decode cX10_undo 19 = .ok (.invokevirtual 150, 3) := by decide +kernel
theorem dX10_undo_22 : decode cX10_undo 22 = .ok (.if_icmp .le 6, 3) := by decide +kernel
theorem dX10_undo_25 : decode cX10_undo 25 = .ok (.ldc 234, 2) := by decide +kernel
theorem dX10_undo_27 : decode cX10_undo 27 = .ok (.ireturn, 1) := by decide +kernel
theorem dX10_undo_28 : decode cX10_undo 28 = .ok (.aload_n 0, 1) := by decide +kernel
theorem dX10_undo_29 : decode cX10_undo 29 = .ok (.getfield 33, 3) := by decide +kernel
theorem dX10_undo_32 : decode cX10_undo 32 = .ok (.iload_n 1, 1) := by decide +kernel
theorem dX10_undo_33 : decode cX10_undo 33 = .ok (.aload_n 0, 1) := by decide +kernel
theorem dX10_undo_34 : decode cX10_undo 34 = .ok (.getfield 10, 3) := by decide +kernel
theorem dX10_undo_37 : decode cX10_undo 37 = .ok (.invokevirtual 254, 3) := by decide +kernel
theorem dX10_undo_40 : decode cX10_undo 40 = .ok (.aload_n 0, 1) := by decide +kernel
theorem dX10_undo_41 : decode cX10_undo 41 = .ok (.iconst 1, 1) := by decide +kernel
theorem dX10_undo_42 : decode cX10_undo 42 = .ok (.putfield 57, 3) := by decide +kernel
theorem dX10_undo_45 : decode cX10_undo 45 = .ok (.aload_n 0, 1) := by decide +kernel
theorem dX10_undo_46 : decode cX10_undo 46 = .ok (.getfield 10, 3) := by decide +kernel
theorem dX10_undo_49 : decode cX10_undo 49 = .ok (.invokevirtual 79, 3) := by decide +kernel
theorem dX10_undo_52 : decode cX10_undo 52 = .ok (.ireturn, 1) := by decide +kernel
theorem dX10_write_0 : decode cX10_write 0 = .ok (.iload_n 1, 1) := by decide +kernel
theorem dX10_write_1 : decode cX10_write 1 = .ok (.invokestatic 180, 3) := by decide +kernel
theorem dX10_write_4 : decode cX10_write 4 = .ok (.ifCond .eq 14, 3) := by decide +kernel
theorem dX10_write_7 : decode cX10_write 7 = .ok (.aload_n 0, 1) := by decide +kernel
theorem dX10_write_8 : decode cX10_write 8 = .ok (.getfield 10, 3) := by decide +kernel
theorem dX10_write_11 : decode cX10_write 11 = .ok (.iload_n 2, 1) := by decide +kernel
theorem dX10_write_12 : decode cX10_write 12 = .ok (.invokevirtual 162, 3) := by decide +kernel
theorem dX10_write_15 : decode cX10_write 15 = .ok (.ifCond .ne 6, 3) := by decide +kernel
theorem dX10_write_18 : decode cX10_write 18 = .ok (.ldc 155, 2) := by decide +kernel
theorem dX10_write_20 : decode cX10_write 20 = .ok (.ireturn, 1) := by decide +kernel
theorem dX10_write_21 : decode cX10_write 21 = .ok (.aload_n 0, 1) := by decide +kernel
theorem dX10_write_22 : decode cX10_write 22 = .ok (.getfield 40, 3) := by decide +kernel
theorem dX10_write_25 : decode cX10_write 25 = .ok (.invokevirtual 258, 3) := by decide +kernel
theorem dX10_write_28 : decode cX10_write 28 = .ok (.ifCond .ne 6, 3) := by decide +kernel
theorem dX10_write_31 : decode cX10_write 31 = .ok (.ldc 67, 2) := by decide +kernel
theorem dX10_write_33 : decode cX10_write 33 = .ok (.ireturn, 1) := by decide +kernel
theorem dX10_write_34 : decode cX10_write 34 = .ok (.aload_n 0, 1) := by decide +kernel
theorem dX10_write_35 : decode cX10_write 35 = .ok (.getfield 40, 3) := by decide +kernel
theorem dX10_write_38 : decode cX10_write 38 = .ok (.iload_n 1, 1) := by decide +kernel
theorem dX10_write_39 : decode cX10_write 39 = .ok (.iload_n 2, 1) := by decide +kernel
theorem dX10_write_40 : decode cX10_write 40 = .ok (.iload_n 3, 1) := by decide +kernel
theorem dX10_write_41 : decode cX10_write 41 = .ok (.invokevirtual 259, 3) := by decide +kernel
theorem dX10_write_44 : decode cX10_write 44 = .ok (.aload_n 0, 1) := by decide +kernel
theorem dX10_write_45 : decode cX10_write 45 = .ok (.getfield 40, 3) := by decide +kernel
theorem dX10_write_48 : decode cX10_write 48 = .ok (.invokevirtual 140, 3) := by decide +kernel
theorem dX10_write_51 : decode cX10_write 51 = .ok (.ireturn, 1) := by decide +kernel
theorem dX10_tear_0 : decode cX10_tear 0 = .ok (.aload_n 0, 1) := by decide +kernel
theorem dX10_tear_1 : decode cX10_tear 1 = .ok (.getfield 40, 3) := by decide +kernel
theorem dX10_tear_4 : decode cX10_tear 4 = .ok (.invokevirtual 140, 3) := by decide +kernel
theorem dX10_tear_7 : decode cX10_tear 7 = .ok (.istore_n 1, 1) := by decide +kernel
theorem dX10_tear_8 : decode cX10_tear 8 = .ok (.aload_n 0, 1) := by decide +kernel
theorem dX10_tear_9 : decode cX10_tear 9 = .ok (.getfield 40, 3) := by decide +kernel
theorem dX10_tear_12 : decode cX10_tear 12 = .ok (.invokevirtual 262, 3) := by decide +kernel
theorem dX10_tear_15 : decode cX10_tear 15 = .ok (.iload_n 1, 1) := by decide +kernel
theorem dX10_tear_16 : decode cX10_tear 16 = .ok (.ireturn, 1) := by decide +kernel
theorem dX10_seed_0 : decode cX10_seed 0 = .ok (.iload_n 1, 1) := by decide +kernel
theorem dX10_seed_1 : decode cX10_seed 1 = .ok (.ifCond .ge 6, 3) := by decide +kernel
theorem dX10_seed_4 : decode cX10_seed 4 = .ok (.ldc 62, 2) := by decide +kernel
theorem dX10_seed_6 : decode cX10_seed 6 = .ok (.ireturn, 1) := by decide +kernel
theorem dX10_seed_7 : decode cX10_seed 7 = .ok (.aload_n 0, 1) := by decide +kernel
theorem dX10_seed_8 : decode cX10_seed 8 = .ok (.getfield 50, 3) := by decide +kernel
theorem dX10_seed_11 : decode cX10_seed 11 = .ok (.istore_n 2, 1) := by decide +kernel
theorem dX10_seed_12 : decode cX10_seed 12 = .ok (.aload_n 0, 1) := by decide +kernel
theorem dX10_seed_13 : decode cX10_seed 13 = .ok (.iload_n 1, 1) := by decide +kernel
theorem dX10_seed_14 : decode cX10_seed 14 = .ok (.putfield 50, 3) := by decide +kernel
theorem dX10_seed_17 : decode cX10_seed 17 = .ok (.iload_n 2, 1) := by decide +kernel
theorem dX10_seed_18 : decode cX10_seed 18 = .ok (.ireturn, 1) := by decide +kernel
theorem dX10_keep_0 : decode cX10_keep 0 = .ok (.aload_n 0, 1) := by decide +kernel
theorem dX10_keep_1 : decode cX10_keep 1 = .ok (.iload_n 1, 1) := by decide +kernel
theorem dX10_keep_2 : decode cX10_keep 2 = .ok (.invokevirtual 263, 3) := by decide +kernel
theorem dX10_keep_5 : decode cX10_keep 5 = .ok (.astore_n 2, 1) := by decide +kernel
theorem dX10_keep_6 : decode cX10_keep 6 = .ok (.aload_n 2, 1) := by decide +kernel
theorem dX10_keep_7 : decode cX10_keep 7 = .ok (.ifnonnull 6, 3) := by decide +kernel
theorem dX10_keep_10 : decode cX10_keep 10 = .ok (.ldc 155, 2) := by decide +kernel
theorem dX10_keep_12 : decode cX10_keep 12 = .ok (.ireturn, 1) := by decide +kernel
theorem dX10_keep_13 : decode cX10_keep 13 = .ok (.aload_n 2, 1) := by decide +kernel
theorem dX10_keep_14 : decode cX10_keep 14 = .ok (.aload_n 0, 1) := by decide +kernel
theorem dX10_keep_15 : decode cX10_keep 15 = .ok (.getfield 10, 3) := by decide +kernel
theorem dX10_keep_18 : decode cX10_keep 18 = .ok (.aload_n 0, 1) := by decide +kernel
theorem dX10_keep_19 : decode cX10_keep 19 = .ok (.getfield 50, 3) := by decide +kernel
theorem dX10_keep_22 : decode cX10_keep 22 = .ok (.invokevirtual 267, 3) := by decide +kernel
theorem dX10_keep_25 : decode cX10_keep 25 = .ok (.aload_n 0, 1) := by decide +kernel
theorem dX10_keep_26 : decode cX10_keep 26 = .ok (.getfield 33, 3) := by decide +kernel
theorem dX10_keep_29 : decode cX10_keep 29 = .ok (.invokevirtual 271, 3) := by decide +kernel
theorem dX10_keep_32 : decode cX10_keep 32 = .ok (.iconst 1, 1) := by decide +kernel
theorem dX10_keep_33 : decode cX10_keep 33 = .ok (.ireturn, 1) := by decide +kernel
theorem dX10_goBack_0 : decode cX10_goBack 0 = .ok (.aload_n 0, 1) := by decide +kernel
theorem dX10_goBack_1 : decode cX10_goBack 1 = .ok (.iload_n 1, 1) := by decide +kernel
theorem dX10_goBack_2 : decode cX10_goBack 2 = .ok (.invokevirtual 263, 3) := by decide +kernel
theorem dX10_goBack_5 : decode cX10_goBack 5 = .ok (.astore_n 2, 1) := by decide +kernel
theorem dX10_goBack_6 : decode cX10_goBack 6 = .ok (.aload_n 2, 1) := by decide +kernel
theorem dX10_goBack_7 : decode cX10_goBack 7 = .ok (.ifnonnull 6, 3) := by decide +kernel
theorem dX10_goBack_10 : decode cX10_goBack 10 = .ok (.ldc 155, 2) := by decide +kernel
theorem dX10_goBack_12 : decode cX10_goBack 12 = .ok (.ireturn, 1) := by decide +kernel
theorem dX10_goBack_13 : decode cX10_goBack 13 = .ok (.aload_n 2, 1) := by decide +kernel
theorem dX10_goBack_14 : decode cX10_goBack 14 = .ok (.invokevirtual 274, 3) := by decide +kernel
theorem dX10_goBack_17 : decode cX10_goBack 17 = .ok (.ifCond .ne 6, 3) := by decide +kernel
theorem dX10_goBack_20 : decode cX10_goBack 20 = .ok (.ldc 234, 2) := by decide +kernel
theorem dX10_goBack_22 : decode cX10_goBack 22 = .ok (.ireturn, 1) := by decide +kernel
theorem dX10_goBack_23 : decode cX10_goBack 23 = .ok (.aload_n 0, 1) := by decide +kernel
theorem dX10_goBack_24 : decode cX10_goBack 24 = .ok (.getfield 10, 3) := by decide +kernel
theorem dX10_goBack_27 : decode cX10_goBack 27 = .ok (.aload_n 2, 1) := by decide +kernel
theorem dX10_goBack_28 : decode cX10_goBack 28 = .ok (.invokevirtual 277, 3) := by decide +kernel
theorem dX10_goBack_31 : decode cX10_goBack 31 = .ok (.invokevirtual 281, 3) := by decide +kernel
theorem dX10_goBack_34 : decode cX10_goBack 34 = .ok (.aload_n 0, 1) := by decide +kernel
theorem dX10_goBack_35 : decode cX10_goBack 35 = .ok (.aload_n 2, 1) := by decide +kernel
theorem dX10_goBack_36 : decode cX10_goBack 36 = .ok (.invokevirtual 285, 3) := by decide +kernel
theorem dX10_goBack_39 : decode cX10_goBack 39 = .ok (.putfield 50, 3) := by decide +kernel
theorem dX10_goBack_42 : decode cX10_goBack 42 = .ok (.aload_n 0, 1) := by decide +kernel
theorem dX10_goBack_43 : decode cX10_goBack 43 = .ok (.iconst 1, 1) := by decide +kernel
theorem dX10_goBack_44 : decode cX10_goBack 44 = .ok (.putfield 57, 3) := by decide +kernel
theorem dX10_goBack_47 : decode cX10_goBack 47 = .ok (.aload_n 0, 1) := by decide +kernel
theorem dX10_goBack_48 : decode cX10_goBack 48 = .ok (.getfield 33, 3) := by decide +kernel
theorem dX10_goBack_51 : decode cX10_goBack 51 = .ok (.invokevirtual 271, 3) := by decide +kernel
theorem dX10_goBack_54 : decode cX10_goBack 54 = .ok (.iconst 1, 1) := by decide +kernel
theorem dX10_goBack_55 : decode cX10_goBack 55 = .ok (.ireturn, 1) := by decide +kernel
theorem dX10_isWord_0 : decode cX10_isWord 0 = .ok (.iload_n 0, 1) := by decide +kernel
theorem dX10_isWord_1 : decode cX10_isWord 1 = .ok (.ifCond .lt 13, 3) := by decide +kernel
theorem dX10_isWord_4 : decode cX10_isWord 4 = .ok (.iload_n 0, 1) := by decide +kernel
theorem dX10_isWord_5 : decode cX10_isWord 5 = .ok (.bipush 8, 2) := by decide +kernel
theorem dX10_isWord_7 : decode cX10_isWord 7 = .ok (.if_icmp .ge 7, 3) := by decide +kernel
theorem dX10_isWord_10 : decode cX10_isWord 10 = .ok (.iconst 1, 1) := by decide +kernel
theorem dX10_isWord_11 : decode cX10_isWord 11 = .ok (.goto 4, 3) := by decide +kernel
theorem dX10_isWord_14 : decode cX10_isWord 14 = .ok (.iconst 0, 1) := by decide +kernel
theorem dX10_isWord_15 : decode cX10_isWord 15 = .ok (.ireturn, 1) := by decide +kernel
theorem dX10_setOfWord_0 : decode cX10_setOfWord 0 = .ok (.iconst 1, 1) := by decide +kernel
theorem dX10_setOfWord_1 : decode cX10_setOfWord 1 = .ok (.iload_n 0, 1) := by decide +kernel
theorem dX10_setOfWord_2 : decode cX10_setOfWord 2 = .ok (.ishl, 1) := by decide +kernel
theorem dX10_setOfWord_3 : decode cX10_setOfWord 3 = .ok (.ireturn, 1) := by decide +kernel
theorem dX10_aheadOfDeed_0 : decode cX10_aheadOfDeed 0 = .ok (.aload_n 0, 1) := by decide +kernel
theorem dX10_aheadOfDeed_1 : decode cX10_aheadOfDeed 1 = .ok (.getfield 33, 3) := by decide +kernel
theorem dX10_aheadOfDeed_4 : decode cX10_aheadOfDeed 4 = .ok (.aload_n 0, 1) := by decide +kernel
theorem dX10_aheadOfDeed_5 : decode cX10_aheadOfDeed 5 = .ok (.getfield 10, 3) := by decide +kernel
theorem dX10_aheadOfDeed_8 : decode cX10_aheadOfDeed 8 = .ok (.invokevirtual 288, 3) := by decide +kernel
theorem dX10_aheadOfDeed_11 : decode cX10_aheadOfDeed 11 = .ok (.aload_n 0, 1) := by decide +kernel
theorem dX10_aheadOfDeed_12 : decode cX10_aheadOfDeed 12 = .ok (.iconst 1, 1) := by decide +kernel
theorem dX10_aheadOfDeed_13 : decode cX10_aheadOfDeed 13 = .ok (.putfield 57, 3) := by decide +kernel
theorem dX10_aheadOfDeed_16 : decode cX10_aheadOfDeed 16 = .ok (.return_, 1) := by decide +kernel
theorem dX10_comes_0 : decode cX10_comes 0 = .ok (.aload_n 0, 1) := by decide +kernel
theorem dX10_comes_1 : decode cX10_comes 1 = .ok (.invokevirtual 92, 3) := by decide +kernel
theorem dX10_comes_4 : decode cX10_comes 4 = .ok (.aload_n 0, 1) := by decide +kernel
theorem dX10_comes_5 : decode cX10_comes 5 = .ok (.getfield 10, 3) := by decide +kernel
theorem dX10_comes_8 : decode cX10_comes 8 = .ok (.iload_n 1, 1) := by decide +kernel
theorem dX10_comes_9 : decode cX10_comes 9 = .ok (.iload_n 2, 1) := by decide +kernel
theorem dX10_comes_10 : decode cX10_comes 10 = .ok (.invokevirtual 105, 3) := by decide +kernel
theorem dX10_comes_13 : decode cX10_comes 13 = .ok (.return_, 1) := by decide +kernel
theorem dX10_draw_0 : decode cX10_draw 0 = .ok (.aload_n 0, 1) := by decide +kernel
theorem dX10_draw_1 : decode cX10_draw 1 = .ok (.aload_n 0, 1) := by decide +kernel
theorem dX10_draw_2 : decode cX10_draw 2 = .ok (.getfield 50, 3) := by decide +kernel
theorem dX10_draw_5 : decode cX10_draw 5 = .ok (.i2l, 1) := by decide +kernel
theorem dX10_draw_6 : decode cX10_draw 6 = .ok (.ldc2_w 291, 3) := by decide +kernel
theorem dX10_draw_9 : decode cX10_draw 9 = .ok (.lmul, 1) := by decide +kernel
theorem dX10_draw_10 : decode cX10_draw 10 = .ok (.ldc2_w 293, 3) := by decide +kernel
theorem dX10_draw_13 : decode cX10_draw 13 = .ok (.ladd, 1) := by decide +kernel
theorem dX10_draw_14 : decode cX10_draw 14 = .ok (.ldc2_w 295, 3) := by decide +kernel
theorem dX10_draw_17 : decode cX10_draw 17 = .ok (.lrem, 1) := by decide +kernel
theorem dX10_draw_18 : decode cX10_draw 18 = .ok (.l2i, 1) := by decide +kernel
theorem dX10_draw_19 : decode cX10_draw 19 = .ok (.putfield 50, 3) := by decide +kernel
theorem dX10_draw_22 : decode cX10_draw 22 = .ok (.iload_n 1, 1) := by decide +kernel
theorem dX10_draw_23 : decode cX10_draw 23 = .ok (.iconst 1, 1) := by decide +kernel
theorem dX10_draw_24 : decode cX10_draw 24 = .ok (.if_icmp .ge 7, 3) := by decide +kernel
theorem dX10_draw_27 : decode cX10_draw 27 = .ok (.iconst 0, 1) := by decide +kernel
theorem dX10_draw_28 : decode cX10_draw 28 = .ok (.goto 13, 3) := by decide +kernel
theorem dX10_draw_31 : decode cX10_draw 31 = .ok (.aload_n 0, 1) := by decide +kernel
theorem dX10_draw_32 : decode cX10_draw 32 = .ok (.getfield 50, 3) := by decide +kernel
theorem dX10_draw_35 : decode cX10_draw 35 = .ok (.ldc_w 297, 3) := by decide +kernel
theorem dX10_draw_38 : decode cX10_draw 38 = .ok (.idiv, 1) := by decide +kernel
theorem dX10_draw_39 : decode cX10_draw 39 = .ok (.iload_n 1, 1) := by decide +kernel
theorem dX10_draw_40 : decode cX10_draw 40 = .ok (.irem, 1) := by decide +kernel
theorem dX10_draw_41 : decode cX10_draw 41 = .ok (.ireturn, 1) := by decide +kernel
theorem dX10_imageOf_0 : decode cX10_imageOf 0 = .ok (.iload_n 1, 1) := by decide +kernel
theorem dX10_imageOf_1 : decode cX10_imageOf 1 = .ok (.ifCond .lt 17, 3) := by decide +kernel
theorem dX10_imageOf_4 : decode cX10_imageOf 4 = .ok (.iload_n 1, 1) := by decide +kernel
theorem dX10_imageOf_5 : decode cX10_imageOf 5 = .ok (.iconst 2, 1) := by decide +kernel
theorem dX10_imageOf_6 : decode cX10_imageOf 6 = .ok (.if_icmp .ge 12, 3) := by decide +kernel
theorem dX10_imageOf_9 : decode cX10_imageOf 9 = .ok (.aload_n 0, 1) := by decide +kernel
theorem dX10_imageOf_10 : decode cX10_imageOf 10 = .ok (.getfield 46, 3) := by decide +kernel
theorem dX10_imageOf_13 : decode cX10_imageOf 13 = .ok (.iload_n 1, 1) := by decide +kernel
theorem dX10_imageOf_14 : decode cX10_imageOf 14 = .ok (.aaload, 1) := by decide +kernel
theorem dX10_imageOf_15 : decode cX10_imageOf 15 = .ok (.goto 4, 3) := by decide +kernel
theorem dX10_imageOf_18 : decode cX10_imageOf 18 = .ok (.aconst_null, 1) := by decide +kernel
theorem dX10_imageOf_19 : decode cX10_imageOf 19 = .ok (.areturn, 1) := by decide +kernel
theorem dX10_found_0 : decode cX10_found 0 = .ok (.aload_n 0, 1) := by decide +kernel
theorem dX10_found_1 : decode cX10_found 1 = .ok (.getfield 57, 3) := by decide +kernel
theorem dX10_found_4 : decode cX10_found 4 = .ok (.ifCond .eq 84, 3) := by decide +kernel
theorem dX10_found_7 : decode cX10_found 7 = .ok (.aload_n 0, 1) := by decide +kernel
theorem dX10_found_8 : decode cX10_found 8 = .ok (.getfield 19, 3) := by decide +kernel
theorem dX10_found_11 : decode cX10_found 11 = .ok (.getfield 165, 3) := by decide +kernel
theorem dX10_found_14 : decode cX10_found 14 = .ok (.aload_n 0, 1) := by decide +kernel
theorem dX10_found_15 : decode cX10_found 15 = .ok (.getfield 10, 3) := by decide +kernel
theorem dX10_found_18 : decode cX10_found 18 = .ok (.invokevirtual 298, 3) := by decide +kernel
theorem dX10_found_21 : decode cX10_found 21 = .ok (.aload_n 0, 1) := by decide +kernel
theorem dX10_found_22 : decode cX10_found 22 = .ok (.getfield 19, 3) := by decide +kernel
theorem dX10_found_25 : decode cX10_found 25 = .ok (.getfield 143, 3) := by decide +kernel
theorem dX10_found_28 : decode cX10_found 28 = .ok (.aload_n 0, 1) := by decide +kernel
theorem dX10_found_29 : decode cX10_found 29 = .ok (.getfield 19, 3) := by decide +kernel
theorem dX10_found_32 : decode cX10_found 32 = .ok (.getfield 165, 3) := by decide +kernel
theorem dX10_found_35 : decode cX10_found 35 = .ok (.invokevirtual 301, 3) := by decide +kernel
theorem dX10_found_38 : decode cX10_found 38 = .ok (.aload_n 0, 1) := by decide +kernel
theorem dX10_found_39 : decode cX10_found 39 = .ok (.getfield 19, 3) := by decide +kernel
theorem dX10_found_42 : decode cX10_found 42 = .ok (.getfield 112, 3) := by decide +kernel
theorem dX10_found_45 : decode cX10_found 45 = .ok (.aload_n 0, 1) := by decide +kernel
theorem dX10_found_46 : decode cX10_found 46 = .ok (.getfield 19, 3) := by decide +kernel
theorem dX10_found_49 : decode cX10_found 49 = .ok (.getfield 165, 3) := by decide +kernel
theorem dX10_found_52 : decode cX10_found 52 = .ok (.aload_n 0, 1) := by decide +kernel
theorem dX10_found_53 : decode cX10_found 53 = .ok (.getfield 19, 3) := by decide +kernel
theorem dX10_found_56 : decode cX10_found 56 = .ok (.getfield 143, 3) := by decide +kernel
theorem dX10_found_59 : decode cX10_found 59 = .ok (.invokevirtual 305, 3) := by decide +kernel
theorem dX10_found_62 : decode cX10_found 62 = .ok (.aload_n 0, 1) := by decide +kernel
theorem dX10_found_63 : decode cX10_found 63 = .ok (.getfield 19, 3) := by decide +kernel
theorem dX10_found_66 : decode cX10_found 66 = .ok (.getfield 121, 3) := by decide +kernel
theorem dX10_found_69 : decode cX10_found 69 = .ok (.aload_n 0, 1) := by decide +kernel
theorem dX10_found_70 : decode cX10_found 70 = .ok (.getfield 10, 3) := by decide +kernel
theorem dX10_found_73 : decode cX10_found 73 = .ok (.aload_n 0, 1) := by decide +kernel
theorem dX10_found_74 : decode cX10_found 74 = .ok (.getfield 19, 3) := by decide +kernel
theorem dX10_found_77 : decode cX10_found 77 = .ok (.getfield 112, 3) := by decide +kernel
theorem dX10_found_80 : decode cX10_found 80 = .ok (.invokevirtual 308, 3) := by decide +kernel
theorem dX10_found_83 : decode cX10_found 83 = .ok (.aload_n 0, 1) := by decide +kernel
theorem dX10_found_84 : decode cX10_found 84 = .ok (.iconst 0, 1) := by decide +kernel
theorem dX10_found_85 : decode cX10_found 85 = .ok (.putfield 57, 3) := by decide +kernel
theorem dX10_found_88 : decode cX10_found 88 = .ok (.aload_n 0, 1) := by decide +kernel
theorem dX10_found_89 : decode cX10_found 89 = .ok (.getfield 19, 3) := by decide +kernel
theorem dX10_found_92 : decode cX10_found 92 = .ok (.areturn, 1) := by decide +kernel
end
section
theorem dX11_init_0 : decode cX11_init 0 = .ok (.aload_n 0, 1) := by decide +kernel
theorem dX11_init_1 : decode cX11_init 1 = .ok (.invokespecial 1, 3) := by decide +kernel
theorem dX11_init_4 : decode cX11_init 4 = .ok (.aload_n 0, 1) := by decide +kernel
theorem dX11_init_5 : decode cX11_init 5 = .ok (.sipush 1634, 3) := by decide +kernel
theorem dX11_init_8 : decode cX11_init 8 = .ok (.newarray .int, 2) := by decide +kernel
theorem dX11_init_10 : decode cX11_init 10 = .ok (.putfield 7, 3) := by decide +kernel
theorem dX11_init_13 : decode cX11_init 13 = .ok (.aload_n 0, 1) := by decide +kernel
theorem dX11_init_14 : decode cX11_init 14 = .ok (.iconst 2, 1) := by decide +kernel
theorem dX11_init_15 : decode cX11_init 15 = .ok (.newarray .int, 2) := by decide +kernel
theorem dX11_init_17 : decode cX11_init 17 = .ok (.putfield 13, 3) := by decide +kernel
theorem dX11_init_20 : decode cX11_init 20 = .ok (.aload_n 0, 1) := by decide +kernel
theorem dX11_init_21 : decode cX11_init 21 = .ok (.bipush 60, 2) := by decide +kernel
theorem dX11_init_23 : decode cX11_init 23 = .ok (.newarray .int, 2) := by decide +kernel
theorem dX11_init_25 : decode cX11_init 25 = .ok (.putfield 16, 3) := by decide +kernel
theorem dX11_init_28 : decode cX11_init 28 = .ok (.aload_n 0, 1) := by decide +kernel
theorem dX11_init_29 : decode cX11_init 29 = .ok (.iconst (-1), 1) := by decide +kernel
theorem dX11_init_30 : decode cX11_init 30 = .ok (.putfield 19, 3) := by decide +kernel
theorem dX11_init_33 : decode cX11_init 33 = .ok (.aload_n 0, 1) := by decide +kernel
theorem dX11_init_34 : decode cX11_init 34 = .ok (.bipush 20, 2) := by decide +kernel
theorem dX11_init_36 : decode cX11_init 36 = .ok (.newarray .int, 2) := by decide +kernel
theorem dX11_init_38 : decode cX11_init 38 = .ok (.putfield 23, 3) := by decide +kernel
theorem dX11_init_41 : decode cX11_init 41 = .ok (.aload_n 0, 1) := by decide +kernel
theorem dX11_init_42 : decode cX11_init 42 = .ok (.bipush 20, 2) := by decide +kernel
theorem dX11_init_44 : decode cX11_init 44 = .ok (.newarray .int, 2) := by decide +kernel
theorem dX11_init_46 : decode cX11_init 46 = .ok (.putfield 26, 3) := by decide +kernel
theorem dX11_init_49 : decode cX11_init 49 = .ok (.aload_n 0, 1) := by decide +kernel
theorem dX11_init_50 : decode cX11_init 50 = .ok (.bipush 20, 2) := by decide +kernel
theorem dX11_init_52 : decode cX11_init 52 = .ok (.newarray .int, 2) := by decide +kernel
theorem dX11_init_54 : decode cX11_init 54 = .ok (.putfield 29, 3) := by decide +kernel
theorem dX11_init_57 : decode cX11_init 57 = .ok (.aload_n 0, 1) := by decide +kernel
theorem dX11_init_58 : decode cX11_init 58 = .ok (.bipush 52, 2) := by decide +kernel
theorem dX11_init_60 : decode cX11_init 60 = .ok (.newarray .int, 2) := by decide +kernel
theorem dX11_init_62 : decode cX11_init 62 = .ok (.putfield 32, 3) := by decide +kernel
theorem dX11_init_65 : decode cX11_init 65 = .ok (.aload_n 0, 1) := by decide +kernel
theorem dX11_init_66 : decode cX11_init 66 = .ok (.bipush 12, 2) := by decide +kernel
theorem dX11_init_68 : decode cX11_init 68 = .ok (.newarray .int, 2) := by decide +kernel
theorem dX11_init_70 : decode cX11_init 70 = .ok (.putfield 35, 3) := by decide +kernel
theorem dX11_init_73 : decode cX11_init 73 = .ok (.aload_n 0, 1) := by decide +kernel
theorem dX11_init_74 : decode cX11_init 74 = .ok (.sipush 160, 3) := by decide +kernel
theorem dX11_init_77 : decode cX11_init 77 = .ok (.newarray .int, 2) := by decide +kernel
theorem dX11_init_79 : decode cX11_init 79 = .ok (.putfield 38, 3) := by decide +kernel
theorem dX11_init_82 : decode cX11_init 82 = .ok (.aload_n 0, 1) := by decide +kernel
theorem dX11_init_83 : decode cX11_init 83 = .ok (.sipush 160, 3) := by decide +kernel
theorem dX11_init_86 : decode cX11_init 86 = .ok (.newarray .int, 2) := by decide +kernel
theorem dX11_init_88 : decode cX11_init 88 = .ok (.putfield 41, 3) := by decide +kernel
theorem dX11_init_91 : decode cX11_init 91 = .ok (.aload_n 0, 1) := by decide +kernel
theorem dX11_init_92 : decode cX11_init 92 = .ok (.sipush 160, 3) := by decide +kernel
theorem dX11_init_95 : decode cX11_init 95 = .ok (.newarray .int, 2) := by decide +kernel
theorem dX11_init_97 : decode cX11_init 97 = .ok (.putfield 44, 3) := by decide +kernel
theorem dX11_init_100 : decode cX11_init 100 = .ok (.aload_n 0, 1) := by decide +kernel
theorem dX11_init_101 : decode cX11_init 101 = .ok (.sipush 160, 3) := by decide +kernel
theorem dX11_init_104 : decode cX11_init 104 = .ok (.newarray .int, 2) := by decide +kernel
theorem dX11_init_106 : decode cX11_init 106 = .ok (.putfield 47, 3) := by decide +kernel
theorem dX11_init_109 : decode cX11_init 109 = .ok (.aload_n 0, 1) := by decide +kernel
theorem dX11_init_110 : decode cX11_init 110 = .ok (.sipush 160, 3) := by decide +kernel
theorem dX11_init_113 : decode cX11_init 113 = .ok (.newarray .int, 2) := by decide +kernel
theorem dX11_init_115 : decode cX11_init 115 = .ok (.putfield 50, 3) := by decide +kernel
theorem dX11_init_118 : decode cX11_init 118 = .ok (.aload_n 0, 1) := by decide +kernel
theorem dX11_init_119 : decode cX11_init 119 = .ok (.bipush 40, 2) := by decide +kernel
theorem dX11_init_121 : decode cX11_init 121 = .ok (.newarray .int, 2) := by decide +kernel
theorem dX11_init_123 : decode cX11_init 123 = .ok (.putfield 53, 3) := by decide +kernel
theorem dX11_init_126 : decode cX11_init 126 = .ok (.aload_n 0, 1) := by decide +kernel
theorem dX11_init_127 : decode cX11_init 127 = .ok (.bipush 40, 2) := by decide +kernel
theorem dX11_init_129 : decode cX11_init 129 = .ok (.newarray .int, 2) := by decide +kernel
theorem dX11_init_131 : decode cX11_init 131 = .ok (.putfield 56, 3) := by decide +kernel
theorem dX11_init_134 : decode cX11_init 134 = .ok (.aload_n 0, 1) := by decide +kernel
theorem dX11_init_135 : decode cX11_init 135 = .ok (.getfield 7, 3) := by decide +kernel
theorem dX11_init_138 : decode cX11_init 138 = .ok (.iconst 0, 1) := by decide +kernel
theorem dX11_init_139 : decode cX11_init 139 = .ok (.bipush 6, 2) := by decide +kernel
theorem dX11_init_141 : decode cX11_init 141 = .ok (.iastore, 1) := by decide +kernel
theorem dX11_init_142 : decode cX11_init 142 = .ok (.aload_n 0, 1) := by decide +kernel
theorem dX11_init_143 : decode cX11_init 143 = .ok (.getfield 7, 3) := by decide +kernel
theorem dX11_init_146 : decode cX11_init 146 = .ok (.iconst 2, 1) := by decide +kernel
theorem dX11_init_147 : decode cX11_init 147 = .ok (.iconst 2, 1) := by decide +kernel
theorem dX11_init_148 : decode cX11_init 148 = .ok (.iastore, 1) := by decide +kernel
theorem dX11_init_149 : decode cX11_init 149 = .ok (.aload_n 0, 1) := by decide +kernel
theorem dX11_init_150 : decode cX11_init 150 = .ok (.getfield 7, 3) := by decide +kernel
theorem dX11_init_153 : decode cX11_init 153 = .ok (.iconst 3, 1) := by decide +kernel
theorem dX11_init_154 : decode cX11_init 154 = .ok (.iconst 2, 1) := by decide +kernel
theorem dX11_init_155 : decode cX11_init 155 = .ok (.iastore, 1) := by decide +kernel
theorem dX11_init_156 : decode cX11_init 156 = .ok (.aload_n 0, 1) := by decide +kernel
theorem dX11_init_157 : decode cX11_init 157 = .ok (.getfield 7, 3) := by decide +kernel
theorem dX11_init_160 : decode cX11_init 160 = .ok (.iconst 4, 1) := by decide +kernel
theorem dX11_init_161 : decode cX11_init 161 = .ok (.iconst 2, 1) := by decide +kernel
theorem dX11_init_162 : decode cX11_init 162 = .ok (.iastore, 1) := by decide +kernel
theorem dX11_init_163 : decode cX11_init 163 = .ok (.aload_n 0, 1) := by decide +kernel
theorem dX11_init_164 : decode cX11_init 164 = .ok (.getfield 7, 3) := by decide +kernel
theorem dX11_init_167 : decode cX11_init 167 = .ok (.iconst 5, 1) := by decide +kernel
theorem dX11_init_168 : decode cX11_init 168 = .ok (.bipush 6, 2) := by decide +kernel
theorem dX11_init_170 : decode cX11_init 170 = .ok (.iastore, 1) := by decide +kernel
theorem dX11_init_171 : decode cX11_init 171 = .ok (.return_, 1) := by decide +kernel
theorem dX11_in_0 : decode cX11_in 0 = .ok (.lload_n 0, 1) := by decide +kernel
theorem dX11_in_1 : decode cX11_in 1 = .ok (.lload_n 2, 1) := by decide +kernel
theorem dX11_in_2 : decode cX11_in 2 = .ok (.lcmp, 1) := by decide +kernel
theorem dX11_in_3 : decode cX11_in 3 = .ok (.ifCond .lt 14, 3) := by decide +kernel
theorem dX11_in_6 : decode cX11_in 6 = .ok (.lload_n 0, 1) := by decide +kernel
theorem dX11_in_7 : decode cX11_in 7 = .ok (.lload 4, 2) := by decide +kernel
theorem dX11_in_9 : decode cX11_in 9 = .ok (.lcmp, 1) := by decide +kernel
theorem dX11_in_10 : decode cX11_in 10 = .ok (.ifCond .gt 7, 3) := by decide +kernel
theorem dX11_in_13 : decode cX11_in 13 = .ok (.iconst 1, 1) := by decide +kernel
theorem dX11_in_14 : decode cX11_in 14 = .ok (.goto 4, 3) := by decide +kernel
theorem dX11_in_17 : decode cX11_in 17 = .ok (.iconst 0, 1) := by decide +kernel
theorem dX11_in_18 : decode cX11_in 18 = .ok (.ireturn, 1) := by decide +kernel
theorem dX11_has_0 : decode cX11_has 0 = .ok (.iload_n 0, 1) := by decide +kernel
theorem dX11_has_1 : decode cX11_has 1 = .ok (.iload_n 1, 1) := by decide +kernel
theorem dX11_has_2 : decode cX11_has 2 = .ok (.ishr, 1) := by decide +kernel
theorem dX11_has_3 : decode cX11_has 3 = .ok (.iconst 1, 1) := by decide +kernel
theorem dX11_has_4 : decode cX11_has 4 = .ok (.iand, 1) := by decide +kernel
theorem dX11_has_5 : decode cX11_has 5 = .ok (.iconst 1, 1) := by decide +kernel
theorem dX11_has_6 : decode cX11_has 6 = .ok (.if_icmp .ne 7, 3) := by decide +kernel
theorem dX11_has_9 : decode cX11_has 9 = .ok (.iconst 1, 1) := by decide +kernel
theorem dX11_has_10 : decode cX11_has 10 = .ok (.goto 4, 3) := by decide +kernel
theorem dX11_has_13 : decode cX11_has 13 = .ok (.iconst 0, 1) := by decide +kernel
theorem dX11_has_14 : decode cX11_has 14 = .ok (.ireturn, 1) := by decide +kernel
theorem dX11_copyRow_0 : decode cX11_copyRow 0 = .ok (.iconst 0, 1) := by decide +kernel
theorem dX11_copyRow_1 : decode cX11_copyRow 1 = .ok (.istore_n 3, 1) := by decide +kernel
theorem dX11_copyRow_2 : decode cX11_copyRow 2 = .ok (.iload_n 3, 1) := by decide +kernel
theorem dX11_copyRow_3 : decode cX11_copyRow 3 = .ok (.bipush 86, 2) := by decide +kernel
theorem dX11_copyRow_5 : decode cX11_copyRow 5 = .ok (.if_icmp .ge 25, 3) := by decide +kernel
theorem dX11_copyRow_8 : decode cX11_copyRow 8 = .ok (.aload_n 0, 1) := by decide +kernel
theorem dX11_copyRow_9 : decode cX11_copyRow 9 = .ok (.getfield 7, 3) := by decide +kernel
theorem dX11_copyRow_12 : decode cX11_copyRow 12 = .ok (.iload_n 2, 1) := by decide +kernel
theorem dX11_copyRow_13 : decode cX11_copyRow 13 = .ok (.iload_n 3, 1) := by decide +kernel
theorem dX11_copyRow_14 : decode cX11_copyRow 14 = .ok (.iadd, 1) := by decide +kernel
theorem dX11_copyRow_15 : decode cX11_copyRow 15 = .ok (.aload_n 0, 1) := by decide +kernel
theorem dX11_copyRow_16 : decode cX11_copyRow 16 = .ok (.getfield 7, 3) := by decide +kernel
theorem dX11_copyRow_19 : decode cX11_copyRow 19 = .ok (.iload_n 1, 1) := by decide +kernel
theorem dX11_copyRow_20 : decode cX11_copyRow 20 = .ok (.iload_n 3, 1) := by decide +kernel
theorem dX11_copyRow_21 : decode cX11_copyRow 21 = .ok (.iadd, 1) := by decide +kernel
theorem dX11_copyRow_22 : decode cX11_copyRow 22 = .ok (.iaload, 1) := by decide +kernel
theorem dX11_copyRow_23 : decode cX11_copyRow 23 = .ok (.iastore, 1) := by decide +kernel
theorem dX11_copyRow_24 : decode cX11_copyRow 24 = .ok (.iinc 3 1, 3) := by decide +kernel
theorem dX11_copyRow_27 : decode cX11_copyRow 27 = .ok (.goto (-25), 3) := by decide +kernel
theorem dX11_copyRow_30 : decode cX11_copyRow 30 = .ok (.return_, 1) := by decide +kernel
theorem dX11_remember_0 : decode cX11_remember 0 = .ok (.bipush 16, 2) := by decide +kernel
theorem dX11_remember_2 : decode cX11_remember 2 = .ok (.istore_n 1, 1) := by decide +kernel
theorem dX11_remember_3 : decode cX11_remember 3 = .ok (.iload_n 1, 1) := by decide +kernel
theorem dX11_remember_4 : decode cX11_remember 4 = .ok (.ifCond .le 23, 3) := by decide +kernel
theorem dX11_remember_7 : decode cX11_remember 7 = .ok (.aload_n 0, 1) := by decide +kernel
theorem dX11_remember_8 : decode cX11_remember 8 = .ok (.bipush 86, 2) := by decide +kernel
theorem dX11_remember_10 : decode cX11_remember 10 = .ok (.iload_n 1, 1) := by decide +kernel
theorem dX11_remember_11 : decode cX11_remember 11 = .ok (.iconst 1, 1) := by decide +kernel
theorem dX11_remember_12 : decode cX11_remember 12 = .ok (.isub, 1) := by decide +kernel
theorem dX11_remember_13 : decode cX11_remember 13 = .ok (.imul, 1) := by decide +kernel
theorem dX11_remember_14 : decode cX11_remember 14 = .ok (.bipush 86, 2) := by decide +kernel
theorem dX11_remember_16 : decode cX11_remember 16 = .ok (.iload_n 1, 1) := by decide +kernel
theorem dX11_remember_17 : decode cX11_remember 17 = .ok (.imul, 1) := by decide +kernel
theorem dX11_remember_18 : decode cX11_remember 18 = .ok (.invokevirtual 59, 3) := by decide +kernel
theorem dX11_remember_21 : decode cX11_remember 21 = .ok (.iinc 1 (-1), 3) := by decide +kernel
theorem dX11_remember_24 : decode cX11_remember 24 = .ok (.goto (-21), 3) := by decide +kernel
theorem dX11_remember_27 : decode cX11_remember 27 = .ok (.aload_n 0, 1) := by decide +kernel
theorem dX11_remember_28 : decode cX11_remember 28 = .ok (.aload_n 0, 1) := by decide +kernel
theorem dX11_remember_29 : decode cX11_remember 29 = .ok (.getfield 63, 3) := by decide +kernel
theorem dX11_remember_32 : decode cX11_remember 32 = .ok (.bipush 16, 2) := by decide +kernel
theorem dX11_remember_34 : decode cX11_remember 34 = .ok (.if_icmp .ge 12, 3) := by decide +kernel
theorem dX11_remember_37 : decode cX11_remember 37 = .ok (.aload_n 0, 1) := by decide +kernel
theorem dX11_remember_38 : decode cX11_remember 38 = .ok (.getfield 63, 3) := by decide +kernel
theorem dX11_remember_41 : decode cX11_remember 41 = .ok (.iconst 1, 1) := by decide +kernel
theorem dX11_remember_42 : decode cX11_remember 42 = .ok (.iadd, 1) := by decide +kernel
theorem dX11_remember_43 : decode cX11_remember 43 = .ok (.goto 5, 3) := by decide +kernel
theorem dX11_remember_46 : decode cX11_remember 46 = .ok (.bipush 16, 2) := by decide +kernel
theorem dX11_remember_48 : decode cX11_remember 48 = .ok (.putfield 63, 3) := by decide +kernel
theorem dX11_remember_51 : decode cX11_remember 51 = .ok (.return_, 1) := by decide +kernel
theorem dX11_count_0 : decode cX11_count 0 = .ok (.iconst 0, 1) := by decide +kernel
theorem dX11_count_1 : decode cX11_count 1 = .ok (.istore_n 3, 1) := by decide +kernel
theorem dX11_count_2 : decode cX11_count 2 = .ok (.iconst 0, 1) := by decide +kernel
theorem dX11_count_3 : decode cX11_count 3 = .ok (.istore 4, 2) := by decide +kernel
theorem dX11_count_5 : decode cX11_count 5 = .ok (.iload 4, 2) := by decide +kernel
theorem dX11_count_7 : decode cX11_count 7 = .ok (.aload_n 0, 1) := by decide +kernel
theorem dX11_count_8 : decode cX11_count 8 = .ok (.getfield 7, 3) := by decide +kernel
theorem dX11_count_11 : decode cX11_count 11 = .ok (.iconst 1, 1) := by decide +kernel
theorem dX11_count_12 : decode cX11_count 12 = .ok (.iaload, 1) := by decide +kernel
theorem dX11_count_13 : decode cX11_count 13 = .ok (.if_icmp .ge 51, 3) := by decide +kernel
theorem dX11_count_16 : decode cX11_count 16 = .ok (.iload_n 3, 1) := by decide +kernel
theorem dX11_count_17 : decode cX11_count 17 = .ok (.iload_n 1, 1) := by decide +kernel
theorem dX11_count_18 : decode cX11_count 18 = .ok (.ifCond .lt 17, 3) := by decide +kernel
theorem dX11_count_21 : decode cX11_count 21 = .ok (.aload_n 0, 1) := by decide +kernel
theorem dX11_count_22 : decode cX11_count 22 = .ok (.getfield 7, 3) := by decide +kernel
theorem dX11_count_25 : decode cX11_count 25 = .ok (.bipush 6, 2) := by decide +kernel
theorem dX11_count_27 : decode cX11_count 27 = .ok (.iload 4, 2) := by decide +kernel
theorem dX11_count_29 : decode cX11_count 29 = .ok (.iadd, 1) := by decide +kernel
theorem dX11_count_30 : decode cX11_count 30 = .ok (.iaload, 1) := by decide +kernel
theorem dX11_count_31 : decode cX11_count 31 = .ok (.iload_n 1, 1) := by decide +kernel
theorem dX11_count_32 : decode cX11_count 32 = .ok (.if_icmp .ne 23, 3) := by decide +kernel
theorem dX11_count_35 : decode cX11_count 35 = .ok (.aload_n 0, 1) := by decide +kernel
theorem dX11_count_36 : decode cX11_count 36 = .ok (.getfield 7, 3) := by decide +kernel
theorem dX11_count_39 : decode cX11_count 39 = .ok (.bipush 46, 2) := by decide +kernel
theorem dX11_count_41 : decode cX11_count 41 = .ok (.iload 4, 2) := by decide +kernel
theorem dX11_count_43 : decode cX11_count 43 = .ok (.iadd, 1) := by decide +kernel
theorem dX11_count_44 : decode cX11_count 44 = .ok (.iaload, 1) := by decide +kernel
theorem dX11_count_45 : decode cX11_count 45 = .ok (.iload_n 2, 1) := by decide +kernel
theorem dX11_count_46 : decode cX11_count 46 = .ok (.iand, 1) := by decide +kernel
theorem dX11_count_47 : decode cX11_count 47 = .ok (.iload_n 2, 1) := by decide +kernel
theorem dX11_count_48 : decode cX11_count 48 = .ok (.if_icmp .ne 7, 3) := by decide +kernel
theorem dX11_count_51 : decode cX11_count 51 = .ok (.iconst 1, 1) := by decide +kernel
theorem dX11_count_52 : decode cX11_count 52 = .ok (.goto 4, 3) := by decide +kernel
theorem dX11_count_55 : decode cX11_count 55 = .ok (.iconst 0, 1) := by decide +kernel
theorem dX11_count_56 : decode cX11_count 56 = .ok (.iadd, 1) := by decide +kernel
theorem dX11_count_57 : decode cX11_count 57 = .ok (.istore_n 3, 1) := by decide +kernel
theorem dX11_count_58 : decode cX11_count 58 = .ok (.iinc 4 1, 3) := by decide +kernel
theorem dX11_count_61 : decode cX11_count 61 = .ok (.goto (-56), 3) := by decide +kernel
theorem dX11_count_64 : decode cX11_count 64 = .ok (.iload_n 3, 1) := by decide +kernel
theorem dX11_count_65 : decode cX11_count 65 = .ok (.ireturn, 1) := by decide +kernel
theorem dX11_wanted_0 : decode cX11_wanted 0 = .ok (.aload_n 0, 1) := by decide +kernel
theorem dX11_wanted_1 : decode cX11_wanted 1 = .ok (.getfield 7, 3) := by decide +kernel
theorem dX11_wanted_4 : decode cX11_wanted 4 = .ok (.iconst 1, 1) := by decide +kernel
theorem dX11_wanted_5 : decode cX11_wanted 5 = .ok (.iaload, 1) := by decide +kernel
theorem dX11_wanted_6 : decode cX11_wanted 6 = .ok (.ifCond .ne 7, 3) := by decide +kernel
theorem dX11_wanted_9 : decode cX11_wanted 9 = .ok (.iconst 0, 1) := by decide +kernel
theorem dX11_wanted_10 : decode cX11_wanted 10 = .ok (.goto 25, 3) := by decide +kernel
theorem dX11_wanted_13 : decode cX11_wanted 13 = .ok (.aload_n 0, 1) := by decide +kernel
theorem dX11_wanted_14 : decode cX11_wanted 14 = .ok (.iload_n 2, 1) := by decide +kernel
theorem dX11_wanted_15 : decode cX11_wanted 15 = .ok (.iconst 0, 1) := by decide +kernel
theorem dX11_wanted_16 : decode cX11_wanted 16 = .ok (.invokevirtual 66, 3) := by decide +kernel
theorem dX11_wanted_19 : decode cX11_wanted 19 = .ok (.aload_n 0, 1) := by decide +kernel
theorem dX11_wanted_20 : decode cX11_wanted 20 = .ok (.iconst (-1), 1) := by decide +kernel
theorem dX11_wanted_21 : decode cX11_wanted 21 = .ok (.iconst 1, 1) := by decide +kernel
theorem dX11_wanted_22 : decode cX11_wanted 22 = .ok (.iload_n 1, 1) := by decide +kernel
theorem dX11_wanted_23 : decode cX11_wanted 23 = .ok (.ishl, 1) := by decide +kernel
theorem dX11_wanted_24 : decode cX11_wanted 24 = .ok (.invokevirtual 66, 3) := by decide +kernel
theorem dX11_wanted_27 : decode cX11_wanted 27 = .ok (.imul, 1) := by decide +kernel
theorem dX11_wanted_28 : decode cX11_wanted 28 = .ok (.aload_n 0, 1) := by decide +kernel
theorem dX11_wanted_29 : decode cX11_wanted 29 = .ok (.getfield 7, 3) := by decide +kernel
theorem dX11_wanted_32 : decode cX11_wanted 32 = .ok (.iconst 1, 1) := by decide +kernel
theorem dX11_wanted_33 : decode cX11_wanted 33 = .ok (.iaload, 1) := by decide +kernel
theorem dX11_wanted_34 : decode cX11_wanted 34 = .ok (.idiv, 1) := by decide +kernel
theorem dX11_wanted_35 : decode cX11_wanted 35 = .ok (.istore 4, 2) := by decide +kernel
theorem dX11_wanted_37 : decode cX11_wanted 37 = .ok (.iload 4, 2) := by decide +kernel
theorem dX11_wanted_39 : decode cX11_wanted 39 = .ok (.iload_n 3, 1) := by decide +kernel
theorem dX11_wanted_40 : decode cX11_wanted 40 = .ok (.aload_n 0, 1) := by decide +kernel
theorem dX11_wanted_41 : decode cX11_wanted 41 = .ok (.getfield 7, 3) := by decide +kernel
theorem dX11_wanted_44 : decode cX11_wanted 44 = .ok (.iconst 4, 1) := by decide +kernel
theorem dX11_wanted_45 : decode cX11_wanted 45 = .ok (.iaload, 1) := by decide +kernel
theorem dX11_wanted_46 : decode cX11_wanted 46 = .ok (.imul, 1) := by decide +kernel
theorem dX11_wanted_47 : decode cX11_wanted 47 = .ok (.iadd, 1) := by decide +kernel
theorem dX11_wanted_48 : decode cX11_wanted 48 = .ok (.ireturn, 1) := by decide +kernel
theorem dX11_unlikely_0 : decode cX11_unlikely 0 = .ok (.aload_n 0, 1) := by decide +kernel
theorem dX11_unlikely_1 : decode cX11_unlikely 1 = .ok (.iload_n 2, 1) := by decide +kernel
theorem dX11_unlikely_2 : decode cX11_unlikely 2 = .ok (.iconst 1, 1) := by decide +kernel
theorem dX11_unlikely_3 : decode cX11_unlikely 3 = .ok (.iload_n 1, 1) := by decide +kernel
theorem dX11_unlikely_4 : decode cX11_unlikely 4 = .ok (.ishl, 1) := by decide +kernel
theorem dX11_unlikely_5 : decode cX11_unlikely 5 = .ok (.invokevirtual 66, 3) := by decide +kernel
theorem dX11_unlikely_8 : decode cX11_unlikely 8 = .ok (.aload_n 0, 1) := by decide +kernel
theorem dX11_unlikely_9 : decode cX11_unlikely 9 = .ok (.iload_n 1, 1) := by decide +kernel
theorem dX11_unlikely_10 : decode cX11_unlikely 10 = .ok (.iload_n 2, 1) := by decide +kernel
theorem dX11_unlikely_11 : decode cX11_unlikely 11 = .ok (.iload_n 3, 1) := by decide +kernel
theorem dX11_unlikely_12 : decode cX11_unlikely 12 = .ok (.invokevirtual 70, 3) := by decide +kernel
theorem dX11_unlikely_15 : decode cX11_unlikely 15 = .ok (.isub, 1) := by decide +kernel
theorem dX11_unlikely_16 : decode cX11_unlikely 16 = .ok (.istore 4, 2) := by decide +kernel
theorem dX11_unlikely_18 : decode cX11_unlikely 18 = .ok (.aload_n 0, 1) := by decide +kernel
theorem dX11_unlikely_19 : decode cX11_unlikely 19 = .ok (.getfield 7, 3) := by decide +kernel
theorem dX11_unlikely_22 : decode cX11_unlikely 22 = .ok (.iconst 3, 1) := by decide +kernel
theorem dX11_unlikely_23 : decode cX11_unlikely 23 = .ok (.iaload, 1) := by decide +kernel
theorem dX11_unlikely_24 : decode cX11_unlikely 24 = .ok (.iload 4, 2) := by decide +kernel
theorem dX11_unlikely_26 : decode cX11_unlikely 26 = .ok (.ifCond .ge 9, 3) := by decide +kernel
theorem dX11_unlikely_29 : decode cX11_unlikely 29 = .ok (.iload 4, 2) := by decide +kernel
theorem dX11_unlikely_31 : decode cX11_unlikely 31 = .ok (.ineg, 1) := by decide +kernel
theorem dX11_unlikely_32 : decode cX11_unlikely 32 = .ok (.goto 5, 3) := by decide +kernel
theorem dX11_unlikely_35 : decode cX11_unlikely 35 = .ok (.iload 4, 2) := by decide +kernel
theorem dX11_unlikely_37 : decode cX11_unlikely 37 = .ok (.imul, 1) := by decide +kernel
theorem dX11_unlikely_38 : decode cX11_unlikely 38 = .ok (.ireturn, 1) := by decide +kernel
theorem dX11_through_0 : decode cX11_through 0 = .ok (.iload 4, 2) := by decide +kernel
theorem dX11_through_2 : decode cX11_through 2 = .ok (.iload_n 3, 1) := by decide +kernel
theorem dX11_through_3 : decode cX11_through 3 = .ok (.if_icmp .le 10, 3) := by decide +kernel
theorem dX11_through_6 : decode cX11_through 6 = .ok (.iload 4, 2) := by decide +kernel
theorem dX11_through_8 : decode cX11_through 8 = .ok (.iload_n 3, 1) := by decide +kernel
theorem dX11_through_9 : decode cX11_through 9 = .ok (.isub, 1) := by decide +kernel
theorem dX11_through_10 : decode cX11_through 10 = .ok (.goto 4, 3) := by decide +kernel
theorem dX11_through_13 : decode cX11_through 13 = .ok (.iconst 0, 1) := by decide +kernel
theorem dX11_through_14 : decode cX11_through 14 = .ok (.istore 5, 2) := by decide +kernel
theorem dX11_through_16 : decode cX11_through 16 = .ok (.aload_n 0, 1) := by decide +kernel
theorem dX11_through_17 : decode cX11_through 17 = .ok (.iload_n 1, 1) := by decide +kernel
theorem dX11_through_18 : decode cX11_through 18 = .ok (.iload_n 2, 1) := by decide +kernel
theorem dX11_through_19 : decode cX11_through 19 = .ok (.iload 4, 2) := by decide +kernel
theorem dX11_through_21 : decode cX11_through 21 = .ok (.invokevirtual 74, 3) := by decide +kernel
theorem dX11_through_24 : decode cX11_through 24 = .ok (.aload_n 0, 1) := by decide +kernel
theorem dX11_through_25 : decode cX11_through 25 = .ok (.getfield 7, 3) := by decide +kernel
theorem dX11_through_28 : decode cX11_through 28 = .ok (.iconst 5, 1) := by decide +kernel
theorem dX11_through_29 : decode cX11_through 29 = .ok (.iaload, 1) := by decide +kernel
theorem dX11_through_30 : decode cX11_through 30 = .ok (.iload 5, 2) := by decide +kernel
theorem dX11_through_32 : decode cX11_through 32 = .ok (.imul, 1) := by decide +kernel
theorem dX11_through_33 : decode cX11_through 33 = .ok (.iadd, 1) := by decide +kernel
theorem dX11_through_34 : decode cX11_through 34 = .ok (.aload_n 0, 1) := by decide +kernel
theorem dX11_through_35 : decode cX11_through 35 = .ok (.getfield 32, 3) := by decide +kernel
theorem dX11_through_38 : decode cX11_through 38 = .ok (.iconst 4, 1) := by decide +kernel
theorem dX11_through_39 : decode cX11_through 39 = .ok (.iload_n 2, 1) := by decide +kernel
theorem dX11_through_40 : decode cX11_through 40 = .ok (.iconst 1, 1) := by decide +kernel
theorem dX11_through_41 : decode cX11_through 41 = .ok (.iadd, 1) := by decide +kernel
theorem dX11_through_42 : decode cX11_through 42 = .ok (.imul, 1) := by decide +kernel
theorem dX11_through_43 : decode cX11_through 43 = .ok (.iload 4, 2) := by decide +kernel
theorem dX11_through_45 : decode cX11_through 45 = .ok (.iadd, 1) := by decide +kernel
theorem dX11_through_46 : decode cX11_through 46 = .ok (.iaload, 1) := by decide +kernel
theorem dX11_through_47 : decode cX11_through 47 = .ok (.iadd, 1) := by decide +kernel
theorem dX11_through_48 : decode cX11_through 48 = .ok (.ireturn, 1) := by decide +kernel
theorem dX11_bestLevel_0 : decode cX11_bestLevel 0 = .ok (.iconst 0, 1) := by decide +kernel
theorem dX11_bestLevel_1 : decode cX11_bestLevel 1 = .ok (.istore 4, 2) := by decide +kernel
theorem dX11_bestLevel_3 : decode cX11_bestLevel 3 = .ok (.iconst 1, 1) := by decide +kernel
theorem dX11_bestLevel_4 : decode cX11_bestLevel 4 = .ok (.istore 5, 2) := by decide +kernel
theorem dX11_bestLevel_6 : decode cX11_bestLevel 6 = .ok (.iload 5, 2) := by decide +kernel
theorem dX11_bestLevel_8 : decode cX11_bestLevel 8 = .ok (.aload_n 0, 1) := by decide +kernel
theorem dX11_bestLevel_9 : decode cX11_bestLevel 9 = .ok (.getfield 7, 3) := by decide +kernel
theorem dX11_bestLevel_12 : decode cX11_bestLevel 12 = .ok (.iconst 2, 1) := by decide +kernel
theorem dX11_bestLevel_13 : decode cX11_bestLevel 13 = .ok (.iaload, 1) := by decide +kernel
theorem dX11_bestLevel_14 : decode cX11_bestLevel 14 = .ok (.if_icmp .gt 39, 3) := by decide +kernel
theorem dX11_bestLevel_17 : decode cX11_bestLevel 17 = .ok (.aload_n 0, 1) := by decide +kernel
theorem dX11_bestLevel_18 : decode cX11_bestLevel 18 = .ok (.iload_n 1, 1) := by decide +kernel
theorem dX11_bestLevel_19 : decode cX11_bestLevel 19 = .ok (.iload_n 2, 1) := by decide +kernel
theorem dX11_bestLevel_20 : decode cX11_bestLevel 20 = .ok (.iload_n 3, 1) := by decide +kernel
theorem dX11_bestLevel_21 : decode cX11_bestLevel 21 = .ok (.iload 5, 2) := by decide +kernel
theorem dX11_bestLevel_23 : decode cX11_bestLevel 23 = .ok (.invokevirtual 77, 3) := by decide +kernel
theorem dX11_bestLevel_26 : decode cX11_bestLevel 26 = .ok (.aload_n 0, 1) := by decide +kernel
theorem dX11_bestLevel_27 : decode cX11_bestLevel 27 = .ok (.iload_n 1, 1) := by decide +kernel
theorem dX11_bestLevel_28 : decode cX11_bestLevel 28 = .ok (.iload_n 2, 1) := by decide +kernel
theorem dX11_bestLevel_29 : decode cX11_bestLevel 29 = .ok (.iload_n 3, 1) := by decide +kernel
theorem dX11_bestLevel_30 : decode cX11_bestLevel 30 = .ok (.iload 4, 2) := by decide +kernel
theorem dX11_bestLevel_32 : decode cX11_bestLevel 32 = .ok (.invokevirtual 77, 3) := by decide +kernel
theorem dX11_bestLevel_35 : decode cX11_bestLevel 35 = .ok (.if_icmp .ge 8, 3) := by decide +kernel
theorem dX11_bestLevel_38 : decode cX11_bestLevel 38 = .ok (.iload 5, 2) := by decide +kernel
theorem dX11_bestLevel_40 : decode cX11_bestLevel 40 = .ok (.goto 5, 3) := by decide +kernel
theorem dX11_bestLevel_43 : decode cX11_bestLevel 43 = .ok (.iload 4, 2) := by decide +kernel
theorem dX11_bestLevel_45 : decode cX11_bestLevel 45 = .ok (.istore 4, 2) := by decide +kernel
theorem dX11_bestLevel_47 : decode cX11_bestLevel 47 = .ok (.iinc 5 1, 3) := by decide +kernel
theorem dX11_bestLevel_50 : decode cX11_bestLevel 50 = .ok (.goto (-44), 3) := by decide +kernel
theorem dX11_bestLevel_53 : decode cX11_bestLevel 53 = .ok (.iload 4, 2) := by decide +kernel
theorem dX11_bestLevel_55 : decode cX11_bestLevel 55 = .ok (.ireturn, 1) := by decide +kernel
theorem dX11_layLevels_0 : decode cX11_layLevels 0 = .ok (.iconst 0, 1) := by decide +kernel
theorem dX11_layLevels_1 : decode cX11_layLevels 1 = .ok (.istore_n 2, 1) := by decide +kernel
theorem dX11_layLevels_2 : decode cX11_layLevels 2 = .ok (.iload_n 2, 1) := by decide +kernel
theorem dX11_layLevels_3 : decode cX11_layLevels 3 = .ok (.iconst 4, 1) := by decide +kernel
theorem dX11_layLevels_4 : decode cX11_layLevels 4 = .ok (.if_icmp .ge 25, 3) := by decide +kernel
theorem dX11_layLevels_7 : decode cX11_layLevels 7 = .ok (.aload_n 0, 1) := by decide +kernel
theorem dX11_layLevels_8 : decode cX11_layLevels 8 = .ok (.getfield 32, 3) := by decide +kernel
theorem dX11_layLevels_11 : decode cX11_layLevels 11 = .ok (.iconst 4, 1) := by decide +kernel
theorem dX11_layLevels_12 : decode cX11_layLevels 12 = .ok (.aload_n 0, 1) := by decide +kernel
theorem dX11_layLevels_13 : decode cX11_layLevels 13 = .ok (.getfield 7, 3) := by decide +kernel
theorem dX11_layLevels_16 : decode cX11_layLevels 16 = .ok (.iconst 0, 1) := by decide +kernel
theorem dX11_layLevels_17 : decode cX11_layLevels 17 = .ok (.iaload, 1) := by decide +kernel
theorem dX11_layLevels_18 : decode cX11_layLevels 18 = .ok (.imul, 1) := by decide +kernel
theorem dX11_layLevels_19 : decode cX11_layLevels 19 = .ok (.iload_n 2, 1) := by decide +kernel
theorem dX11_layLevels_20 : decode cX11_layLevels 20 = .ok (.iadd, 1) := by decide +kernel
theorem dX11_layLevels_21 : decode cX11_layLevels 21 = .ok (.iconst 0, 1) := by decide +kernel
theorem dX11_layLevels_22 : decode cX11_layLevels 22 = .ok (.iastore, 1) := by decide +kernel
theorem dX11_layLevels_23 : decode cX11_layLevels 23 = .ok (.iinc 2 1, 3) := by decide +kernel
theorem dX11_layLevels_26 : decode cX11_layLevels 26 = .ok (.goto (-24), 3) := by decide +kernel
theorem dX11_layLevels_29 : decode cX11_layLevels 29 = .ok (.aload_n 0, 1) := by decide +kernel
theorem dX11_layLevels_30 : decode cX11_layLevels 30 = .ok (.getfield 7, 3) := by decide +kernel
theorem dX11_layLevels_33 : decode cX11_layLevels 33 = .ok (.iconst 0, 1) := by decide +kernel
theorem dX11_layLevels_34 : decode cX11_layLevels 34 = .ok (.iaload, 1) := by decide +kernel
theorem dX11_layLevels_35 : decode cX11_layLevels 35 = .ok (.iconst 1, 1) := by decide +kernel
theorem dX11_layLevels_36 : decode cX11_layLevels 36 = .ok (.isub, 1) := by decide +kernel
theorem dX11_layLevels_37 : decode cX11_layLevels 37 = .ok (.istore_n 2, 1) := by decide +kernel
theorem dX11_layLevels_38 : decode cX11_layLevels 38 = .ok (.iload_n 2, 1) := by decide +kernel
theorem dX11_layLevels_39 : decode cX11_layLevels 39 = .ok (.ifCond .lt 51, 3) := by decide +kernel
theorem dX11_layLevels_42 : decode cX11_layLevels 42 = .ok (.iconst 0, 1) := by decide +kernel
theorem dX11_layLevels_43 : decode cX11_layLevels 43 = .ok (.istore_n 3, 1) := by decide +kernel
theorem dX11_layLevels_44 : decode cX11_layLevels 44 = .ok (.iload_n 3, 1) := by decide +kernel
theorem dX11_layLevels_45 : decode cX11_layLevels 45 = .ok (.aload_n 0, 1) := by decide +kernel
theorem dX11_layLevels_46 : decode cX11_layLevels 46 = .ok (.getfield 7, 3) := by decide +kernel
theorem dX11_layLevels_49 : decode cX11_layLevels 49 = .ok (.iconst 2, 1) := by decide +kernel
theorem dX11_layLevels_50 : decode cX11_layLevels 50 = .ok (.iaload, 1) := by decide +kernel
theorem dX11_layLevels_51 : decode cX11_layLevels 51 = .ok (.if_icmp .gt 33, 3) := by decide +kernel
theorem dX11_layLevels_54 : decode cX11_layLevels 54 = .ok (.aload_n 0, 1) := by decide +kernel
theorem dX11_layLevels_55 : decode cX11_layLevels 55 = .ok (.getfield 32, 3) := by decide +kernel
theorem dX11_layLevels_58 : decode cX11_layLevels 58 = .ok (.iconst 4, 1) := by decide +kernel
theorem dX11_layLevels_59 : decode cX11_layLevels 59 = .ok (.iload_n 2, 1) := by decide +kernel
theorem dX11_layLevels_60 : decode cX11_layLevels 60 = .ok (.imul, 1) := by decide +kernel
theorem dX11_layLevels_61 : decode cX11_layLevels 61 = .ok (.iload_n 3, 1) := by decide +kernel
theorem dX11_layLevels_62 : decode cX11_layLevels 62 = .ok (.iadd, 1) := by decide +kernel
theorem dX11_layLevels_63 : decode cX11_layLevels 63 = .ok (.aload_n 0, 1) := by decide +kernel
theorem dX11_layLevels_64 : decode cX11_layLevels 64 = .ok (.iload_n 1, 1) := by decide +kernel
theorem dX11_layLevels_65 : decode cX11_layLevels 65 = .ok (.iload_n 2, 1) := by decide +kernel
theorem dX11_layLevels_66 : decode cX11_layLevels 66 = .ok (.iload_n 3, 1) := by decide +kernel
theorem dX11_layLevels_67 : decode cX11_layLevels 67 = .ok (.aload_n 0, 1) := by decide +kernel
theorem dX11_layLevels_68 : decode cX11_layLevels 68 = .ok (.iload_n 1, 1) := by decide +kernel
theorem dX11_layLevels_69 : decode cX11_layLevels 69 = .ok (.iload_n 2, 1) := by decide +kernel
theorem dX11_layLevels_70 : decode cX11_layLevels 70 = .ok (.iload_n 3, 1) := by decide +kernel
theorem dX11_layLevels_71 : decode cX11_layLevels 71 = .ok (.invokevirtual 81, 3) := by decide +kernel
theorem dX11_layLevels_74 : decode cX11_layLevels 74 = .ok (.invokevirtual 77, 3) := by decide +kernel
theorem dX11_layLevels_77 : decode cX11_layLevels 77 = .ok (.iastore, 1) := by decide +kernel
theorem dX11_layLevels_78 : decode cX11_layLevels 78 = .ok (.iinc 3 1, 3) := by decide +kernel
theorem dX11_layLevels_81 : decode cX11_layLevels 81 = .ok (.goto (-37), 3) := by decide +kernel
theorem dX11_layLevels_84 : decode cX11_layLevels 84 = .ok (.iinc 2 (-1), 3) := by decide +kernel
theorem dX11_layLevels_87 : decode cX11_layLevels 87 = .ok (.goto (-49), 3) := by decide +kernel
theorem dX11_layLevels_90 : decode cX11_layLevels 90 = .ok (.iconst 0, 1) := by decide +kernel
theorem dX11_layLevels_91 : decode cX11_layLevels 91 = .ok (.istore_n 2, 1) := by decide +kernel
theorem dX11_layLevels_92 : decode cX11_layLevels 92 = .ok (.iconst 0, 1) := by decide +kernel
theorem dX11_layLevels_93 : decode cX11_layLevels 93 = .ok (.istore_n 3, 1) := by decide +kernel
theorem dX11_layLevels_94 : decode cX11_layLevels 94 = .ok (.iload_n 3, 1) := by decide +kernel
theorem dX11_layLevels_95 : decode cX11_layLevels 95 = .ok (.aload_n 0, 1) := by decide +kernel
theorem dX11_layLevels_96 : decode cX11_layLevels 96 = .ok (.getfield 7, 3) := by decide +kernel
theorem dX11_layLevels_99 : decode cX11_layLevels 99 = .ok (.iconst 0, 1) := by decide +kernel
theorem dX11_layLevels_100 : decode cX11_layLevels 100 = .ok (.iaload, 1) := by decide +kernel
theorem dX11_layLevels_101 : decode cX11_layLevels 101 = .ok (.if_icmp .ge 29, 3) := by decide +kernel
theorem dX11_layLevels_104 : decode cX11_layLevels 104 = .ok (.aload_n 0, 1) := by decide +kernel
theorem dX11_layLevels_105 : decode cX11_layLevels 105 = .ok (.getfield 35, 3) := by decide +kernel
theorem dX11_layLevels_108 : decode cX11_layLevels 108 = .ok (.iload_n 3, 1) := by decide +kernel
theorem dX11_layLevels_109 : decode cX11_layLevels 109 = .ok (.aload_n 0, 1) := by decide +kernel
theorem dX11_layLevels_110 : decode cX11_layLevels 110 = .ok (.iload_n 1, 1) := by decide +kernel
theorem dX11_layLevels_111 : decode cX11_layLevels 111 = .ok (.iload_n 3, 1) := by decide +kernel
theorem dX11_layLevels_112 : decode cX11_layLevels 112 = .ok (.iload_n 2, 1) := by decide +kernel
theorem dX11_layLevels_113 : decode cX11_layLevels 113 = .ok (.invokevirtual 81, 3) := by decide +kernel
theorem dX11_layLevels_116 : decode cX11_layLevels 116 = .ok (.iastore, 1) := by decide +kernel
theorem dX11_layLevels_117 : decode cX11_layLevels 117 = .ok (.aload_n 0, 1) := by decide +kernel
theorem dX11_layLevels_118 : decode cX11_layLevels 118 = .ok (.getfield 35, 3) := by decide +kernel
theorem dX11_layLevels_121 : decode cX11_layLevels 121 = .ok (.iload_n 3, 1) := by decide +kernel
theorem dX11_layLevels_122 : decode cX11_layLevels 122 = .ok (.iaload, 1) := by decide +kernel
theorem dX11_layLevels_123 : decode cX11_layLevels 123 = .ok (.istore_n 2, 1) := by decide +kernel
theorem dX11_layLevels_124 : decode cX11_layLevels 124 = .ok (.iinc 3 1, 3) := by decide +kernel
theorem dX11_layLevels_127 : decode cX11_layLevels 127 = .ok (.goto (-33), 3) := by decide +kernel
theorem dX11_layLevels_130 : decode cX11_layLevels 130 = .ok (.return_, 1) := by decide +kernel
theorem dX11_levelOf_0 : decode cX11_levelOf 0 = .ok (.aload_n 0, 1) := by decide +kernel
theorem dX11_levelOf_1 : decode cX11_levelOf 1 = .ok (.iload_n 1, 1) := by decide +kernel
theorem dX11_levelOf_2 : decode cX11_levelOf 2 = .ok (.invokevirtual 84, 3) := by decide +kernel
theorem dX11_levelOf_5 : decode cX11_levelOf 5 = .ok (.aload_n 0, 1) := by decide +kernel
theorem dX11_levelOf_6 : decode cX11_levelOf 6 = .ok (.getfield 35, 3) := by decide +kernel
theorem dX11_levelOf_9 : decode cX11_levelOf 9 = .ok (.iload_n 2, 1) := by decide +kernel
theorem dX11_levelOf_10 : decode cX11_levelOf 10 = .ok (.iaload, 1) := by decide +kernel
theorem dX11_levelOf_11 : decode cX11_levelOf 11 = .ok (.ireturn, 1) := by decide +kernel
theorem dX11_addFlares_0 : decode cX11_addFlares 0 = .ok (.iconst (-1), 1) := by decide +kernel
theorem dX11_addFlares_1 : decode cX11_addFlares 1 = .ok (.istore_n 3, 1) := by decide +kernel
theorem dX11_addFlares_2 : decode cX11_addFlares 2 = .ok (.iconst 0, 1) := by decide +kernel
theorem dX11_addFlares_3 : decode cX11_addFlares 3 = .ok (.istore 4, 2) := by decide +kernel
theorem dX11_addFlares_5 : decode cX11_addFlares 5 = .ok (.iload 4, 2) := by decide +kernel
theorem dX11_addFlares_7 : decode cX11_addFlares 7 = .ok (.aload_n 0, 1) := by decide +kernel
theorem dX11_addFlares_8 : decode cX11_addFlares 8 = .ok (.getfield 7, 3) := by decide +kernel
theorem dX11_addFlares_11 : decode cX11_addFlares 11 = .ok (.iconst 0, 1) := by decide +kernel
theorem dX11_addFlares_12 : decode cX11_addFlares 12 = .ok (.iaload, 1) := by decide +kernel
theorem dX11_addFlares_13 : decode cX11_addFlares 13 = .ok (.if_icmp .gt 124, 3) := by decide +kernel
theorem dX11_addFlares_16 : decode cX11_addFlares 16 = .ok (.iload 4, 2) := by decide +kernel
theorem dX11_addFlares_18 : decode cX11_addFlares 18 = .ok (.aload_n 0, 1) := by decide +kernel
theorem dX11_addFlares_19 : decode cX11_addFlares 19 = .ok (.getfield 7, 3) := by decide +kernel
theorem dX11_addFlares_22 : decode cX11_addFlares 22 = .ok (.iconst 0, 1) := by decide +kernel
theorem dX11_addFlares_23 : decode cX11_addFlares 23 = .ok (.iaload, 1) := by decide +kernel
theorem dX11_addFlares_24 : decode cX11_addFlares 24 = .ok (.if_icmp .ge 18, 3) := by decide +kernel
theorem dX11_addFlares_27 : decode cX11_addFlares 27 = .ok (.aload_n 0, 1) := by decide +kernel
theorem dX11_addFlares_28 : decode cX11_addFlares 28 = .ok (.getfield 35, 3) := by decide +kernel
theorem dX11_addFlares_31 : decode cX11_addFlares 31 = .ok (.iload 4, 2) := by decide +kernel
theorem dX11_addFlares_33 : decode cX11_addFlares 33 = .ok (.iaload, 1) := by decide +kernel
theorem dX11_addFlares_34 : decode cX11_addFlares 34 = .ok (.iload_n 2, 1) := by decide +kernel
theorem dX11_addFlares_35 : decode cX11_addFlares 35 = .ok (.if_icmp .lt 7, 3) := by decide +kernel
theorem dX11_addFlares_38 : decode cX11_addFlares 38 = .ok (.iconst 1, 1) := by decide +kernel
theorem dX11_addFlares_39 : decode cX11_addFlares 39 = .ok (.goto 4, 3) := by decide +kernel
theorem dX11_addFlares_42 : decode cX11_addFlares 42 = .ok (.iconst 0, 1) := by decide +kernel
theorem dX11_addFlares_43 : decode cX11_addFlares 43 = .ok (.istore 5, 2) := by decide +kernel
theorem dX11_addFlares_45 : decode cX11_addFlares 45 = .ok (.iload 5, 2) := by decide +kernel
theorem dX11_addFlares_47 : decode cX11_addFlares 47 = .ok (.ifCond .eq 10, 3) := by decide +kernel
theorem dX11_addFlares_50 : decode cX11_addFlares 50 = .ok (.iload_n 3, 1) := by decide +kernel
theorem dX11_addFlares_51 : decode cX11_addFlares 51 = .ok (.ifCond .ge 6, 3) := by decide +kernel
theorem dX11_addFlares_54 : decode cX11_addFlares 54 = .ok (.iload 4, 2) := by decide +kernel
theorem dX11_addFlares_56 : decode cX11_addFlares 56 = .ok (.istore_n 3, 1) := by decide +kernel
theorem dX11_addFlares_57 : decode cX11_addFlares 57 = .ok (.iload 5, 2) := by decide +kernel
theorem dX11_addFlares_59 : decode cX11_addFlares 59 = .ok (.ifCond .ne 72, 3) := by decide +kernel
theorem dX11_addFlares_62 : decode cX11_addFlares 62 = .ok (.iload_n 3, 1) := by decide +kernel
theorem dX11_addFlares_63 : decode cX11_addFlares 63 = .ok (.ifCond .lt 68, 3) := by decide +kernel
theorem dX11_addFlares_66 : decode cX11_addFlares 66 = .ok (.aload_n 0, 1) := by decide +kernel
theorem dX11_addFlares_67 : decode cX11_addFlares 67 = .ok (.getfield 88, 3) := by decide +kernel
theorem dX11_addFlares_70 : decode cX11_addFlares 70 = .ok (.sipush 160, 3) := by decide +kernel
theorem dX11_addFlares_73 : decode cX11_addFlares 73 = .ok (.if_icmp .ge 58, 3) := by decide +kernel
theorem dX11_addFlares_76 : decode cX11_addFlares 76 = .ok (.aload_n 0, 1) := by decide +kernel
theorem dX11_addFlares_77 : decode cX11_addFlares 77 = .ok (.getfield 38, 3) := by decide +kernel
theorem dX11_addFlares_80 : decode cX11_addFlares 80 = .ok (.aload_n 0, 1) := by decide +kernel
theorem dX11_addFlares_81 : decode cX11_addFlares 81 = .ok (.getfield 88, 3) := by decide +kernel
theorem dX11_addFlares_84 : decode cX11_addFlares 84 = .ok (.iload_n 1, 1) := by decide +kernel
theorem dX11_addFlares_85 : decode cX11_addFlares 85 = .ok (.iastore, 1) := by decide +kernel
theorem dX11_addFlares_86 : decode cX11_addFlares 86 = .ok (.aload_n 0, 1) := by decide +kernel
theorem dX11_addFlares_87 : decode cX11_addFlares 87 = .ok (.getfield 41, 3) := by decide +kernel
theorem dX11_addFlares_90 : decode cX11_addFlares 90 = .ok (.aload_n 0, 1) := by decide +kernel
theorem dX11_addFlares_91 : decode cX11_addFlares 91 = .ok (.getfield 88, 3) := by decide +kernel
theorem dX11_addFlares_94 : decode cX11_addFlares 94 = .ok (.iload_n 2, 1) := by decide +kernel
theorem dX11_addFlares_95 : decode cX11_addFlares 95 = .ok (.iastore, 1) := by decide +kernel
theorem dX11_addFlares_96 : decode cX11_addFlares 96 = .ok (.aload_n 0, 1) := by decide +kernel
theorem dX11_addFlares_97 : decode cX11_addFlares 97 = .ok (.getfield 44, 3) := by decide +kernel
theorem dX11_addFlares_100 : decode cX11_addFlares 100 = .ok (.aload_n 0, 1) := by decide +kernel
theorem dX11_addFlares_101 : decode cX11_addFlares 101 = .ok (.getfield 88, 3) := by decide +kernel
theorem dX11_addFlares_104 : decode cX11_addFlares 104 = .ok (.iload_n 3, 1) := by decide +kernel
theorem dX11_addFlares_105 : decode cX11_addFlares 105 = .ok (.iastore, 1) := by decide +kernel
theorem dX11_addFlares_106 : decode cX11_addFlares 106 = .ok (.aload_n 0, 1) := by decide +kernel
theorem dX11_addFlares_107 : decode cX11_addFlares 107 = .ok (.getfield 47, 3) := by decide +kernel
theorem dX11_addFlares_110 : decode cX11_addFlares 110 = .ok (.aload_n 0, 1) := by decide +kernel
theorem dX11_addFlares_111 : decode cX11_addFlares 111 = .ok (.getfield 88, 3) := by decide +kernel
theorem dX11_addFlares_114 : decode cX11_addFlares 114 = .ok (.iload 4, 2) := by decide +kernel
theorem dX11_addFlares_116 : decode cX11_addFlares 116 = .ok (.iconst 1, 1) := by decide +kernel
theorem dX11_addFlares_117 : decode cX11_addFlares 117 = .ok (.isub, 1) := by decide +kernel
theorem dX11_addFlares_118 : decode cX11_addFlares 118 = .ok (.iastore, 1) := by decide +kernel
theorem dX11_addFlares_119 : decode cX11_addFlares 119 = .ok (.aload_n 0, 1) := by decide +kernel
theorem dX11_addFlares_120 : decode cX11_addFlares 120 = .ok (.dup, 1) := by decide +kernel
theorem dX11_addFlares_121 : decode cX11_addFlares 121 = .ok (.getfield 88, 3) := by decide +kernel
theorem dX11_addFlares_124 : decode cX11_addFlares 124 = .ok (.iconst 1, 1) := by decide +kernel
theorem dX11_addFlares_125 : decode cX11_addFlares 125 = .ok (.iadd, 1) := by decide +kernel
theorem dX11_addFlares_126 : decode cX11_addFlares 126 = .ok (.putfield 88, 3) := by decide +kernel
theorem dX11_addFlares_129 : decode cX11_addFlares 129 = .ok (.iconst (-1), 1) := by decide +kernel
theorem dX11_addFlares_130 : decode cX11_addFlares 130 = .ok (.istore_n 3, 1) := by decide +kernel
theorem dX11_addFlares_131 : decode cX11_addFlares 131 = .ok (.iinc 4 1, 3) := by decide +kernel
theorem dX11_addFlares_134 : decode cX11_addFlares 134 = .ok (.goto (-129), 3) := by decide +kernel
theorem dX11_addFlares_137 : decode cX11_addFlares 137 = .ok (.return_, 1) := by decide +kernel
theorem dX11_layFlares_0 : decode cX11_layFlares 0 = .ok (.aload_n 0, 1) := by decide +kernel
theorem dX11_layFlares_1 : decode cX11_layFlares 1 = .ok (.iconst 0, 1) := by decide +kernel
theorem dX11_layFlares_2 : decode cX11_layFlares 2 = .ok (.putfield 88, 3) := by decide +kernel
theorem dX11_layFlares_5 : decode cX11_layFlares 5 = .ok (.iconst 0, 1) := by decide +kernel
theorem dX11_layFlares_6 : decode cX11_layFlares 6 = .ok (.istore_n 1, 1) := by decide +kernel
theorem dX11_layFlares_7 : decode cX11_layFlares 7 = .ok (.iload_n 1, 1) := by decide +kernel
theorem dX11_layFlares_8 : decode cX11_layFlares 8 = .ok (.bipush 8, 2) := by decide +kernel
theorem dX11_layFlares_10 : decode cX11_layFlares 10 = .ok (.if_icmp .ge 38, 3) := by decide +kernel
theorem dX11_layFlares_13 : decode cX11_layFlares 13 = .ok (.aload_n 0, 1) := by decide +kernel
theorem dX11_layFlares_14 : decode cX11_layFlares 14 = .ok (.iload_n 1, 1) := by decide +kernel
theorem dX11_layFlares_15 : decode cX11_layFlares 15 = .ok (.invokevirtual 84, 3) := by decide +kernel
theorem dX11_layFlares_18 : decode cX11_layFlares 18 = .ok (.iconst 1, 1) := by decide +kernel
theorem dX11_layFlares_19 : decode cX11_layFlares 19 = .ok (.istore_n 2, 1) := by decide +kernel
theorem dX11_layFlares_20 : decode cX11_layFlares 20 = .ok (.iload_n 2, 1) := by decide +kernel
theorem dX11_layFlares_21 : decode cX11_layFlares 21 = .ok (.aload_n 0, 1) := by decide +kernel
theorem dX11_layFlares_22 : decode cX11_layFlares 22 = .ok (.getfield 7, 3) := by decide +kernel
theorem dX11_layFlares_25 : decode cX11_layFlares 25 = .ok (.iconst 2, 1) := by decide +kernel
theorem dX11_layFlares_26 : decode cX11_layFlares 26 = .ok (.iaload, 1) := by decide +kernel
theorem dX11_layFlares_27 : decode cX11_layFlares 27 = .ok (.if_icmp .gt 15, 3) := by decide +kernel
theorem dX11_layFlares_30 : decode cX11_layFlares 30 = .ok (.aload_n 0, 1) := by decide +kernel
theorem dX11_layFlares_31 : decode cX11_layFlares 31 = .ok (.iload_n 1, 1) := by decide +kernel
theorem dX11_layFlares_32 : decode cX11_layFlares 32 = .ok (.iload_n 2, 1) := by decide +kernel
theorem dX11_layFlares_33 : decode cX11_layFlares 33 = .ok (.invokevirtual 91, 3) := by decide +kernel
theorem dX11_layFlares_36 : decode cX11_layFlares 36 = .ok (.iinc 2 1, 3) := by decide +kernel
theorem dX11_layFlares_39 : decode cX11_layFlares 39 = .ok (.goto (-19), 3) := by decide +kernel
theorem dX11_layFlares_42 : decode cX11_layFlares 42 = .ok (.iinc 1 1, 3) := by decide +kernel
theorem dX11_layFlares_45 : decode cX11_layFlares 45 = .ok (.goto (-38), 3) := by decide +kernel
theorem dX11_layFlares_48 : decode cX11_layFlares 48 = .ok (.return_, 1) := by decide +kernel
theorem dX11_isIn_0 : decode cX11_isIn 0 = .ok (.iload_n 2, 1) := by decide +kernel
theorem dX11_isIn_1 : decode cX11_isIn 1 = .ok (.i2l, 1) := by decide +kernel
theorem dX11_isIn_2 : decode cX11_isIn 2 = .ok (.aload_n 0, 1) := by decide +kernel
theorem dX11_isIn_3 : decode cX11_isIn 3 = .ok (.getfield 44, 3) := by decide +kernel
theorem dX11_isIn_6 : decode cX11_isIn 6 = .ok (.iload_n 1, 1) := by decide +kernel
theorem dX11_isIn_7 : decode cX11_isIn 7 = .ok (.iaload, 1) := by decide +kernel
theorem dX11_isIn_8 : decode cX11_isIn 8 = .ok (.i2l, 1) := by decide +kernel
theorem dX11_isIn_9 : decode cX11_isIn 9 = .ok (.aload_n 0, 1) := by decide +kernel
theorem dX11_isIn_10 : decode cX11_isIn 10 = .ok (.getfield 47, 3) := by decide +kernel
theorem dX11_isIn_13 : decode cX11_isIn 13 = .ok (.iload_n 1, 1) := by decide +kernel
theorem dX11_isIn_14 : decode cX11_isIn 14 = .ok (.iaload, 1) := by decide +kernel
theorem dX11_isIn_15 : decode cX11_isIn 15 = .ok (.i2l, 1) := by decide +kernel
theorem dX11_isIn_16 : decode cX11_isIn 16 = .ok (.invokestatic 94, 3) := by decide +kernel
theorem dX11_isIn_19 : decode cX11_isIn 19 = .ok (.ireturn, 1) := by decide +kernel
theorem dX11_areTied_0 : decode cX11_areTied 0 = .ok (.iconst 0, 1) := by decide +kernel
theorem dX11_areTied_1 : decode cX11_areTied 1 = .ok (.istore_n 3, 1) := by decide +kernel
theorem dX11_areTied_2 : decode cX11_areTied 2 = .ok (.iconst 1, 1) := by decide +kernel
theorem dX11_areTied_3 : decode cX11_areTied 3 = .ok (.aload_n 0, 1) := by decide +kernel
theorem dX11_areTied_4 : decode cX11_areTied 4 = .ok (.getfield 38, 3) := by decide +kernel
theorem dX11_areTied_7 : decode cX11_areTied 7 = .ok (.iload_n 1, 1) := by decide +kernel
theorem dX11_areTied_8 : decode cX11_areTied 8 = .ok (.iaload, 1) := by decide +kernel
theorem dX11_areTied_9 : decode cX11_areTied 9 = .ok (.ishl, 1) := by decide +kernel
theorem dX11_areTied_10 : decode cX11_areTied 10 = .ok (.iconst 1, 1) := by decide +kernel
theorem dX11_areTied_11 : decode cX11_areTied 11 = .ok (.aload_n 0, 1) := by decide +kernel
theorem dX11_areTied_12 : decode cX11_areTied 12 = .ok (.getfield 38, 3) := by decide +kernel
theorem dX11_areTied_15 : decode cX11_areTied 15 = .ok (.iload_n 2, 1) := by decide +kernel
theorem dX11_areTied_16 : decode cX11_areTied 16 = .ok (.iaload, 1) := by decide +kernel
theorem dX11_areTied_17 : decode cX11_areTied 17 = .ok (.ishl, 1) := by decide +kernel
theorem dX11_areTied_18 : decode cX11_areTied 18 = .ok (.ior, 1) := by decide +kernel
theorem dX11_areTied_19 : decode cX11_areTied 19 = .ok (.istore 4, 2) := by decide +kernel
theorem dX11_areTied_21 : decode cX11_areTied 21 = .ok (.iconst 0, 1) := by decide +kernel
theorem dX11_areTied_22 : decode cX11_areTied 22 = .ok (.istore 5, 2) := by decide +kernel
theorem dX11_areTied_24 : decode cX11_areTied 24 = .ok (.iload 5, 2) := by decide +kernel
theorem dX11_areTied_26 : decode cX11_areTied 26 = .ok (.aload_n 0, 1) := by decide +kernel
theorem dX11_areTied_27 : decode cX11_areTied 27 = .ok (.getfield 7, 3) := by decide +kernel
theorem dX11_areTied_30 : decode cX11_areTied 30 = .ok (.iconst 1, 1) := by decide +kernel
theorem dX11_areTied_31 : decode cX11_areTied 31 = .ok (.iaload, 1) := by decide +kernel
theorem dX11_areTied_32 : decode cX11_areTied 32 = .ok (.if_icmp .ge 73, 3) := by decide +kernel
theorem dX11_areTied_35 : decode cX11_areTied 35 = .ok (.iload_n 3, 1) := by decide +kernel
theorem dX11_areTied_36 : decode cX11_areTied 36 = .ok (.ifCond .ne 57, 3) := by decide +kernel
theorem dX11_areTied_39 : decode cX11_areTied 39 = .ok (.aload_n 0, 1) := by decide +kernel
theorem dX11_areTied_40 : decode cX11_areTied 40 = .ok (.iload_n 1, 1) := by decide +kernel
theorem dX11_areTied_41 : decode cX11_areTied 41 = .ok (.aload_n 0, 1) := by decide +kernel
theorem dX11_areTied_42 : decode cX11_areTied 42 = .ok (.getfield 7, 3) := by decide +kernel
theorem dX11_areTied_45 : decode cX11_areTied 45 = .ok (.bipush 6, 2) := by decide +kernel
theorem dX11_areTied_47 : decode cX11_areTied 47 = .ok (.iload 5, 2) := by decide +kernel
theorem dX11_areTied_49 : decode cX11_areTied 49 = .ok (.iadd, 1) := by decide +kernel
theorem dX11_areTied_50 : decode cX11_areTied 50 = .ok (.iaload, 1) := by decide +kernel
theorem dX11_areTied_51 : decode cX11_areTied 51 = .ok (.invokevirtual 98, 3) := by decide +kernel
theorem dX11_areTied_54 : decode cX11_areTied 54 = .ok (.ifCond .eq 43, 3) := by decide +kernel
theorem dX11_areTied_57 : decode cX11_areTied 57 = .ok (.aload_n 0, 1) := by decide +kernel
theorem dX11_areTied_58 : decode cX11_areTied 58 = .ok (.iload_n 2, 1) := by decide +kernel
theorem dX11_areTied_59 : decode cX11_areTied 59 = .ok (.aload_n 0, 1) := by decide +kernel
theorem dX11_areTied_60 : decode cX11_areTied 60 = .ok (.getfield 7, 3) := by decide +kernel
theorem dX11_areTied_63 : decode cX11_areTied 63 = .ok (.bipush 6, 2) := by decide +kernel
theorem dX11_areTied_65 : decode cX11_areTied 65 = .ok (.iload 5, 2) := by decide +kernel
theorem dX11_areTied_67 : decode cX11_areTied 67 = .ok (.iadd, 1) := by decide +kernel
theorem dX11_areTied_68 : decode cX11_areTied 68 = .ok (.iaload, 1) := by decide +kernel
theorem dX11_areTied_69 : decode cX11_areTied 69 = .ok (.invokevirtual 98, 3) := by decide +kernel
theorem dX11_areTied_72 : decode cX11_areTied 72 = .ok (.ifCond .eq 25, 3) := by decide +kernel
theorem dX11_areTied_75 : decode cX11_areTied 75 = .ok (.aload_n 0, 1) := by decide +kernel
theorem dX11_areTied_76 : decode cX11_areTied 76 = .ok (.getfield 7, 3) := by decide +kernel
theorem dX11_areTied_79 : decode cX11_areTied 79 = .ok (.bipush 46, 2) := by decide +kernel
theorem dX11_areTied_81 : decode cX11_areTied 81 = .ok (.iload 5, 2) := by decide +kernel
theorem dX11_areTied_83 : decode cX11_areTied 83 = .ok (.iadd, 1) := by decide +kernel
theorem dX11_areTied_84 : decode cX11_areTied 84 = .ok (.iaload, 1) := by decide +kernel
theorem dX11_areTied_85 : decode cX11_areTied 85 = .ok (.iload 4, 2) := by decide +kernel
theorem dX11_areTied_87 : decode cX11_areTied 87 = .ok (.iand, 1) := by decide +kernel
theorem dX11_areTied_88 : decode cX11_areTied 88 = .ok (.iload 4, 2) := by decide +kernel
theorem dX11_areTied_90 : decode cX11_areTied 90 = .ok (.if_icmp .ne 7, 3) := by decide +kernel
theorem dX11_areTied_93 : decode cX11_areTied 93 = .ok (.iconst 1, 1) := by decide +kernel
theorem dX11_areTied_94 : decode cX11_areTied 94 = .ok (.goto 4, 3) := by decide +kernel
theorem dX11_areTied_97 : decode cX11_areTied 97 = .ok (.iconst 0, 1) := by decide +kernel
theorem dX11_areTied_98 : decode cX11_areTied 98 = .ok (.istore_n 3, 1) := by decide +kernel
theorem dX11_areTied_99 : decode cX11_areTied 99 = .ok (.iinc 5 1, 3) := by decide +kernel
theorem dX11_areTied_102 : decode cX11_areTied 102 = .ok (.goto (-78), 3) := by decide +kernel
theorem dX11_areTied_105 : decode cX11_areTied 105 = .ok (.iload_n 3, 1) := by decide +kernel
theorem dX11_areTied_106 : decode cX11_areTied 106 = .ok (.ifCond .eq 42, 3) := by decide +kernel
theorem dX11_areTied_109 : decode cX11_areTied 109 = .ok (.aload_n 0, 1) := by decide +kernel
theorem dX11_areTied_110 : decode cX11_areTied 110 = .ok (.getfield 38, 3) := by decide +kernel
theorem dX11_areTied_113 : decode cX11_areTied 113 = .ok (.iload_n 1, 1) := by decide +kernel
theorem dX11_areTied_114 : decode cX11_areTied 114 = .ok (.iaload, 1) := by decide +kernel
theorem dX11_areTied_115 : decode cX11_areTied 115 = .ok (.aload_n 0, 1) := by decide +kernel
theorem dX11_areTied_116 : decode cX11_areTied 116 = .ok (.getfield 38, 3) := by decide +kernel
theorem dX11_areTied_119 : decode cX11_areTied 119 = .ok (.iload_n 2, 1) := by decide +kernel
theorem dX11_areTied_120 : decode cX11_areTied 120 = .ok (.iaload, 1) := by decide +kernel
theorem dX11_areTied_121 : decode cX11_areTied 121 = .ok (.if_icmp .eq 27, 3) := by decide +kernel
theorem dX11_areTied_124 : decode cX11_areTied 124 = .ok (.aload_n 0, 1) := by decide +kernel
theorem dX11_areTied_125 : decode cX11_areTied 125 = .ok (.getfield 41, 3) := by decide +kernel
theorem dX11_areTied_128 : decode cX11_areTied 128 = .ok (.iload_n 1, 1) := by decide +kernel
theorem dX11_areTied_129 : decode cX11_areTied 129 = .ok (.iaload, 1) := by decide +kernel
theorem dX11_areTied_130 : decode cX11_areTied 130 = .ok (.iconst 1, 1) := by decide +kernel
theorem dX11_areTied_131 : decode cX11_areTied 131 = .ok (.if_icmp .ne 17, 3) := by decide +kernel
theorem dX11_areTied_134 : decode cX11_areTied 134 = .ok (.aload_n 0, 1) := by decide +kernel
theorem dX11_areTied_135 : decode cX11_areTied 135 = .ok (.getfield 41, 3) := by decide +kernel
theorem dX11_areTied_138 : decode cX11_areTied 138 = .ok (.iload_n 2, 1) := by decide +kernel
theorem dX11_areTied_139 : decode cX11_areTied 139 = .ok (.iaload, 1) := by decide +kernel
theorem dX11_areTied_140 : decode cX11_areTied 140 = .ok (.iconst 1, 1) := by decide +kernel
theorem dX11_areTied_141 : decode cX11_areTied 141 = .ok (.if_icmp .ne 7, 3) := by decide +kernel
theorem dX11_areTied_144 : decode cX11_areTied 144 = .ok (.iconst 1, 1) := by decide +kernel
theorem dX11_areTied_145 : decode cX11_areTied 145 = .ok (.goto 4, 3) := by decide +kernel
theorem dX11_areTied_148 : decode cX11_areTied 148 = .ok (.iconst 0, 1) := by decide +kernel
theorem dX11_areTied_149 : decode cX11_areTied 149 = .ok (.ireturn, 1) := by decide +kernel
theorem dX11_layHeaps_0 : decode cX11_layHeaps 0 = .ok (.aload_n 0, 1) := by decide +kernel
theorem dX11_layHeaps_1 : decode cX11_layHeaps 1 = .ok (.invokevirtual 102, 3) := by decide +kernel
theorem dX11_layHeaps_4 : decode cX11_layHeaps 4 = .ok (.iconst 0, 1) := by decide +kernel
theorem dX11_layHeaps_5 : decode cX11_layHeaps 5 = .ok (.istore_n 1, 1) := by decide +kernel
theorem dX11_layHeaps_6 : decode cX11_layHeaps 6 = .ok (.iload_n 1, 1) := by decide +kernel
theorem dX11_layHeaps_7 : decode cX11_layHeaps 7 = .ok (.aload_n 0, 1) := by decide +kernel
theorem dX11_layHeaps_8 : decode cX11_layHeaps 8 = .ok (.getfield 88, 3) := by decide +kernel
theorem dX11_layHeaps_11 : decode cX11_layHeaps 11 = .ok (.if_icmp .ge 16, 3) := by decide +kernel
theorem dX11_layHeaps_14 : decode cX11_layHeaps 14 = .ok (.aload_n 0, 1) := by decide +kernel
theorem dX11_layHeaps_15 : decode cX11_layHeaps 15 = .ok (.getfield 50, 3) := by decide +kernel
theorem dX11_layHeaps_18 : decode cX11_layHeaps 18 = .ok (.iload_n 1, 1) := by decide +kernel
theorem dX11_layHeaps_19 : decode cX11_layHeaps 19 = .ok (.iload_n 1, 1) := by decide +kernel
theorem dX11_layHeaps_20 : decode cX11_layHeaps 20 = .ok (.iastore, 1) := by decide +kernel
theorem dX11_layHeaps_21 : decode cX11_layHeaps 21 = .ok (.iinc 1 1, 3) := by decide +kernel
theorem dX11_layHeaps_24 : decode cX11_layHeaps 24 = .ok (.goto (-18), 3) := by decide +kernel
theorem dX11_layHeaps_27 : decode cX11_layHeaps 27 = .ok (.iconst 1, 1) := by decide +kernel
theorem dX11_layHeaps_28 : decode cX11_layHeaps 28 = .ok (.istore_n 1, 1) := by decide +kernel
theorem dX11_layHeaps_29 : decode cX11_layHeaps 29 = .ok (.iload_n 1, 1) := by decide +kernel
theorem dX11_layHeaps_30 : decode cX11_layHeaps 30 = .ok (.ifCond .eq 78, 3) := by decide +kernel
theorem dX11_layHeaps_33 : decode cX11_layHeaps 33 = .ok (.iconst 0, 1) := by decide +kernel
theorem dX11_layHeaps_34 : decode cX11_layHeaps 34 = .ok (.istore_n 1, 1) := by decide +kernel
theorem dX11_layHeaps_35 : decode cX11_layHeaps 35 = .ok (.iconst 0, 1) := by decide +kernel
theorem dX11_layHeaps_36 : decode cX11_layHeaps 36 = .ok (.istore_n 2, 1) := by decide +kernel
theorem dX11_layHeaps_37 : decode cX11_layHeaps 37 = .ok (.iload_n 2, 1) := by decide +kernel
theorem dX11_layHeaps_38 : decode cX11_layHeaps 38 = .ok (.aload_n 0, 1) := by decide +kernel
theorem dX11_layHeaps_39 : decode cX11_layHeaps 39 = .ok (.getfield 88, 3) := by decide +kernel
theorem dX11_layHeaps_42 : decode cX11_layHeaps 42 = .ok (.if_icmp .ge 63, 3) := by decide +kernel
theorem dX11_layHeaps_45 : decode cX11_layHeaps 45 = .ok (.iconst 0, 1) := by decide +kernel
theorem dX11_layHeaps_46 : decode cX11_layHeaps 46 = .ok (.istore_n 3, 1) := by decide +kernel
theorem dX11_layHeaps_47 : decode cX11_layHeaps 47 = .ok (.iload_n 3, 1) := by decide +kernel
theorem dX11_layHeaps_48 : decode cX11_layHeaps 48 = .ok (.aload_n 0, 1) := by decide +kernel
theorem dX11_layHeaps_49 : decode cX11_layHeaps 49 = .ok (.getfield 88, 3) := by decide +kernel
theorem dX11_layHeaps_52 : decode cX11_layHeaps 52 = .ok (.if_icmp .ge 47, 3) := by decide +kernel
theorem dX11_layHeaps_55 : decode cX11_layHeaps 55 = .ok (.aload_n 0, 1) := by decide +kernel
theorem dX11_layHeaps_56 : decode cX11_layHeaps 56 = .ok (.getfield 50, 3) := by decide +kernel
theorem dX11_layHeaps_59 : decode cX11_layHeaps 59 = .ok (.iload_n 3, 1) := by decide +kernel
theorem dX11_layHeaps_60 : decode cX11_layHeaps 60 = .ok (.iaload, 1) := by decide +kernel
theorem dX11_layHeaps_61 : decode cX11_layHeaps 61 = .ok (.aload_n 0, 1) := by decide +kernel
theorem dX11_layHeaps_62 : decode cX11_layHeaps 62 = .ok (.getfield 50, 3) := by decide +kernel
theorem dX11_layHeaps_65 : decode cX11_layHeaps 65 = .ok (.iload_n 2, 1) := by decide +kernel
theorem dX11_layHeaps_66 : decode cX11_layHeaps 66 = .ok (.iaload, 1) := by decide +kernel
theorem dX11_layHeaps_67 : decode cX11_layHeaps 67 = .ok (.if_icmp .ge 26, 3) := by decide +kernel
theorem dX11_layHeaps_70 : decode cX11_layHeaps 70 = .ok (.aload_n 0, 1) := by decide +kernel
theorem dX11_layHeaps_71 : decode cX11_layHeaps 71 = .ok (.iload_n 2, 1) := by decide +kernel
theorem dX11_layHeaps_72 : decode cX11_layHeaps 72 = .ok (.iload_n 3, 1) := by decide +kernel
theorem dX11_layHeaps_73 : decode cX11_layHeaps 73 = .ok (.invokevirtual 105, 3) := by decide +kernel
theorem dX11_layHeaps_76 : decode cX11_layHeaps 76 = .ok (.ifCond .eq 17, 3) := by decide +kernel
theorem dX11_layHeaps_79 : decode cX11_layHeaps 79 = .ok (.aload_n 0, 1) := by decide +kernel
theorem dX11_layHeaps_80 : decode cX11_layHeaps 80 = .ok (.getfield 50, 3) := by decide +kernel
theorem dX11_layHeaps_83 : decode cX11_layHeaps 83 = .ok (.iload_n 2, 1) := by decide +kernel
theorem dX11_layHeaps_84 : decode cX11_layHeaps 84 = .ok (.aload_n 0, 1) := by decide +kernel
theorem dX11_layHeaps_85 : decode cX11_layHeaps 85 = .ok (.getfield 50, 3) := by decide +kernel
theorem dX11_layHeaps_88 : decode cX11_layHeaps 88 = .ok (.iload_n 3, 1) := by decide +kernel
theorem dX11_layHeaps_89 : decode cX11_layHeaps 89 = .ok (.iaload, 1) := by decide +kernel
theorem dX11_layHeaps_90 : decode cX11_layHeaps 90 = .ok (.iastore, 1) := by decide +kernel
theorem dX11_layHeaps_91 : decode cX11_layHeaps 91 = .ok (.iconst 1, 1) := by decide +kernel
theorem dX11_layHeaps_92 : decode cX11_layHeaps 92 = .ok (.istore_n 1, 1) := by decide +kernel
theorem dX11_layHeaps_93 : decode cX11_layHeaps 93 = .ok (.iinc 3 1, 3) := by decide +kernel
theorem dX11_layHeaps_96 : decode cX11_layHeaps 96 = .ok (.goto (-49), 3) := by decide +kernel
theorem dX11_layHeaps_99 : decode cX11_layHeaps 99 = .ok (.iinc 2 1, 3) := by decide +kernel
theorem dX11_layHeaps_102 : decode cX11_layHeaps 102 = .ok (.goto (-65), 3) := by decide +kernel
theorem dX11_layHeaps_105 : decode cX11_layHeaps 105 = .ok (.goto (-76), 3) := by decide +kernel
theorem dX11_layHeaps_108 : decode cX11_layHeaps 108 = .ok (.return_, 1) := by decide +kernel
theorem dX11_begins_0 : decode cX11_begins 0 = .ok (.aload_n 0, 1) := by decide +kernel
theorem dX11_begins_1 : decode cX11_begins 1 = .ok (.getfield 41, 3) := by decide +kernel
theorem dX11_begins_4 : decode cX11_begins 4 = .ok (.iload_n 1, 1) := by decide +kernel
theorem dX11_begins_5 : decode cX11_begins 5 = .ok (.iaload, 1) := by decide +kernel
theorem dX11_begins_6 : decode cX11_begins 6 = .ok (.iconst 1, 1) := by decide +kernel
theorem dX11_begins_7 : decode cX11_begins 7 = .ok (.if_icmp .ne 17, 3) := by decide +kernel
theorem dX11_begins_10 : decode cX11_begins 10 = .ok (.aload_n 0, 1) := by decide +kernel
theorem dX11_begins_11 : decode cX11_begins 11 = .ok (.getfield 50, 3) := by decide +kernel
theorem dX11_begins_14 : decode cX11_begins 14 = .ok (.iload_n 1, 1) := by decide +kernel
theorem dX11_begins_15 : decode cX11_begins 15 = .ok (.iaload, 1) := by decide +kernel
theorem dX11_begins_16 : decode cX11_begins 16 = .ok (.iload_n 1, 1) := by decide +kernel
theorem dX11_begins_17 : decode cX11_begins 17 = .ok (.if_icmp .ne 7, 3) := by decide +kernel
theorem dX11_begins_20 : decode cX11_begins 20 = .ok (.iconst 1, 1) := by decide +kernel
theorem dX11_begins_21 : decode cX11_begins 21 = .ok (.goto 4, 3) := by decide +kernel
theorem dX11_begins_24 : decode cX11_begins 24 = .ok (.iconst 0, 1) := by decide +kernel
theorem dX11_begins_25 : decode cX11_begins 25 = .ok (.ireturn, 1) := by decide +kernel
theorem dX11_stories_0 : decode cX11_stories 0 = .ok (.aload_n 0, 1) := by decide +kernel
theorem dX11_stories_1 : decode cX11_stories 1 = .ok (.invokevirtual 108, 3) := by decide +kernel
theorem dX11_stories_4 : decode cX11_stories 4 = .ok (.iconst 0, 1) := by decide +kernel
theorem dX11_stories_5 : decode cX11_stories 5 = .ok (.istore_n 1, 1) := by decide +kernel
theorem dX11_stories_6 : decode cX11_stories 6 = .ok (.iconst 0, 1) := by decide +kernel
theorem dX11_stories_7 : decode cX11_stories 7 = .ok (.istore_n 2, 1) := by decide +kernel
theorem dX11_stories_8 : decode cX11_stories 8 = .ok (.iload_n 2, 1) := by decide +kernel
theorem dX11_stories_9 : decode cX11_stories 9 = .ok (.aload_n 0, 1) := by decide +kernel
theorem dX11_stories_10 : decode cX11_stories 10 = .ok (.getfield 88, 3) := by decide +kernel
theorem dX11_stories_13 : decode cX11_stories 13 = .ok (.if_icmp .ge 25, 3) := by decide +kernel
theorem dX11_stories_16 : decode cX11_stories 16 = .ok (.iload_n 1, 1) := by decide +kernel
theorem dX11_stories_17 : decode cX11_stories 17 = .ok (.aload_n 0, 1) := by decide +kernel
theorem dX11_stories_18 : decode cX11_stories 18 = .ok (.iload_n 2, 1) := by decide +kernel
theorem dX11_stories_19 : decode cX11_stories 19 = .ok (.invokevirtual 111, 3) := by decide +kernel
theorem dX11_stories_22 : decode cX11_stories 22 = .ok (.ifCond .eq 7, 3) := by decide +kernel
theorem dX11_stories_25 : decode cX11_stories 25 = .ok (.iconst 1, 1) := by decide +kernel
theorem dX11_stories_26 : decode cX11_stories 26 = .ok (.goto 4, 3) := by decide +kernel
theorem dX11_stories_29 : decode cX11_stories 29 = .ok (.iconst 0, 1) := by decide +kernel
theorem dX11_stories_30 : decode cX11_stories 30 = .ok (.iadd, 1) := by decide +kernel
theorem dX11_stories_31 : decode cX11_stories 31 = .ok (.istore_n 1, 1) := by decide +kernel
theorem dX11_stories_32 : decode cX11_stories 32 = .ok (.iinc 2 1, 3) := by decide +kernel
theorem dX11_stories_35 : decode cX11_stories 35 = .ok (.goto (-27), 3) := by decide +kernel
theorem dX11_stories_38 : decode cX11_stories 38 = .ok (.iload_n 1, 1) := by decide +kernel
theorem dX11_stories_39 : decode cX11_stories 39 = .ok (.ireturn, 1) := by decide +kernel
theorem dX11_storyOf_0 : decode cX11_storyOf 0 = .ok (.iconst (-1), 1) := by decide +kernel
theorem dX11_storyOf_1 : decode cX11_storyOf 1 = .ok (.istore_n 2, 1) := by decide +kernel
theorem dX11_storyOf_2 : decode cX11_storyOf 2 = .ok (.iconst 0, 1) := by decide +kernel
theorem dX11_storyOf_3 : decode cX11_storyOf 3 = .ok (.istore_n 3, 1) := by decide +kernel
theorem dX11_storyOf_4 : decode cX11_storyOf 4 = .ok (.iload_n 3, 1) := by decide +kernel
theorem dX11_storyOf_5 : decode cX11_storyOf 5 = .ok (.aload_n 0, 1) := by decide +kernel
theorem dX11_storyOf_6 : decode cX11_storyOf 6 = .ok (.getfield 50, 3) := by decide +kernel
theorem dX11_storyOf_9 : decode cX11_storyOf 9 = .ok (.iload_n 1, 1) := by decide +kernel
theorem dX11_storyOf_10 : decode cX11_storyOf 10 = .ok (.iaload, 1) := by decide +kernel
theorem dX11_storyOf_11 : decode cX11_storyOf 11 = .ok (.if_icmp .gt 25, 3) := by decide +kernel
theorem dX11_storyOf_14 : decode cX11_storyOf 14 = .ok (.iload_n 2, 1) := by decide +kernel
theorem dX11_storyOf_15 : decode cX11_storyOf 15 = .ok (.aload_n 0, 1) := by decide +kernel
theorem dX11_storyOf_16 : decode cX11_storyOf 16 = .ok (.iload_n 3, 1) := by decide +kernel
theorem dX11_storyOf_17 : decode cX11_storyOf 17 = .ok (.invokevirtual 111, 3) := by decide +kernel
theorem dX11_storyOf_20 : decode cX11_storyOf 20 = .ok (.ifCond .eq 7, 3) := by decide +kernel
theorem dX11_storyOf_23 : decode cX11_storyOf 23 = .ok (.iconst 1, 1) := by decide +kernel
theorem dX11_storyOf_24 : decode cX11_storyOf 24 = .ok (.goto 4, 3) := by decide +kernel
theorem dX11_storyOf_27 : decode cX11_storyOf 27 = .ok (.iconst 0, 1) := by decide +kernel
theorem dX11_storyOf_28 : decode cX11_storyOf 28 = .ok (.iadd, 1) := by decide +kernel
theorem dX11_storyOf_29 : decode cX11_storyOf 29 = .ok (.istore_n 2, 1) := by decide +kernel
theorem dX11_storyOf_30 : decode cX11_storyOf 30 = .ok (.iinc 3 1, 3) := by decide +kernel
theorem dX11_storyOf_33 : decode cX11_storyOf 33 = .ok (.goto (-29), 3) := by decide +kernel
theorem dX11_storyOf_36 : decode cX11_storyOf 36 = .ok (.aload_n 0, 1) := by decide +kernel
theorem dX11_storyOf_37 : decode cX11_storyOf 37 = .ok (.getfield 41, 3) := by decide +kernel
theorem dX11_storyOf_40 : decode cX11_storyOf 40 = .ok (.iload_n 1, 1) := by decide +kernel
theorem dX11_storyOf_41 : decode cX11_storyOf 41 = .ok (.iaload, 1) := by decide +kernel
theorem dX11_storyOf_42 : decode cX11_storyOf 42 = .ok (.iconst 1, 1) := by decide +kernel
theorem dX11_storyOf_43 : decode cX11_storyOf 43 = .ok (.if_icmp .le 7, 3) := by decide +kernel
theorem dX11_storyOf_46 : decode cX11_storyOf 46 = .ok (.iconst (-1), 1) := by decide +kernel
theorem dX11_storyOf_47 : decode cX11_storyOf 47 = .ok (.goto 4, 3) := by decide +kernel
theorem dX11_storyOf_50 : decode cX11_storyOf 50 = .ok (.iload_n 2, 1) := by decide +kernel
theorem dX11_storyOf_51 : decode cX11_storyOf 51 = .ok (.ireturn, 1) := by decide +kernel
theorem dX11_isFigure_0 : decode cX11_isFigure 0 = .ok (.iload_n 0, 1) := by decide +kernel
theorem dX11_isFigure_1 : decode cX11_isFigure 1 = .ok (.i2l, 1) := by decide +kernel
theorem dX11_isFigure_2 : decode cX11_isFigure 2 = .ok (.ldc2_w 115, 3) := by decide +kernel
theorem dX11_isFigure_5 : decode cX11_isFigure 5 = .ok (.ldc2_w 117, 3) := by decide +kernel
theorem dX11_isFigure_8 : decode cX11_isFigure 8 = .ok (.invokestatic 94, 3) := by decide +kernel
theorem dX11_isFigure_11 : decode cX11_isFigure 11 = .ok (.ireturn, 1) := by decide +kernel
theorem dX11_dayAt_0 : decode cX11_dayAt 0 = .ok (.iload_n 1, 1) := by decide +kernel
theorem dX11_dayAt_1 : decode cX11_dayAt 1 = .ok (.iconst 1, 1) := by decide +kernel
theorem dX11_dayAt_2 : decode cX11_dayAt 2 = .ok (.iadd, 1) := by decide +kernel
theorem dX11_dayAt_3 : decode cX11_dayAt 3 = .ok (.aload_n 0, 1) := by decide +kernel
theorem dX11_dayAt_4 : decode cX11_dayAt 4 = .ok (.getfield 119, 3) := by decide +kernel
theorem dX11_dayAt_7 : decode cX11_dayAt 7 = .ok (.if_icmp .ge 14, 3) := by decide +kernel
theorem dX11_dayAt_10 : decode cX11_dayAt 10 = .ok (.aload_n 0, 1) := by decide +kernel
theorem dX11_dayAt_11 : decode cX11_dayAt 11 = .ok (.getfield 16, 3) := by decide +kernel
theorem dX11_dayAt_14 : decode cX11_dayAt 14 = .ok (.iload_n 1, 1) := by decide +kernel
theorem dX11_dayAt_15 : decode cX11_dayAt 15 = .ok (.iconst 1, 1) := by decide +kernel
theorem dX11_dayAt_16 : decode cX11_dayAt 16 = .ok (.iadd, 1) := by decide +kernel
theorem dX11_dayAt_17 : decode cX11_dayAt 17 = .ok (.iaload, 1) := by decide +kernel
theorem dX11_dayAt_18 : decode cX11_dayAt 18 = .ok (.goto 4, 3) := by decide +kernel
theorem dX11_dayAt_21 : decode cX11_dayAt 21 = .ok (.iconst (-1), 1) := by decide +kernel
theorem dX11_dayAt_22 : decode cX11_dayAt 22 = .ok (.istore_n 2, 1) := by decide +kernel
theorem dX11_dayAt_23 : decode cX11_dayAt 23 = .ok (.aload_n 0, 1) := by decide +kernel
theorem dX11_dayAt_24 : decode cX11_dayAt 24 = .ok (.getfield 16, 3) := by decide +kernel
theorem dX11_dayAt_27 : decode cX11_dayAt 27 = .ok (.iload_n 1, 1) := by decide +kernel
theorem dX11_dayAt_28 : decode cX11_dayAt 28 = .ok (.iaload, 1) := by decide +kernel
theorem dX11_dayAt_29 : decode cX11_dayAt 29 = .ok (.bipush 49, 2) := by decide +kernel
theorem dX11_dayAt_31 : decode cX11_dayAt 31 = .ok (.if_icmp .ne 19, 3) := by decide +kernel
theorem dX11_dayAt_34 : decode cX11_dayAt 34 = .ok (.iload_n 2, 1) := by decide +kernel
theorem dX11_dayAt_35 : decode cX11_dayAt 35 = .ok (.bipush 48, 2) := by decide +kernel
theorem dX11_dayAt_37 : decode cX11_dayAt 37 = .ok (.if_icmp .eq 9, 3) := by decide +kernel
theorem dX11_dayAt_40 : decode cX11_dayAt 40 = .ok (.iload_n 2, 1) := by decide +kernel
theorem dX11_dayAt_41 : decode cX11_dayAt 41 = .ok (.bipush 49, 2) := by decide +kernel
theorem dX11_dayAt_43 : decode cX11_dayAt 43 = .ok (.if_icmp .ne 7, 3) := by decide +kernel
theorem dX11_dayAt_46 : decode cX11_dayAt 46 = .ok (.iconst 1, 1) := by decide +kernel
theorem dX11_dayAt_47 : decode cX11_dayAt 47 = .ok (.goto 4, 3) := by decide +kernel
theorem dX11_dayAt_50 : decode cX11_dayAt 50 = .ok (.iconst 0, 1) := by decide +kernel
theorem dX11_dayAt_51 : decode cX11_dayAt 51 = .ok (.istore_n 3, 1) := by decide +kernel
theorem dX11_dayAt_52 : decode cX11_dayAt 52 = .ok (.iload_n 3, 1) := by decide +kernel
theorem dX11_dayAt_53 : decode cX11_dayAt 53 = .ok (.ifCond .eq 13, 3) := by decide +kernel
theorem dX11_dayAt_56 : decode cX11_dayAt 56 = .ok (.bipush 10, 2) := by decide +kernel
theorem dX11_dayAt_58 : decode cX11_dayAt 58 = .ok (.iload_n 2, 1) := by decide +kernel
theorem dX11_dayAt_59 : decode cX11_dayAt 59 = .ok (.iadd, 1) := by decide +kernel
theorem dX11_dayAt_60 : decode cX11_dayAt 60 = .ok (.bipush 48, 2) := by decide +kernel
theorem dX11_dayAt_62 : decode cX11_dayAt 62 = .ok (.isub, 1) := by decide +kernel
theorem dX11_dayAt_63 : decode cX11_dayAt 63 = .ok (.goto 12, 3) := by decide +kernel
theorem dX11_dayAt_66 : decode cX11_dayAt 66 = .ok (.aload_n 0, 1) := by decide +kernel
theorem dX11_dayAt_67 : decode cX11_dayAt 67 = .ok (.getfield 16, 3) := by decide +kernel
theorem dX11_dayAt_70 : decode cX11_dayAt 70 = .ok (.iload_n 1, 1) := by decide +kernel
theorem dX11_dayAt_71 : decode cX11_dayAt 71 = .ok (.iaload, 1) := by decide +kernel
theorem dX11_dayAt_72 : decode cX11_dayAt 72 = .ok (.bipush 48, 2) := by decide +kernel
theorem dX11_dayAt_74 : decode cX11_dayAt 74 = .ok (.isub, 1) := by decide +kernel
theorem dX11_dayAt_75 : decode cX11_dayAt 75 = .ok (.ireturn, 1) := by decide +kernel
theorem dX11_faultOf_0 : decode cX11_faultOf 0 = .ok (.aload_n 0, 1) := by decide +kernel
theorem dX11_faultOf_1 : decode cX11_faultOf 1 = .ok (.getfield 16, 3) := by decide +kernel
theorem dX11_faultOf_4 : decode cX11_faultOf 4 = .ok (.iload_n 1, 1) := by decide +kernel
theorem dX11_faultOf_5 : decode cX11_faultOf 5 = .ok (.iaload, 1) := by decide +kernel
theorem dX11_faultOf_6 : decode cX11_faultOf 6 = .ok (.istore_n 2, 1) := by decide +kernel
theorem dX11_faultOf_7 : decode cX11_faultOf 7 = .ok (.aload_n 0, 1) := by decide +kernel
theorem dX11_faultOf_8 : decode cX11_faultOf 8 = .ok (.getfield 122, 3) := by decide +kernel
theorem dX11_faultOf_11 : decode cX11_faultOf 11 = .ok (.tableswitch 112 0 2 #[25, 76, 100], 25) := by decide +kernel
theorem dX11_faultOf_36 : decode cX11_faultOf 36 = .ok (.iload_n 2, 1) := by decide +kernel
theorem dX11_faultOf_37 : decode cX11_faultOf 37 = .ok (.invokestatic 125, 3) := by decide +kernel
theorem dX11_faultOf_40 : decode cX11_faultOf 40 = .ok (.ifCond .ne 7, 3) := by decide +kernel
theorem dX11_faultOf_43 : decode cX11_faultOf 43 = .ok (.iconst 1, 1) := by decide +kernel
theorem dX11_faultOf_44 : decode cX11_faultOf 44 = .ok (.goto 42, 3) := by decide +kernel
theorem dX11_faultOf_47 : decode cX11_faultOf 47 = .ok (.aload_n 0, 1) := by decide +kernel
theorem dX11_faultOf_48 : decode cX11_faultOf 48 = .ok (.iload_n 1, 1) := by decide +kernel
theorem dX11_faultOf_49 : decode cX11_faultOf 49 = .ok (.invokevirtual 128, 3) := by decide +kernel
theorem dX11_faultOf_52 : decode cX11_faultOf 52 = .ok (.aload_n 0, 1) := by decide +kernel
theorem dX11_faultOf_53 : decode cX11_faultOf 53 = .ok (.getfield 7, 3) := by decide +kernel
theorem dX11_faultOf_56 : decode cX11_faultOf 56 = .ok (.iconst 0, 1) := by decide +kernel
theorem dX11_faultOf_57 : decode cX11_faultOf 57 = .ok (.iaload, 1) := by decide +kernel
theorem dX11_faultOf_58 : decode cX11_faultOf 58 = .ok (.if_icmp .lt 7, 3) := by decide +kernel
theorem dX11_faultOf_61 : decode cX11_faultOf 61 = .ok (.iconst 2, 1) := by decide +kernel
theorem dX11_faultOf_62 : decode cX11_faultOf 62 = .ok (.goto 24, 3) := by decide +kernel
theorem dX11_faultOf_65 : decode cX11_faultOf 65 = .ok (.aload_n 0, 1) := by decide +kernel
theorem dX11_faultOf_66 : decode cX11_faultOf 66 = .ok (.getfield 7, 3) := by decide +kernel
theorem dX11_faultOf_69 : decode cX11_faultOf 69 = .ok (.iconst 1, 1) := by decide +kernel
theorem dX11_faultOf_70 : decode cX11_faultOf 70 = .ok (.iaload, 1) := by decide +kernel
theorem dX11_faultOf_71 : decode cX11_faultOf 71 = .ok (.aload_n 0, 1) := by decide +kernel
theorem dX11_faultOf_72 : decode cX11_faultOf 72 = .ok (.getfield 132, 3) := by decide +kernel
theorem dX11_faultOf_75 : decode cX11_faultOf 75 = .ok (.iadd, 1) := by decide +kernel
theorem dX11_faultOf_76 : decode cX11_faultOf 76 = .ok (.bipush 40, 2) := by decide +kernel
theorem dX11_faultOf_78 : decode cX11_faultOf 78 = .ok (.if_icmp .ne 7, 3) := by decide +kernel
theorem dX11_faultOf_81 : decode cX11_faultOf 81 = .ok (.iconst 3, 1) := by decide +kernel
theorem dX11_faultOf_82 : decode cX11_faultOf 82 = .ok (.goto 4, 3) := by decide +kernel
theorem dX11_faultOf_85 : decode cX11_faultOf 85 = .ok (.iconst 0, 1) := by decide +kernel
theorem dX11_faultOf_86 : decode cX11_faultOf 86 = .ok (.ireturn, 1) := by decide +kernel
theorem dX11_faultOf_87 : decode cX11_faultOf 87 = .ok (.iload_n 2, 1) := by decide +kernel
theorem dX11_faultOf_88 : decode cX11_faultOf 88 = .ok (.bipush 48, 2) := by decide +kernel
theorem dX11_faultOf_90 : decode cX11_faultOf 90 = .ok (.if_icmp .eq 15, 3) := by decide +kernel
theorem dX11_faultOf_93 : decode cX11_faultOf 93 = .ok (.iload_n 2, 1) := by decide +kernel
theorem dX11_faultOf_94 : decode cX11_faultOf 94 = .ok (.bipush 49, 2) := by decide +kernel
theorem dX11_faultOf_96 : decode cX11_faultOf 96 = .ok (.if_icmp .eq 9, 3) := by decide +kernel
theorem dX11_faultOf_99 : decode cX11_faultOf 99 = .ok (.iload_n 2, 1) := by decide +kernel
theorem dX11_faultOf_100 : decode cX11_faultOf 100 = .ok (.bipush 58, 2) := by decide +kernel
theorem dX11_faultOf_102 : decode cX11_faultOf 102 = .ok (.if_icmp .ne 7, 3) := by decide +kernel
theorem dX11_faultOf_105 : decode cX11_faultOf 105 = .ok (.iconst 0, 1) := by decide +kernel
theorem dX11_faultOf_106 : decode cX11_faultOf 106 = .ok (.goto 4, 3) := by decide +kernel
theorem dX11_faultOf_109 : decode cX11_faultOf 109 = .ok (.iconst 1, 1) := by decide +kernel
theorem dX11_faultOf_110 : decode cX11_faultOf 110 = .ok (.ireturn, 1) := by decide +kernel
theorem dX11_faultOf_111 : decode cX11_faultOf 111 = .ok (.iload_n 2, 1) := by decide +kernel
theorem dX11_faultOf_112 : decode cX11_faultOf 112 = .ok (.bipush 58, 2) := by decide +kernel
theorem dX11_faultOf_114 : decode cX11_faultOf 114 = .ok (.if_icmp .ne 7, 3) := by decide +kernel
theorem dX11_faultOf_117 : decode cX11_faultOf 117 = .ok (.iconst 0, 1) := by decide +kernel
theorem dX11_faultOf_118 : decode cX11_faultOf 118 = .ok (.goto 4, 3) := by decide +kernel
theorem dX11_faultOf_121 : decode cX11_faultOf 121 = .ok (.iconst 1, 1) := by decide +kernel
theorem dX11_faultOf_122 : decode cX11_faultOf 122 = .ok (.ireturn, 1) := by decide +kernel
theorem dX11_faultOf_123 : decode cX11_faultOf 123 = .ok (.iload_n 2, 1) := by decide +kernel
theorem dX11_faultOf_124 : decode cX11_faultOf 124 = .ok (.i2l, 1) := by decide +kernel
theorem dX11_faultOf_125 : decode cX11_faultOf 125 = .ok (.ldc2_w 135, 3) := by decide +kernel
theorem dX11_faultOf_128 : decode cX11_faultOf 128 = .ok (.ldc2_w 137, 3) := by decide +kernel
theorem dX11_faultOf_131 : decode cX11_faultOf 131 = .ok (.invokestatic 94, 3) := by decide +kernel
theorem dX11_faultOf_134 : decode cX11_faultOf 134 = .ok (.ifCond .ne 9, 3) := by decide +kernel
theorem dX11_faultOf_137 : decode cX11_faultOf 137 = .ok (.iload_n 2, 1) := by decide +kernel
theorem dX11_faultOf_138 : decode cX11_faultOf 138 = .ok (.bipush 59, 2) := by decide +kernel
theorem dX11_faultOf_140 : decode cX11_faultOf 140 = .ok (.if_icmp .ne 7, 3) := by decide +kernel
theorem dX11_faultOf_143 : decode cX11_faultOf 143 = .ok (.iconst 0, 1) := by decide +kernel
theorem dX11_faultOf_144 : decode cX11_faultOf 144 = .ok (.goto 4, 3) := by decide +kernel
theorem dX11_faultOf_147 : decode cX11_faultOf 147 = .ok (.iconst 1, 1) := by decide +kernel
theorem dX11_faultOf_148 : decode cX11_faultOf 148 = .ok (.ireturn, 1) := by decide +kernel
theorem dX11_goOn_0 : decode cX11_goOn 0 = .ok (.aload_n 0, 1) := by decide +kernel
theorem dX11_goOn_1 : decode cX11_goOn 1 = .ok (.getfield 16, 3) := by decide +kernel
theorem dX11_goOn_4 : decode cX11_goOn 4 = .ok (.iload_n 1, 1) := by decide +kernel
theorem dX11_goOn_5 : decode cX11_goOn 5 = .ok (.iaload, 1) := by decide +kernel
theorem dX11_goOn_6 : decode cX11_goOn 6 = .ok (.istore_n 2, 1) := by decide +kernel
theorem dX11_goOn_7 : decode cX11_goOn 7 = .ok (.aload_n 0, 1) := by decide +kernel
theorem dX11_goOn_8 : decode cX11_goOn 8 = .ok (.getfield 122, 3) := by decide +kernel
theorem dX11_goOn_11 : decode cX11_goOn 11 = .ok (.ifCond .ne 45, 3) := by decide +kernel
theorem dX11_goOn_14 : decode cX11_goOn 14 = .ok (.aload_n 0, 1) := by decide +kernel
theorem dX11_goOn_15 : decode cX11_goOn 15 = .ok (.getfield 53, 3) := by decide +kernel
theorem dX11_goOn_18 : decode cX11_goOn 18 = .ok (.aload_n 0, 1) := by decide +kernel
theorem dX11_goOn_19 : decode cX11_goOn 19 = .ok (.getfield 132, 3) := by decide +kernel
theorem dX11_goOn_22 : decode cX11_goOn 22 = .ok (.aload_n 0, 1) := by decide +kernel
theorem dX11_goOn_23 : decode cX11_goOn 23 = .ok (.iload_n 1, 1) := by decide +kernel
theorem dX11_goOn_24 : decode cX11_goOn 24 = .ok (.invokevirtual 128, 3) := by decide +kernel
theorem dX11_goOn_27 : decode cX11_goOn 27 = .ok (.iastore, 1) := by decide +kernel
theorem dX11_goOn_28 : decode cX11_goOn 28 = .ok (.aload_n 0, 1) := by decide +kernel
theorem dX11_goOn_29 : decode cX11_goOn 29 = .ok (.getfield 56, 3) := by decide +kernel
theorem dX11_goOn_32 : decode cX11_goOn 32 = .ok (.aload_n 0, 1) := by decide +kernel
theorem dX11_goOn_33 : decode cX11_goOn 33 = .ok (.getfield 132, 3) := by decide +kernel
theorem dX11_goOn_36 : decode cX11_goOn 36 = .ok (.iconst 0, 1) := by decide +kernel
theorem dX11_goOn_37 : decode cX11_goOn 37 = .ok (.iastore, 1) := by decide +kernel
theorem dX11_goOn_38 : decode cX11_goOn 38 = .ok (.aload_n 0, 1) := by decide +kernel
theorem dX11_goOn_39 : decode cX11_goOn 39 = .ok (.iload_n 2, 1) := by decide +kernel
theorem dX11_goOn_40 : decode cX11_goOn 40 = .ok (.bipush 49, 2) := by decide +kernel
theorem dX11_goOn_42 : decode cX11_goOn 42 = .ok (.if_icmp .ne 7, 3) := by decide +kernel
theorem dX11_goOn_45 : decode cX11_goOn 45 = .ok (.iconst 1, 1) := by decide +kernel
theorem dX11_goOn_46 : decode cX11_goOn 46 = .ok (.goto 4, 3) := by decide +kernel
theorem dX11_goOn_49 : decode cX11_goOn 49 = .ok (.iconst 2, 1) := by decide +kernel
theorem dX11_goOn_50 : decode cX11_goOn 50 = .ok (.putfield 122, 3) := by decide +kernel
theorem dX11_goOn_53 : decode cX11_goOn 53 = .ok (.goto 71, 3) := by decide +kernel
theorem dX11_goOn_56 : decode cX11_goOn 56 = .ok (.aload_n 0, 1) := by decide +kernel
theorem dX11_goOn_57 : decode cX11_goOn 57 = .ok (.getfield 122, 3) := by decide +kernel
theorem dX11_goOn_60 : decode cX11_goOn 60 = .ok (.iconst 3, 1) := by decide +kernel
theorem dX11_goOn_61 : decode cX11_goOn 61 = .ok (.if_icmp .ge 21, 3) := by decide +kernel
theorem dX11_goOn_64 : decode cX11_goOn 64 = .ok (.aload_n 0, 1) := by decide +kernel
theorem dX11_goOn_65 : decode cX11_goOn 65 = .ok (.iload_n 2, 1) := by decide +kernel
theorem dX11_goOn_66 : decode cX11_goOn 66 = .ok (.bipush 58, 2) := by decide +kernel
theorem dX11_goOn_68 : decode cX11_goOn 68 = .ok (.if_icmp .ne 7, 3) := by decide +kernel
theorem dX11_goOn_71 : decode cX11_goOn 71 = .ok (.iconst 3, 1) := by decide +kernel
theorem dX11_goOn_72 : decode cX11_goOn 72 = .ok (.goto 4, 3) := by decide +kernel
theorem dX11_goOn_75 : decode cX11_goOn 75 = .ok (.iconst 2, 1) := by decide +kernel
theorem dX11_goOn_76 : decode cX11_goOn 76 = .ok (.putfield 122, 3) := by decide +kernel
theorem dX11_goOn_79 : decode cX11_goOn 79 = .ok (.goto 45, 3) := by decide +kernel
theorem dX11_goOn_82 : decode cX11_goOn 82 = .ok (.iload_n 2, 1) := by decide +kernel
theorem dX11_goOn_83 : decode cX11_goOn 83 = .ok (.bipush 59, 2) := by decide +kernel
theorem dX11_goOn_85 : decode cX11_goOn 85 = .ok (.if_icmp .ne 21, 3) := by decide +kernel
theorem dX11_goOn_88 : decode cX11_goOn 88 = .ok (.aload_n 0, 1) := by decide +kernel
theorem dX11_goOn_89 : decode cX11_goOn 89 = .ok (.dup, 1) := by decide +kernel
theorem dX11_goOn_90 : decode cX11_goOn 90 = .ok (.getfield 132, 3) := by decide +kernel
theorem dX11_goOn_93 : decode cX11_goOn 93 = .ok (.iconst 1, 1) := by decide +kernel
theorem dX11_goOn_94 : decode cX11_goOn 94 = .ok (.iadd, 1) := by decide +kernel
theorem dX11_goOn_95 : decode cX11_goOn 95 = .ok (.putfield 132, 3) := by decide +kernel
theorem dX11_goOn_98 : decode cX11_goOn 98 = .ok (.aload_n 0, 1) := by decide +kernel
theorem dX11_goOn_99 : decode cX11_goOn 99 = .ok (.iconst 0, 1) := by decide +kernel
theorem dX11_goOn_100 : decode cX11_goOn 100 = .ok (.putfield 122, 3) := by decide +kernel
theorem dX11_goOn_103 : decode cX11_goOn 103 = .ok (.goto 21, 3) := by decide +kernel
theorem dX11_goOn_106 : decode cX11_goOn 106 = .ok (.aload_n 0, 1) := by decide +kernel
theorem dX11_goOn_107 : decode cX11_goOn 107 = .ok (.getfield 56, 3) := by decide +kernel
theorem dX11_goOn_110 : decode cX11_goOn 110 = .ok (.aload_n 0, 1) := by decide +kernel
theorem dX11_goOn_111 : decode cX11_goOn 111 = .ok (.getfield 132, 3) := by decide +kernel
theorem dX11_goOn_114 : decode cX11_goOn 114 = .ok (.dup2, 1) := by decide +kernel
theorem dX11_goOn_115 : decode cX11_goOn 115 = .ok (.iaload, 1) := by decide +kernel
theorem dX11_goOn_116 : decode cX11_goOn 116 = .ok (.iconst 1, 1) := by decide +kernel
theorem dX11_goOn_117 : decode cX11_goOn 117 = .ok (.iload_n 2, 1) := by decide +kernel
theorem dX11_goOn_118 : decode cX11_goOn 118 = .ok (.bipush 97, 2) := by decide +kernel
theorem dX11_goOn_120 : decode cX11_goOn 120 = .ok (.isub, 1) := by decide +kernel
theorem dX11_goOn_121 : decode cX11_goOn 121 = .ok (.ishl, 1) := by decide +kernel
theorem dX11_goOn_122 : decode cX11_goOn 122 = .ok (.ior, 1) := by decide +kernel
theorem dX11_goOn_123 : decode cX11_goOn 123 = .ok (.iastore, 1) := by decide +kernel
theorem dX11_goOn_124 : decode cX11_goOn 124 = .ok (.return_, 1) := by decide +kernel
theorem dX11_readText_0 : decode cX11_readText 0 = .ok (.aload_n 0, 1) := by decide +kernel
theorem dX11_readText_1 : decode cX11_readText 1 = .ok (.iconst 0, 1) := by decide +kernel
theorem dX11_readText_2 : decode cX11_readText 2 = .ok (.putfield 122, 3) := by decide +kernel
theorem dX11_readText_5 : decode cX11_readText 5 = .ok (.aload_n 0, 1) := by decide +kernel
theorem dX11_readText_6 : decode cX11_readText 6 = .ok (.iconst 0, 1) := by decide +kernel
theorem dX11_readText_7 : decode cX11_readText 7 = .ok (.putfield 132, 3) := by decide +kernel
theorem dX11_readText_10 : decode cX11_readText 10 = .ok (.iconst 0, 1) := by decide +kernel
theorem dX11_readText_11 : decode cX11_readText 11 = .ok (.istore_n 1, 1) := by decide +kernel
theorem dX11_readText_12 : decode cX11_readText 12 = .ok (.iload_n 1, 1) := by decide +kernel
theorem dX11_readText_13 : decode cX11_readText 13 = .ok (.aload_n 0, 1) := by decide +kernel
theorem dX11_readText_14 : decode cX11_readText 14 = .ok (.getfield 119, 3) := by decide +kernel
theorem dX11_readText_17 : decode cX11_readText 17 = .ok (.if_icmp .ge 31, 3) := by decide +kernel
theorem dX11_readText_20 : decode cX11_readText 20 = .ok (.aload_n 0, 1) := by decide +kernel
theorem dX11_readText_21 : decode cX11_readText 21 = .ok (.iload_n 1, 1) := by decide +kernel
theorem dX11_readText_22 : decode cX11_readText 22 = .ok (.invokevirtual 139, 3) := by decide +kernel
theorem dX11_readText_25 : decode cX11_readText 25 = .ok (.istore_n 2, 1) := by decide +kernel
theorem dX11_readText_26 : decode cX11_readText 26 = .ok (.iload_n 2, 1) := by decide +kernel
theorem dX11_readText_27 : decode cX11_readText 27 = .ok (.ifCond .le 10, 3) := by decide +kernel
theorem dX11_readText_30 : decode cX11_readText 30 = .ok (.aload_n 0, 1) := by decide +kernel
theorem dX11_readText_31 : decode cX11_readText 31 = .ok (.iload_n 1, 1) := by decide +kernel
theorem dX11_readText_32 : decode cX11_readText 32 = .ok (.putfield 19, 3) := by decide +kernel
theorem dX11_readText_35 : decode cX11_readText 35 = .ok (.iload_n 2, 1) := by decide +kernel
theorem dX11_readText_36 : decode cX11_readText 36 = .ok (.ireturn, 1) := by decide +kernel
theorem dX11_readText_37 : decode cX11_readText 37 = .ok (.aload_n 0, 1) := by decide +kernel
theorem dX11_readText_38 : decode cX11_readText 38 = .ok (.iload_n 1, 1) := by decide +kernel
theorem dX11_readText_39 : decode cX11_readText 39 = .ok (.invokevirtual 142, 3) := by decide +kernel
theorem dX11_readText_42 : decode cX11_readText 42 = .ok (.iinc 1 1, 3) := by decide +kernel
theorem dX11_readText_45 : decode cX11_readText 45 = .ok (.goto (-33), 3) := by decide +kernel
theorem dX11_readText_48 : decode cX11_readText 48 = .ok (.aload_n 0, 1) := by decide +kernel
theorem dX11_readText_49 : decode cX11_readText 49 = .ok (.aload_n 0, 1) := by decide +kernel
theorem dX11_readText_50 : decode cX11_readText 50 = .ok (.getfield 122, 3) := by decide +kernel
theorem dX11_readText_53 : decode cX11_readText 53 = .ok (.ifCond .ne 7, 3) := by decide +kernel
theorem dX11_readText_56 : decode cX11_readText 56 = .ok (.iconst (-1), 1) := by decide +kernel
theorem dX11_readText_57 : decode cX11_readText 57 = .ok (.goto 7, 3) := by decide +kernel
theorem dX11_readText_60 : decode cX11_readText 60 = .ok (.aload_n 0, 1) := by decide +kernel
theorem dX11_readText_61 : decode cX11_readText 61 = .ok (.getfield 119, 3) := by decide +kernel
theorem dX11_readText_64 : decode cX11_readText 64 = .ok (.putfield 19, 3) := by decide +kernel
theorem dX11_readText_67 : decode cX11_readText 67 = .ok (.aload_n 0, 1) := by decide +kernel
theorem dX11_readText_68 : decode cX11_readText 68 = .ok (.getfield 122, 3) := by decide +kernel
theorem dX11_readText_71 : decode cX11_readText 71 = .ok (.ifCond .ne 7, 3) := by decide +kernel
theorem dX11_readText_74 : decode cX11_readText 74 = .ok (.iconst 0, 1) := by decide +kernel
theorem dX11_readText_75 : decode cX11_readText 75 = .ok (.goto 4, 3) := by decide +kernel
theorem dX11_readText_78 : decode cX11_readText 78 = .ok (.iconst 1, 1) := by decide +kernel
theorem dX11_readText_79 : decode cX11_readText 79 = .ok (.ireturn, 1) := by decide +kernel
theorem dX11_feed_0 : decode cX11_feed 0 = .ok (.iload_n 1, 1) := by decide +kernel
theorem dX11_feed_1 : decode cX11_feed 1 = .ok (.i2l, 1) := by decide +kernel
theorem dX11_feed_2 : decode cX11_feed 2 = .ok (.lconst 0, 1) := by decide +kernel
theorem dX11_feed_3 : decode cX11_feed 3 = .ok (.ldc2_w 145, 3) := by decide +kernel
theorem dX11_feed_6 : decode cX11_feed 6 = .ok (.invokestatic 94, 3) := by decide +kernel
theorem dX11_feed_9 : decode cX11_feed 9 = .ok (.ifCond .ne 6, 3) := by decide +kernel
theorem dX11_feed_12 : decode cX11_feed 12 = .ok (.ldc 147, 2) := by decide +kernel
theorem dX11_feed_14 : decode cX11_feed 14 = .ok (.ireturn, 1) := by decide +kernel
theorem dX11_feed_15 : decode cX11_feed 15 = .ok (.aload_n 0, 1) := by decide +kernel
theorem dX11_feed_16 : decode cX11_feed 16 = .ok (.getfield 119, 3) := by decide +kernel
theorem dX11_feed_19 : decode cX11_feed 19 = .ok (.bipush 60, 2) := by decide +kernel
theorem dX11_feed_21 : decode cX11_feed 21 = .ok (.if_icmp .ne 6, 3) := by decide +kernel
theorem dX11_feed_24 : decode cX11_feed 24 = .ok (.ldc 148, 2) := by decide +kernel
theorem dX11_feed_26 : decode cX11_feed 26 = .ok (.ireturn, 1) := by decide +kernel
theorem dX11_feed_27 : decode cX11_feed 27 = .ok (.aload_n 0, 1) := by decide +kernel
theorem dX11_feed_28 : decode cX11_feed 28 = .ok (.getfield 16, 3) := by decide +kernel
theorem dX11_feed_31 : decode cX11_feed 31 = .ok (.aload_n 0, 1) := by decide +kernel
theorem dX11_feed_32 : decode cX11_feed 32 = .ok (.getfield 119, 3) := by decide +kernel
theorem dX11_feed_35 : decode cX11_feed 35 = .ok (.iload_n 1, 1) := by decide +kernel
theorem dX11_feed_36 : decode cX11_feed 36 = .ok (.iastore, 1) := by decide +kernel
theorem dX11_feed_37 : decode cX11_feed 37 = .ok (.aload_n 0, 1) := by decide +kernel
theorem dX11_feed_38 : decode cX11_feed 38 = .ok (.dup, 1) := by decide +kernel
theorem dX11_feed_39 : decode cX11_feed 39 = .ok (.getfield 119, 3) := by decide +kernel
theorem dX11_feed_42 : decode cX11_feed 42 = .ok (.iconst 1, 1) := by decide +kernel
theorem dX11_feed_43 : decode cX11_feed 43 = .ok (.iadd, 1) := by decide +kernel
theorem dX11_feed_44 : decode cX11_feed 44 = .ok (.putfield 119, 3) := by decide +kernel
theorem dX11_feed_47 : decode cX11_feed 47 = .ok (.aload_n 0, 1) := by decide +kernel
theorem dX11_feed_48 : decode cX11_feed 48 = .ok (.getfield 119, 3) := by decide +kernel
theorem dX11_feed_51 : decode cX11_feed 51 = .ok (.ireturn, 1) := by decide +kernel
theorem dX11_add_0 : decode cX11_add 0 = .ok (.aload_n 0, 1) := by decide +kernel
theorem dX11_add_1 : decode cX11_add 1 = .ok (.getfield 7, 3) := by decide +kernel
theorem dX11_add_4 : decode cX11_add 4 = .ok (.bipush 6, 2) := by decide +kernel
theorem dX11_add_6 : decode cX11_add 6 = .ok (.aload_n 0, 1) := by decide +kernel
theorem dX11_add_7 : decode cX11_add 7 = .ok (.getfield 7, 3) := by decide +kernel
theorem dX11_add_10 : decode cX11_add 10 = .ok (.iconst 1, 1) := by decide +kernel
theorem dX11_add_11 : decode cX11_add 11 = .ok (.iaload, 1) := by decide +kernel
theorem dX11_add_12 : decode cX11_add 12 = .ok (.iadd, 1) := by decide +kernel
theorem dX11_add_13 : decode cX11_add 13 = .ok (.iload_n 1, 1) := by decide +kernel
theorem dX11_add_14 : decode cX11_add 14 = .ok (.iastore, 1) := by decide +kernel
theorem dX11_add_15 : decode cX11_add 15 = .ok (.aload_n 0, 1) := by decide +kernel
theorem dX11_add_16 : decode cX11_add 16 = .ok (.getfield 7, 3) := by decide +kernel
theorem dX11_add_19 : decode cX11_add 19 = .ok (.bipush 46, 2) := by decide +kernel
theorem dX11_add_21 : decode cX11_add 21 = .ok (.aload_n 0, 1) := by decide +kernel
theorem dX11_add_22 : decode cX11_add 22 = .ok (.getfield 7, 3) := by decide +kernel
theorem dX11_add_25 : decode cX11_add 25 = .ok (.iconst 1, 1) := by decide +kernel
theorem dX11_add_26 : decode cX11_add 26 = .ok (.iaload, 1) := by decide +kernel
theorem dX11_add_27 : decode cX11_add 27 = .ok (.iadd, 1) := by decide +kernel
theorem dX11_add_28 : decode cX11_add 28 = .ok (.iload_n 2, 1) := by decide +kernel
theorem dX11_add_29 : decode cX11_add 29 = .ok (.iastore, 1) := by decide +kernel
theorem dX11_add_30 : decode cX11_add 30 = .ok (.aload_n 0, 1) := by decide +kernel
theorem dX11_add_31 : decode cX11_add 31 = .ok (.getfield 7, 3) := by decide +kernel
theorem dX11_add_34 : decode cX11_add 34 = .ok (.iconst 1, 1) := by decide +kernel
theorem dX11_add_35 : decode cX11_add 35 = .ok (.dup2, 1) := by decide +kernel
theorem dX11_add_36 : decode cX11_add 36 = .ok (.iaload, 1) := by decide +kernel
theorem dX11_add_37 : decode cX11_add 37 = .ok (.iconst 1, 1) := by decide +kernel
theorem dX11_add_38 : decode cX11_add 38 = .ok (.iadd, 1) := by decide +kernel
theorem dX11_add_39 : decode cX11_add 39 = .ok (.iastore, 1) := by decide +kernel
theorem dX11_add_40 : decode cX11_add 40 = .ok (.return_, 1) := by decide +kernel
theorem dX11_pieces_0 : decode cX11_pieces 0 = .ok (.aload_n 0, 1) := by decide +kernel
theorem dX11_pieces_1 : decode cX11_pieces 1 = .ok (.invokevirtual 149, 3) := by decide +kernel
theorem dX11_pieces_4 : decode cX11_pieces 4 = .ok (.istore_n 1, 1) := by decide +kernel
theorem dX11_pieces_5 : decode cX11_pieces 5 = .ok (.aload_n 0, 1) := by decide +kernel
theorem dX11_pieces_6 : decode cX11_pieces 6 = .ok (.iconst 0, 1) := by decide +kernel
theorem dX11_pieces_7 : decode cX11_pieces 7 = .ok (.putfield 119, 3) := by decide +kernel
theorem dX11_pieces_10 : decode cX11_pieces 10 = .ok (.iload_n 1, 1) := by decide +kernel
theorem dX11_pieces_11 : decode cX11_pieces 11 = .ok (.ifCond .le 8, 3) := by decide +kernel
theorem dX11_pieces_14 : decode cX11_pieces 14 = .ok (.bipush (-10), 2) := by decide +kernel
theorem dX11_pieces_16 : decode cX11_pieces 16 = .ok (.iload_n 1, 1) := by decide +kernel
theorem dX11_pieces_17 : decode cX11_pieces 17 = .ok (.isub, 1) := by decide +kernel
theorem dX11_pieces_18 : decode cX11_pieces 18 = .ok (.ireturn, 1) := by decide +kernel
theorem dX11_pieces_19 : decode cX11_pieces 19 = .ok (.aload_n 0, 1) := by decide +kernel
theorem dX11_pieces_20 : decode cX11_pieces 20 = .ok (.invokevirtual 153, 3) := by decide +kernel
theorem dX11_pieces_23 : decode cX11_pieces 23 = .ok (.iconst 0, 1) := by decide +kernel
theorem dX11_pieces_24 : decode cX11_pieces 24 = .ok (.istore_n 2, 1) := by decide +kernel
theorem dX11_pieces_25 : decode cX11_pieces 25 = .ok (.iload_n 2, 1) := by decide +kernel
theorem dX11_pieces_26 : decode cX11_pieces 26 = .ok (.aload_n 0, 1) := by decide +kernel
theorem dX11_pieces_27 : decode cX11_pieces 27 = .ok (.getfield 132, 3) := by decide +kernel
theorem dX11_pieces_30 : decode cX11_pieces 30 = .ok (.if_icmp .ge 25, 3) := by decide +kernel
theorem dX11_pieces_33 : decode cX11_pieces 33 = .ok (.aload_n 0, 1) := by decide +kernel
theorem dX11_pieces_34 : decode cX11_pieces 34 = .ok (.aload_n 0, 1) := by decide +kernel
theorem dX11_pieces_35 : decode cX11_pieces 35 = .ok (.getfield 53, 3) := by decide +kernel
theorem dX11_pieces_38 : decode cX11_pieces 38 = .ok (.iload_n 2, 1) := by decide +kernel
theorem dX11_pieces_39 : decode cX11_pieces 39 = .ok (.iaload, 1) := by decide +kernel
theorem dX11_pieces_40 : decode cX11_pieces 40 = .ok (.aload_n 0, 1) := by decide +kernel
theorem dX11_pieces_41 : decode cX11_pieces 41 = .ok (.getfield 56, 3) := by decide +kernel
theorem dX11_pieces_44 : decode cX11_pieces 44 = .ok (.iload_n 2, 1) := by decide +kernel
theorem dX11_pieces_45 : decode cX11_pieces 45 = .ok (.iaload, 1) := by decide +kernel
theorem dX11_pieces_46 : decode cX11_pieces 46 = .ok (.invokevirtual 156, 3) := by decide +kernel
theorem dX11_pieces_49 : decode cX11_pieces 49 = .ok (.iinc 2 1, 3) := by decide +kernel
theorem dX11_pieces_52 : decode cX11_pieces 52 = .ok (.goto (-27), 3) := by decide +kernel
theorem dX11_pieces_55 : decode cX11_pieces 55 = .ok (.aload_n 0, 1) := by decide +kernel
theorem dX11_pieces_56 : decode cX11_pieces 56 = .ok (.getfield 7, 3) := by decide +kernel
theorem dX11_pieces_59 : decode cX11_pieces 59 = .ok (.iconst 1, 1) := by decide +kernel
theorem dX11_pieces_60 : decode cX11_pieces 60 = .ok (.iaload, 1) := by decide +kernel
theorem dX11_pieces_61 : decode cX11_pieces 61 = .ok (.ireturn, 1) := by decide +kernel
theorem dX11_fault_0 : decode cX11_fault 0 = .ok (.aload_n 0, 1) := by decide +kernel
theorem dX11_fault_1 : decode cX11_fault 1 = .ok (.getfield 19, 3) := by decide +kernel
theorem dX11_fault_4 : decode cX11_fault 4 = .ok (.ireturn, 1) := by decide +kernel
theorem dX11_isDay_0 : decode cX11_isDay 0 = .ok (.iload_n 1, 1) := by decide +kernel
theorem dX11_isDay_1 : decode cX11_isDay 1 = .ok (.i2l, 1) := by decide +kernel
theorem dX11_isDay_2 : decode cX11_isDay 2 = .ok (.lconst 0, 1) := by decide +kernel
theorem dX11_isDay_3 : decode cX11_isDay 3 = .ok (.aload_n 0, 1) := by decide +kernel
theorem dX11_isDay_4 : decode cX11_isDay 4 = .ok (.getfield 7, 3) := by decide +kernel
theorem dX11_isDay_7 : decode cX11_isDay 7 = .ok (.iconst 0, 1) := by decide +kernel
theorem dX11_isDay_8 : decode cX11_isDay 8 = .ok (.iaload, 1) := by decide +kernel
theorem dX11_isDay_9 : decode cX11_isDay 9 = .ok (.iconst 1, 1) := by decide +kernel
theorem dX11_isDay_10 : decode cX11_isDay 10 = .ok (.isub, 1) := by decide +kernel
theorem dX11_isDay_11 : decode cX11_isDay 11 = .ok (.i2l, 1) := by decide +kernel
theorem dX11_isDay_12 : decode cX11_isDay 12 = .ok (.invokestatic 94, 3) := by decide +kernel
theorem dX11_isDay_15 : decode cX11_isDay 15 = .ok (.ireturn, 1) := by decide +kernel
theorem dX11_isWord_0 : decode cX11_isWord 0 = .ok (.iload_n 0, 1) := by decide +kernel
theorem dX11_isWord_1 : decode cX11_isWord 1 = .ok (.i2l, 1) := by decide +kernel
theorem dX11_isWord_2 : decode cX11_isWord 2 = .ok (.lconst 0, 1) := by decide +kernel
theorem dX11_isWord_3 : decode cX11_isWord 3 = .ok (.ldc2_w 159, 3) := by decide +kernel
theorem dX11_isWord_6 : decode cX11_isWord 6 = .ok (.invokestatic 94, 3) := by decide +kernel
theorem dX11_isWord_9 : decode cX11_isWord 9 = .ok (.ireturn, 1) := by decide +kernel
theorem dX11_wrong_0 : decode cX11_wrong 0 = .ok (.iconst 0, 1) := by decide +kernel
theorem dX11_wrong_1 : decode cX11_wrong 1 = .ok (.istore_n 1, 1) := by decide +kernel
theorem dX11_wrong_2 : decode cX11_wrong 2 = .ok (.iload_n 1, 1) := by decide +kernel
theorem dX11_wrong_3 : decode cX11_wrong 3 = .ok (.aload_n 0, 1) := by decide +kernel
theorem dX11_wrong_4 : decode cX11_wrong 4 = .ok (.getfield 161, 3) := by decide +kernel
theorem dX11_wrong_7 : decode cX11_wrong 7 = .ok (.if_icmp .ge 49, 3) := by decide +kernel
theorem dX11_wrong_10 : decode cX11_wrong 10 = .ok (.aload_n 0, 1) := by decide +kernel
theorem dX11_wrong_11 : decode cX11_wrong 11 = .ok (.aload_n 0, 1) := by decide +kernel
theorem dX11_wrong_12 : decode cX11_wrong 12 = .ok (.getfield 26, 3) := by decide +kernel
theorem dX11_wrong_15 : decode cX11_wrong 15 = .ok (.iload_n 1, 1) := by decide +kernel
theorem dX11_wrong_16 : decode cX11_wrong 16 = .ok (.iaload, 1) := by decide +kernel
theorem dX11_wrong_17 : decode cX11_wrong 17 = .ok (.invokevirtual 164, 3) := by decide +kernel
theorem dX11_wrong_20 : decode cX11_wrong 20 = .ok (.ifCond .eq 28, 3) := by decide +kernel
theorem dX11_wrong_23 : decode cX11_wrong 23 = .ok (.aload_n 0, 1) := by decide +kernel
theorem dX11_wrong_24 : decode cX11_wrong 24 = .ok (.aload_n 0, 1) := by decide +kernel
theorem dX11_wrong_25 : decode cX11_wrong 25 = .ok (.getfield 23, 3) := by decide +kernel
theorem dX11_wrong_28 : decode cX11_wrong 28 = .ok (.iload_n 1, 1) := by decide +kernel
theorem dX11_wrong_29 : decode cX11_wrong 29 = .ok (.iaload, 1) := by decide +kernel
theorem dX11_wrong_30 : decode cX11_wrong 30 = .ok (.aload_n 0, 1) := by decide +kernel
theorem dX11_wrong_31 : decode cX11_wrong 31 = .ok (.getfield 26, 3) := by decide +kernel
theorem dX11_wrong_34 : decode cX11_wrong 34 = .ok (.iload_n 1, 1) := by decide +kernel
theorem dX11_wrong_35 : decode cX11_wrong 35 = .ok (.iaload, 1) := by decide +kernel
theorem dX11_wrong_36 : decode cX11_wrong 36 = .ok (.invokevirtual 167, 3) := by decide +kernel
theorem dX11_wrong_39 : decode cX11_wrong 39 = .ok (.aload_n 0, 1) := by decide +kernel
theorem dX11_wrong_40 : decode cX11_wrong 40 = .ok (.getfield 29, 3) := by decide +kernel
theorem dX11_wrong_43 : decode cX11_wrong 43 = .ok (.iload_n 1, 1) := by decide +kernel
theorem dX11_wrong_44 : decode cX11_wrong 44 = .ok (.iaload, 1) := by decide +kernel
theorem dX11_wrong_45 : decode cX11_wrong 45 = .ok (.if_icmp .eq 5, 3) := by decide +kernel
theorem dX11_wrong_48 : decode cX11_wrong 48 = .ok (.iload_n 1, 1) := by decide +kernel
theorem dX11_wrong_49 : decode cX11_wrong 49 = .ok (.ireturn, 1) := by decide +kernel
theorem dX11_wrong_50 : decode cX11_wrong 50 = .ok (.iinc 1 1, 3) := by decide +kernel
theorem dX11_wrong_53 : decode cX11_wrong 53 = .ok (.goto (-51), 3) := by decide +kernel
theorem dX11_wrong_56 : decode cX11_wrong 56 = .ok (.iconst (-1), 1) := by decide +kernel
theorem dX11_wrong_57 : decode cX11_wrong 57 = .ok (.ireturn, 1) := by decide +kernel
theorem dX11_flaresNow_0 : decode cX11_flaresNow 0 = .ok (.aload_n 0, 1) := by decide +kernel
theorem dX11_flaresNow_1 : decode cX11_flaresNow 1 = .ok (.invokevirtual 102, 3) := by decide +kernel
theorem dX11_flaresNow_4 : decode cX11_flaresNow 4 = .ok (.aload_n 0, 1) := by decide +kernel
theorem dX11_flaresNow_5 : decode cX11_flaresNow 5 = .ok (.getfield 88, 3) := by decide +kernel
theorem dX11_flaresNow_8 : decode cX11_flaresNow 8 = .ok (.ireturn, 1) := by decide +kernel
theorem dX11_toldMore_0 : decode cX11_toldMore 0 = .ok (.iload_n 1, 1) := by decide +kernel
theorem dX11_toldMore_1 : decode cX11_toldMore 1 = .ok (.tableswitch 60 8 12 #[35, 40, 45, 50, 55], 35) := by decide +kernel
theorem dX11_toldMore_36 : decode cX11_toldMore 36 = .ok (.aload_n 0, 1) := by decide +kernel
theorem dX11_toldMore_37 : decode cX11_toldMore 37 = .ok (.getfield 119, 3) := by decide +kernel
theorem dX11_toldMore_40 : decode cX11_toldMore 40 = .ok (.ireturn, 1) := by decide +kernel
theorem dX11_toldMore_41 : decode cX11_toldMore 41 = .ok (.aload_n 0, 1) := by decide +kernel
theorem dX11_toldMore_42 : decode cX11_toldMore 42 = .ok (.getfield 161, 3) := by decide +kernel
theorem dX11_toldMore_45 : decode cX11_toldMore 45 = .ok (.ireturn, 1) := by decide +kernel
theorem dX11_toldMore_46 : decode cX11_toldMore 46 = .ok (.aload_n 0, 1) := by decide +kernel
theorem dX11_toldMore_47 : decode cX11_toldMore 47 = .ok (.invokevirtual 170, 3) := by decide +kernel
theorem dX11_toldMore_50 : decode cX11_toldMore 50 = .ok (.ireturn, 1) := by decide +kernel
theorem dX11_toldMore_51 : decode cX11_toldMore 51 = .ok (.aload_n 0, 1) := by decide +kernel
theorem dX11_toldMore_52 : decode cX11_toldMore 52 = .ok (.getfield 63, 3) := by decide +kernel
theorem dX11_toldMore_55 : decode cX11_toldMore 55 = .ok (.ireturn, 1) := by decide +kernel
theorem dX11_toldMore_56 : decode cX11_toldMore 56 = .ok (.aload_n 0, 1) := by decide +kernel
theorem dX11_toldMore_57 : decode cX11_toldMore 57 = .ok (.getfield 173, 3) := by decide +kernel
theorem dX11_toldMore_60 : decode cX11_toldMore 60 = .ok (.ireturn, 1) := by decide +kernel
theorem dX11_toldMore_61 : decode cX11_toldMore 61 = .ok (.ldc 147, 2) := by decide +kernel
theorem dX11_toldMore_63 : decode cX11_toldMore 63 = .ok (.ireturn, 1) := by decide +kernel
theorem dX11_told_0 : decode cX11_told 0 = .ok (.iload_n 1, 1) := by decide +kernel
theorem dX11_told_1 : decode cX11_told 1 = .ok (.tableswitch 75 0 7 #[47, 47, 54, 59, 64, 64, 64, 64], 47) := by decide +kernel
theorem dX11_told_48 : decode cX11_told 48 = .ok (.aload_n 0, 1) := by decide +kernel
theorem dX11_told_49 : decode cX11_told 49 = .ok (.getfield 7, 3) := by decide +kernel
theorem dX11_told_52 : decode cX11_told 52 = .ok (.iload_n 1, 1) := by decide +kernel
theorem dX11_told_53 : decode cX11_told 53 = .ok (.iaload, 1) := by decide +kernel
theorem dX11_told_54 : decode cX11_told 54 = .ok (.ireturn, 1) := by decide +kernel
theorem dX11_told_55 : decode cX11_told 55 = .ok (.aload_n 0, 1) := by decide +kernel
theorem dX11_told_56 : decode cX11_told 56 = .ok (.invokevirtual 176, 3) := by decide +kernel
theorem dX11_told_59 : decode cX11_told 59 = .ok (.ireturn, 1) := by decide +kernel
theorem dX11_told_60 : decode cX11_told 60 = .ok (.aload_n 0, 1) := by decide +kernel
theorem dX11_told_61 : decode cX11_told 61 = .ok (.invokevirtual 179, 3) := by decide +kernel
theorem dX11_told_64 : decode cX11_told 64 = .ok (.ireturn, 1) := by decide +kernel
theorem dX11_told_65 : decode cX11_told 65 = .ok (.aload_n 0, 1) := by decide +kernel
theorem dX11_told_66 : decode cX11_told 66 = .ok (.getfield 7, 3) := by decide +kernel
theorem dX11_told_69 : decode cX11_told 69 = .ok (.iconst 2, 1) := by decide +kernel
theorem dX11_told_70 : decode cX11_told 70 = .ok (.iload_n 1, 1) := by decide +kernel
theorem dX11_told_71 : decode cX11_told 71 = .ok (.iadd, 1) := by decide +kernel
theorem dX11_told_72 : decode cX11_told 72 = .ok (.iconst 4, 1) := by decide +kernel
theorem dX11_told_73 : decode cX11_told 73 = .ok (.isub, 1) := by decide +kernel
theorem dX11_told_74 : decode cX11_told 74 = .ok (.iaload, 1) := by decide +kernel
theorem dX11_told_75 : decode cX11_told 75 = .ok (.ireturn, 1) := by decide +kernel
theorem dX11_told_76 : decode cX11_told 76 = .ok (.aload_n 0, 1) := by decide +kernel
theorem dX11_told_77 : decode cX11_told 77 = .ok (.iload_n 1, 1) := by decide +kernel
theorem dX11_told_78 : decode cX11_told 78 = .ok (.invokevirtual 182, 3) := by decide +kernel
theorem dX11_told_81 : decode cX11_told 81 = .ok (.ireturn, 1) := by decide +kernel
theorem dX11_isPiece_0 : decode cX11_isPiece 0 = .ok (.iload_n 1, 1) := by decide +kernel
theorem dX11_isPiece_1 : decode cX11_isPiece 1 = .ok (.i2l, 1) := by decide +kernel
theorem dX11_isPiece_2 : decode cX11_isPiece 2 = .ok (.lconst 0, 1) := by decide +kernel
theorem dX11_isPiece_3 : decode cX11_isPiece 3 = .ok (.aload_n 0, 1) := by decide +kernel
theorem dX11_isPiece_4 : decode cX11_isPiece 4 = .ok (.getfield 7, 3) := by decide +kernel
theorem dX11_isPiece_7 : decode cX11_isPiece 7 = .ok (.iconst 1, 1) := by decide +kernel
theorem dX11_isPiece_8 : decode cX11_isPiece 8 = .ok (.iaload, 1) := by decide +kernel
theorem dX11_isPiece_9 : decode cX11_isPiece 9 = .ok (.iconst 1, 1) := by decide +kernel
theorem dX11_isPiece_10 : decode cX11_isPiece 10 = .ok (.isub, 1) := by decide +kernel
theorem dX11_isPiece_11 : decode cX11_isPiece 11 = .ok (.i2l, 1) := by decide +kernel
theorem dX11_isPiece_12 : decode cX11_isPiece 12 = .ok (.invokestatic 94, 3) := by decide +kernel
theorem dX11_isPiece_15 : decode cX11_isPiece 15 = .ok (.ireturn, 1) := by decide +kernel
theorem dX11_at_0 : decode cX11_at 0 = .ok (.aload_n 0, 1) := by decide +kernel
theorem dX11_at_1 : decode cX11_at 1 = .ok (.iload_n 1, 1) := by decide +kernel
theorem dX11_at_2 : decode cX11_at 2 = .ok (.invokevirtual 185, 3) := by decide +kernel
theorem dX11_at_5 : decode cX11_at 5 = .ok (.ifCond .ne 6, 3) := by decide +kernel
theorem dX11_at_8 : decode cX11_at 8 = .ok (.ldc 188, 2) := by decide +kernel
theorem dX11_at_10 : decode cX11_at 10 = .ok (.ireturn, 1) := by decide +kernel
theorem dX11_at_11 : decode cX11_at 11 = .ok (.iload_n 2, 1) := by decide +kernel
theorem dX11_at_12 : decode cX11_at 12 = .ok (.ifCond .ne 15, 3) := by decide +kernel
theorem dX11_at_15 : decode cX11_at 15 = .ok (.aload_n 0, 1) := by decide +kernel
theorem dX11_at_16 : decode cX11_at 16 = .ok (.getfield 7, 3) := by decide +kernel
theorem dX11_at_19 : decode cX11_at 19 = .ok (.bipush 6, 2) := by decide +kernel
theorem dX11_at_21 : decode cX11_at 21 = .ok (.iload_n 1, 1) := by decide +kernel
theorem dX11_at_22 : decode cX11_at 22 = .ok (.iadd, 1) := by decide +kernel
theorem dX11_at_23 : decode cX11_at 23 = .ok (.iaload, 1) := by decide +kernel
theorem dX11_at_24 : decode cX11_at 24 = .ok (.goto 22, 3) := by decide +kernel
theorem dX11_at_27 : decode cX11_at 27 = .ok (.iload_n 2, 1) := by decide +kernel
theorem dX11_at_28 : decode cX11_at 28 = .ok (.iconst 1, 1) := by decide +kernel
theorem dX11_at_29 : decode cX11_at 29 = .ok (.if_icmp .ne 15, 3) := by decide +kernel
theorem dX11_at_32 : decode cX11_at 32 = .ok (.aload_n 0, 1) := by decide +kernel
theorem dX11_at_33 : decode cX11_at 33 = .ok (.getfield 7, 3) := by decide +kernel
theorem dX11_at_36 : decode cX11_at 36 = .ok (.bipush 46, 2) := by decide +kernel
theorem dX11_at_38 : decode cX11_at 38 = .ok (.iload_n 1, 1) := by decide +kernel
theorem dX11_at_39 : decode cX11_at 39 = .ok (.iadd, 1) := by decide +kernel
theorem dX11_at_40 : decode cX11_at 40 = .ok (.iaload, 1) := by decide +kernel
theorem dX11_at_41 : decode cX11_at 41 = .ok (.goto 5, 3) := by decide +kernel
theorem dX11_at_44 : decode cX11_at 44 = .ok (.ldc 147, 2) := by decide +kernel
theorem dX11_at_46 : decode cX11_at 46 = .ok (.ireturn, 1) := by decide +kernel
theorem dX11_hot_0 : decode cX11_hot 0 = .ok (.iconst 0, 1) := by decide +kernel
theorem dX11_hot_1 : decode cX11_hot 1 = .ok (.istore_n 2, 1) := by decide +kernel
theorem dX11_hot_2 : decode cX11_hot 2 = .ok (.iconst 0, 1) := by decide +kernel
theorem dX11_hot_3 : decode cX11_hot 3 = .ok (.istore_n 3, 1) := by decide +kernel
theorem dX11_hot_4 : decode cX11_hot 4 = .ok (.iload_n 3, 1) := by decide +kernel
theorem dX11_hot_5 : decode cX11_hot 5 = .ok (.bipush 8, 2) := by decide +kernel
theorem dX11_hot_7 : decode cX11_hot 7 = .ok (.if_icmp .ge 28, 3) := by decide +kernel
theorem dX11_hot_10 : decode cX11_hot 10 = .ok (.iload_n 2, 1) := by decide +kernel
theorem dX11_hot_11 : decode cX11_hot 11 = .ok (.aload_n 0, 1) := by decide +kernel
theorem dX11_hot_12 : decode cX11_hot 12 = .ok (.iload_n 3, 1) := by decide +kernel
theorem dX11_hot_13 : decode cX11_hot 13 = .ok (.iload_n 1, 1) := by decide +kernel
theorem dX11_hot_14 : decode cX11_hot 14 = .ok (.invokevirtual 167, 3) := by decide +kernel
theorem dX11_hot_17 : decode cX11_hot 17 = .ok (.ifCond .le 9, 3) := by decide +kernel
theorem dX11_hot_20 : decode cX11_hot 20 = .ok (.iconst 1, 1) := by decide +kernel
theorem dX11_hot_21 : decode cX11_hot 21 = .ok (.iload_n 3, 1) := by decide +kernel
theorem dX11_hot_22 : decode cX11_hot 22 = .ok (.ishl, 1) := by decide +kernel
theorem dX11_hot_23 : decode cX11_hot 23 = .ok (.goto 4, 3) := by decide +kernel
theorem dX11_hot_26 : decode cX11_hot 26 = .ok (.iconst 0, 1) := by decide +kernel
theorem dX11_hot_27 : decode cX11_hot 27 = .ok (.ior, 1) := by decide +kernel
theorem dX11_hot_28 : decode cX11_hot 28 = .ok (.istore_n 2, 1) := by decide +kernel
theorem dX11_hot_29 : decode cX11_hot 29 = .ok (.iinc 3 1, 3) := by decide +kernel
theorem dX11_hot_32 : decode cX11_hot 32 = .ok (.goto (-28), 3) := by decide +kernel
theorem dX11_hot_35 : decode cX11_hot 35 = .ok (.iload_n 2, 1) := by decide +kernel
theorem dX11_hot_36 : decode cX11_hot 36 = .ok (.ireturn, 1) := by decide +kernel
theorem dX11_topOf_0 : decode cX11_topOf 0 = .ok (.iconst (-1), 1) := by decide +kernel
theorem dX11_topOf_1 : decode cX11_topOf 1 = .ok (.istore_n 2, 1) := by decide +kernel
theorem dX11_topOf_2 : decode cX11_topOf 2 = .ok (.iconst 0, 1) := by decide +kernel
theorem dX11_topOf_3 : decode cX11_topOf 3 = .ok (.istore_n 3, 1) := by decide +kernel
theorem dX11_topOf_4 : decode cX11_topOf 4 = .ok (.iconst 0, 1) := by decide +kernel
theorem dX11_topOf_5 : decode cX11_topOf 5 = .ok (.istore 4, 2) := by decide +kernel
theorem dX11_topOf_7 : decode cX11_topOf 7 = .ok (.iload 4, 2) := by decide +kernel
theorem dX11_topOf_9 : decode cX11_topOf 9 = .ok (.bipush 8, 2) := by decide +kernel
theorem dX11_topOf_11 : decode cX11_topOf 11 = .ok (.if_icmp .ge 70, 3) := by decide +kernel
theorem dX11_topOf_14 : decode cX11_topOf 14 = .ok (.aload_n 0, 1) := by decide +kernel
theorem dX11_topOf_15 : decode cX11_topOf 15 = .ok (.iload 4, 2) := by decide +kernel
theorem dX11_topOf_17 : decode cX11_topOf 17 = .ok (.iload_n 1, 1) := by decide +kernel
theorem dX11_topOf_18 : decode cX11_topOf 18 = .ok (.invokevirtual 167, 3) := by decide +kernel
theorem dX11_topOf_21 : decode cX11_topOf 21 = .ok (.istore 5, 2) := by decide +kernel
theorem dX11_topOf_23 : decode cX11_topOf 23 = .ok (.iload 5, 2) := by decide +kernel
theorem dX11_topOf_25 : decode cX11_topOf 25 = .ok (.ifCond .ne 7, 3) := by decide +kernel
theorem dX11_topOf_28 : decode cX11_topOf 28 = .ok (.iconst 0, 1) := by decide +kernel
theorem dX11_topOf_29 : decode cX11_topOf 29 = .ok (.goto 18, 3) := by decide +kernel
theorem dX11_topOf_32 : decode cX11_topOf 32 = .ok (.bipush 100, 2) := by decide +kernel
theorem dX11_topOf_34 : decode cX11_topOf 34 = .ok (.iload 5, 2) := by decide +kernel
theorem dX11_topOf_36 : decode cX11_topOf 36 = .ok (.imul, 1) := by decide +kernel
theorem dX11_topOf_37 : decode cX11_topOf 37 = .ok (.aload_n 0, 1) := by decide +kernel
theorem dX11_topOf_38 : decode cX11_topOf 38 = .ok (.iload_n 1, 1) := by decide +kernel
theorem dX11_topOf_39 : decode cX11_topOf 39 = .ok (.iconst 1, 1) := by decide +kernel
theorem dX11_topOf_40 : decode cX11_topOf 40 = .ok (.iload 4, 2) := by decide +kernel
theorem dX11_topOf_42 : decode cX11_topOf 42 = .ok (.ishl, 1) := by decide +kernel
theorem dX11_topOf_43 : decode cX11_topOf 43 = .ok (.invokevirtual 66, 3) := by decide +kernel
theorem dX11_topOf_46 : decode cX11_topOf 46 = .ok (.iadd, 1) := by decide +kernel
theorem dX11_topOf_47 : decode cX11_topOf 47 = .ok (.istore 6, 2) := by decide +kernel
theorem dX11_topOf_49 : decode cX11_topOf 49 = .ok (.iload 6, 2) := by decide +kernel
theorem dX11_topOf_51 : decode cX11_topOf 51 = .ok (.iload_n 3, 1) := by decide +kernel
theorem dX11_topOf_52 : decode cX11_topOf 52 = .ok (.if_icmp .le 8, 3) := by decide +kernel
theorem dX11_topOf_55 : decode cX11_topOf 55 = .ok (.iload 4, 2) := by decide +kernel
theorem dX11_topOf_57 : decode cX11_topOf 57 = .ok (.goto 4, 3) := by decide +kernel
theorem dX11_topOf_60 : decode cX11_topOf 60 = .ok (.iload_n 2, 1) := by decide +kernel
theorem dX11_topOf_61 : decode cX11_topOf 61 = .ok (.istore_n 2, 1) := by decide +kernel
theorem dX11_topOf_62 : decode cX11_topOf 62 = .ok (.iload 6, 2) := by decide +kernel
theorem dX11_topOf_64 : decode cX11_topOf 64 = .ok (.iload_n 3, 1) := by decide +kernel
theorem dX11_topOf_65 : decode cX11_topOf 65 = .ok (.if_icmp .le 8, 3) := by decide +kernel
theorem dX11_topOf_68 : decode cX11_topOf 68 = .ok (.iload 6, 2) := by decide +kernel
theorem dX11_topOf_70 : decode cX11_topOf 70 = .ok (.goto 4, 3) := by decide +kernel
theorem dX11_topOf_73 : decode cX11_topOf 73 = .ok (.iload_n 3, 1) := by decide +kernel
theorem dX11_topOf_74 : decode cX11_topOf 74 = .ok (.istore_n 3, 1) := by decide +kernel
theorem dX11_topOf_75 : decode cX11_topOf 75 = .ok (.iinc 4 1, 3) := by decide +kernel
theorem dX11_topOf_78 : decode cX11_topOf 78 = .ok (.goto (-71), 3) := by decide +kernel
theorem dX11_topOf_81 : decode cX11_topOf 81 = .ok (.iload_n 2, 1) := by decide +kernel
theorem dX11_topOf_82 : decode cX11_topOf 82 = .ok (.ireturn, 1) := by decide +kernel
theorem dX11_day_0 : decode cX11_day 0 = .ok (.aload_n 0, 1) := by decide +kernel
theorem dX11_day_1 : decode cX11_day 1 = .ok (.iload_n 1, 1) := by decide +kernel
theorem dX11_day_2 : decode cX11_day 2 = .ok (.invokevirtual 164, 3) := by decide +kernel
theorem dX11_day_5 : decode cX11_day 5 = .ok (.ifCond .ne 6, 3) := by decide +kernel
theorem dX11_day_8 : decode cX11_day 8 = .ok (.ldc 188, 2) := by decide +kernel
theorem dX11_day_10 : decode cX11_day 10 = .ok (.ireturn, 1) := by decide +kernel
theorem dX11_day_11 : decode cX11_day 11 = .ok (.iload_n 2, 1) := by decide +kernel
theorem dX11_day_12 : decode cX11_day 12 = .ok (.tableswitch 47 0 2 #[28, 35, 41], 28) := by decide +kernel
theorem dX11_day_40 : decode cX11_day 40 = .ok (.aload_n 0, 1) := by decide +kernel
theorem dX11_day_41 : decode cX11_day 41 = .ok (.iload_n 1, 1) := by decide +kernel
theorem dX11_day_42 : decode cX11_day 42 = .ok (.iconst 0, 1) := by decide +kernel
theorem dX11_day_43 : decode cX11_day 43 = .ok (.invokevirtual 66, 3) := by decide +kernel
theorem dX11_day_46 : decode cX11_day 46 = .ok (.ireturn, 1) := by decide +kernel
theorem dX11_day_47 : decode cX11_day 47 = .ok (.aload_n 0, 1) := by decide +kernel
theorem dX11_day_48 : decode cX11_day 48 = .ok (.iload_n 1, 1) := by decide +kernel
theorem dX11_day_49 : decode cX11_day 49 = .ok (.invokevirtual 189, 3) := by decide +kernel
theorem dX11_day_52 : decode cX11_day 52 = .ok (.ireturn, 1) := by decide +kernel
theorem dX11_day_53 : decode cX11_day 53 = .ok (.aload_n 0, 1) := by decide +kernel
theorem dX11_day_54 : decode cX11_day 54 = .ok (.iload_n 1, 1) := by decide +kernel
theorem dX11_day_55 : decode cX11_day 55 = .ok (.invokevirtual 192, 3) := by decide +kernel
theorem dX11_day_58 : decode cX11_day 58 = .ok (.ireturn, 1) := by decide +kernel
theorem dX11_day_59 : decode cX11_day 59 = .ok (.ldc 147, 2) := by decide +kernel
theorem dX11_day_61 : decode cX11_day 61 = .ok (.ireturn, 1) := by decide +kernel
theorem dX11_word_0 : decode cX11_word 0 = .ok (.iload_n 1, 1) := by decide +kernel
theorem dX11_word_1 : decode cX11_word 1 = .ok (.invokestatic 195, 3) := by decide +kernel
theorem dX11_word_4 : decode cX11_word 4 = .ok (.ifCond .eq 11, 3) := by decide +kernel
theorem dX11_word_7 : decode cX11_word 7 = .ok (.aload_n 0, 1) := by decide +kernel
theorem dX11_word_8 : decode cX11_word 8 = .ok (.iload_n 2, 1) := by decide +kernel
theorem dX11_word_9 : decode cX11_word 9 = .ok (.invokevirtual 164, 3) := by decide +kernel
theorem dX11_word_12 : decode cX11_word 12 = .ok (.ifCond .ne 6, 3) := by decide +kernel
theorem dX11_word_15 : decode cX11_word 15 = .ok (.ldc 188, 2) := by decide +kernel
theorem dX11_word_17 : decode cX11_word 17 = .ok (.ireturn, 1) := by decide +kernel
theorem dX11_word_18 : decode cX11_word 18 = .ok (.iload_n 3, 1) := by decide +kernel
theorem dX11_word_19 : decode cX11_word 19 = .ok (.tableswitch 79 0 5 #[37, 46, 53, 53, 53, 53], 37) := by decide +kernel
theorem dX11_word_56 : decode cX11_word 56 = .ok (.aload_n 0, 1) := by decide +kernel
theorem dX11_word_57 : decode cX11_word 57 = .ok (.iload_n 2, 1) := by decide +kernel
theorem dX11_word_58 : decode cX11_word 58 = .ok (.iconst 1, 1) := by decide +kernel
theorem dX11_word_59 : decode cX11_word 59 = .ok (.iload_n 1, 1) := by decide +kernel
theorem dX11_word_60 : decode cX11_word 60 = .ok (.ishl, 1) := by decide +kernel
theorem dX11_word_61 : decode cX11_word 61 = .ok (.invokevirtual 66, 3) := by decide +kernel
theorem dX11_word_64 : decode cX11_word 64 = .ok (.ireturn, 1) := by decide +kernel
theorem dX11_word_65 : decode cX11_word 65 = .ok (.aload_n 0, 1) := by decide +kernel
theorem dX11_word_66 : decode cX11_word 66 = .ok (.iload_n 1, 1) := by decide +kernel
theorem dX11_word_67 : decode cX11_word 67 = .ok (.iload_n 2, 1) := by decide +kernel
theorem dX11_word_68 : decode cX11_word 68 = .ok (.invokevirtual 167, 3) := by decide +kernel
theorem dX11_word_71 : decode cX11_word 71 = .ok (.ireturn, 1) := by decide +kernel
theorem dX11_word_72 : decode cX11_word 72 = .ok (.iload_n 3, 1) := by decide +kernel
theorem dX11_word_73 : decode cX11_word 73 = .ok (.iconst 2, 1) := by decide +kernel
theorem dX11_word_74 : decode cX11_word 74 = .ok (.isub, 1) := by decide +kernel
theorem dX11_word_75 : decode cX11_word 75 = .ok (.aload_n 0, 1) := by decide +kernel
theorem dX11_word_76 : decode cX11_word 76 = .ok (.getfield 7, 3) := by decide +kernel
theorem dX11_word_79 : decode cX11_word 79 = .ok (.iconst 2, 1) := by decide +kernel
theorem dX11_word_80 : decode cX11_word 80 = .ok (.iaload, 1) := by decide +kernel
theorem dX11_word_81 : decode cX11_word 81 = .ok (.if_icmp .gt 15, 3) := by decide +kernel
theorem dX11_word_84 : decode cX11_word 84 = .ok (.aload_n 0, 1) := by decide +kernel
theorem dX11_word_85 : decode cX11_word 85 = .ok (.iload_n 1, 1) := by decide +kernel
theorem dX11_word_86 : decode cX11_word 86 = .ok (.iload_n 2, 1) := by decide +kernel
theorem dX11_word_87 : decode cX11_word 87 = .ok (.iload_n 3, 1) := by decide +kernel
theorem dX11_word_88 : decode cX11_word 88 = .ok (.iconst 2, 1) := by decide +kernel
theorem dX11_word_89 : decode cX11_word 89 = .ok (.isub, 1) := by decide +kernel
theorem dX11_word_90 : decode cX11_word 90 = .ok (.invokevirtual 70, 3) := by decide +kernel
theorem dX11_word_93 : decode cX11_word 93 = .ok (.goto 4, 3) := by decide +kernel
theorem dX11_word_96 : decode cX11_word 96 = .ok (.iconst (-1), 1) := by decide +kernel
theorem dX11_word_97 : decode cX11_word 97 = .ok (.ireturn, 1) := by decide +kernel
theorem dX11_word_98 : decode cX11_word 98 = .ok (.ldc 147, 2) := by decide +kernel
theorem dX11_word_100 : decode cX11_word 100 = .ok (.ireturn, 1) := by decide +kernel
theorem dX11_cost_0 : decode cX11_cost 0 = .ok (.iload_n 1, 1) := by decide +kernel
theorem dX11_cost_1 : decode cX11_cost 1 = .ok (.invokestatic 195, 3) := by decide +kernel
theorem dX11_cost_4 : decode cX11_cost 4 = .ok (.ifCond .ne 6, 3) := by decide +kernel
theorem dX11_cost_7 : decode cX11_cost 7 = .ok (.ldc 188, 2) := by decide +kernel
theorem dX11_cost_9 : decode cX11_cost 9 = .ok (.ireturn, 1) := by decide +kernel
theorem dX11_cost_10 : decode cX11_cost 10 = .ok (.aload_n 0, 1) := by decide +kernel
theorem dX11_cost_11 : decode cX11_cost 11 = .ok (.iload_n 1, 1) := by decide +kernel
theorem dX11_cost_12 : decode cX11_cost 12 = .ok (.invokevirtual 84, 3) := by decide +kernel
theorem dX11_cost_15 : decode cX11_cost 15 = .ok (.aload_n 0, 1) := by decide +kernel
theorem dX11_cost_16 : decode cX11_cost 16 = .ok (.getfield 32, 3) := by decide +kernel
theorem dX11_cost_19 : decode cX11_cost 19 = .ok (.iconst 0, 1) := by decide +kernel
theorem dX11_cost_20 : decode cX11_cost 20 = .ok (.iaload, 1) := by decide +kernel
theorem dX11_cost_21 : decode cX11_cost 21 = .ok (.ireturn, 1) := by decide +kernel
theorem dX11_steady_0 : decode cX11_steady 0 = .ok (.iload_n 1, 1) := by decide +kernel
theorem dX11_steady_1 : decode cX11_steady 1 = .ok (.invokestatic 195, 3) := by decide +kernel
theorem dX11_steady_4 : decode cX11_steady 4 = .ok (.ifCond .ne 6, 3) := by decide +kernel
theorem dX11_steady_7 : decode cX11_steady 7 = .ok (.ldc 188, 2) := by decide +kernel
theorem dX11_steady_9 : decode cX11_steady 9 = .ok (.ireturn, 1) := by decide +kernel
theorem dX11_steady_10 : decode cX11_steady 10 = .ok (.iload_n 2, 1) := by decide +kernel
theorem dX11_steady_11 : decode cX11_steady 11 = .ok (.i2l, 1) := by decide +kernel
theorem dX11_steady_12 : decode cX11_steady 12 = .ok (.lconst 0, 1) := by decide +kernel
theorem dX11_steady_13 : decode cX11_steady 13 = .ok (.aload_n 0, 1) := by decide +kernel
theorem dX11_steady_14 : decode cX11_steady 14 = .ok (.getfield 7, 3) := by decide +kernel
theorem dX11_steady_17 : decode cX11_steady 17 = .ok (.iconst 2, 1) := by decide +kernel
theorem dX11_steady_18 : decode cX11_steady 18 = .ok (.iaload, 1) := by decide +kernel
theorem dX11_steady_19 : decode cX11_steady 19 = .ok (.i2l, 1) := by decide +kernel
theorem dX11_steady_20 : decode cX11_steady 20 = .ok (.invokestatic 94, 3) := by decide +kernel
theorem dX11_steady_23 : decode cX11_steady 23 = .ok (.ifCond .ne 6, 3) := by decide +kernel
theorem dX11_steady_26 : decode cX11_steady 26 = .ok (.ldc 147, 2) := by decide +kernel
theorem dX11_steady_28 : decode cX11_steady 28 = .ok (.ireturn, 1) := by decide +kernel
theorem dX11_steady_29 : decode cX11_steady 29 = .ok (.aload_n 0, 1) := by decide +kernel
theorem dX11_steady_30 : decode cX11_steady 30 = .ok (.getfield 7, 3) := by decide +kernel
theorem dX11_steady_33 : decode cX11_steady 33 = .ok (.iconst 5, 1) := by decide +kernel
theorem dX11_steady_34 : decode cX11_steady 34 = .ok (.iaload, 1) := by decide +kernel
theorem dX11_steady_35 : decode cX11_steady 35 = .ok (.iload_n 2, 1) := by decide +kernel
theorem dX11_steady_36 : decode cX11_steady 36 = .ok (.imul, 1) := by decide +kernel
theorem dX11_steady_37 : decode cX11_steady 37 = .ok (.istore_n 3, 1) := by decide +kernel
theorem dX11_steady_38 : decode cX11_steady 38 = .ok (.iconst 0, 1) := by decide +kernel
theorem dX11_steady_39 : decode cX11_steady 39 = .ok (.istore 4, 2) := by decide +kernel
theorem dX11_steady_41 : decode cX11_steady 41 = .ok (.iload 4, 2) := by decide +kernel
theorem dX11_steady_43 : decode cX11_steady 43 = .ok (.aload_n 0, 1) := by decide +kernel
theorem dX11_steady_44 : decode cX11_steady 44 = .ok (.getfield 7, 3) := by decide +kernel
theorem dX11_steady_47 : decode cX11_steady 47 = .ok (.iconst 0, 1) := by decide +kernel
theorem dX11_steady_48 : decode cX11_steady 48 = .ok (.iaload, 1) := by decide +kernel
theorem dX11_steady_49 : decode cX11_steady 49 = .ok (.if_icmp .ge 20, 3) := by decide +kernel
theorem dX11_steady_52 : decode cX11_steady 52 = .ok (.iload_n 3, 1) := by decide +kernel
theorem dX11_steady_53 : decode cX11_steady 53 = .ok (.aload_n 0, 1) := by decide +kernel
theorem dX11_steady_54 : decode cX11_steady 54 = .ok (.iload_n 1, 1) := by decide +kernel
theorem dX11_steady_55 : decode cX11_steady 55 = .ok (.iload 4, 2) := by decide +kernel
theorem dX11_steady_57 : decode cX11_steady 57 = .ok (.iload_n 2, 1) := by decide +kernel
theorem dX11_steady_58 : decode cX11_steady 58 = .ok (.invokevirtual 74, 3) := by decide +kernel
theorem dX11_steady_61 : decode cX11_steady 61 = .ok (.iadd, 1) := by decide +kernel
theorem dX11_steady_62 : decode cX11_steady 62 = .ok (.istore_n 3, 1) := by decide +kernel
theorem dX11_steady_63 : decode cX11_steady 63 = .ok (.iinc 4 1, 3) := by decide +kernel
theorem dX11_steady_66 : decode cX11_steady 66 = .ok (.goto (-25), 3) := by decide +kernel
theorem dX11_steady_69 : decode cX11_steady 69 = .ok (.iload_n 3, 1) := by decide +kernel
theorem dX11_steady_70 : decode cX11_steady 70 = .ok (.ireturn, 1) := by decide +kernel
theorem dX11_within_0 : decode cX11_within 0 = .ok (.iconst (-1), 1) := by decide +kernel
theorem dX11_within_1 : decode cX11_within 1 = .ok (.istore_n 2, 1) := by decide +kernel
theorem dX11_within_2 : decode cX11_within 2 = .ok (.iconst 0, 1) := by decide +kernel
theorem dX11_within_3 : decode cX11_within 3 = .ok (.istore_n 3, 1) := by decide +kernel
theorem dX11_within_4 : decode cX11_within 4 = .ok (.iload_n 3, 1) := by decide +kernel
theorem dX11_within_5 : decode cX11_within 5 = .ok (.aload_n 0, 1) := by decide +kernel
theorem dX11_within_6 : decode cX11_within 6 = .ok (.getfield 88, 3) := by decide +kernel
theorem dX11_within_9 : decode cX11_within 9 = .ok (.if_icmp .ge 73, 3) := by decide +kernel
theorem dX11_within_12 : decode cX11_within 12 = .ok (.aload_n 0, 1) := by decide +kernel
theorem dX11_within_13 : decode cX11_within 13 = .ok (.getfield 38, 3) := by decide +kernel
theorem dX11_within_16 : decode cX11_within 16 = .ok (.iload_n 3, 1) := by decide +kernel
theorem dX11_within_17 : decode cX11_within 17 = .ok (.iaload, 1) := by decide +kernel
theorem dX11_within_18 : decode cX11_within 18 = .ok (.aload_n 0, 1) := by decide +kernel
theorem dX11_within_19 : decode cX11_within 19 = .ok (.getfield 38, 3) := by decide +kernel
theorem dX11_within_22 : decode cX11_within 22 = .ok (.iload_n 1, 1) := by decide +kernel
theorem dX11_within_23 : decode cX11_within 23 = .ok (.iaload, 1) := by decide +kernel
theorem dX11_within_24 : decode cX11_within 24 = .ok (.if_icmp .ne 38, 3) := by decide +kernel
theorem dX11_within_27 : decode cX11_within 27 = .ok (.aload_n 0, 1) := by decide +kernel
theorem dX11_within_28 : decode cX11_within 28 = .ok (.getfield 41, 3) := by decide +kernel
theorem dX11_within_31 : decode cX11_within 31 = .ok (.iload_n 3, 1) := by decide +kernel
theorem dX11_within_32 : decode cX11_within 32 = .ok (.iaload, 1) := by decide +kernel
theorem dX11_within_33 : decode cX11_within 33 = .ok (.aload_n 0, 1) := by decide +kernel
theorem dX11_within_34 : decode cX11_within 34 = .ok (.getfield 41, 3) := by decide +kernel
theorem dX11_within_37 : decode cX11_within 37 = .ok (.iload_n 1, 1) := by decide +kernel
theorem dX11_within_38 : decode cX11_within 38 = .ok (.iaload, 1) := by decide +kernel
theorem dX11_within_39 : decode cX11_within 39 = .ok (.iconst 1, 1) := by decide +kernel
theorem dX11_within_40 : decode cX11_within 40 = .ok (.isub, 1) := by decide +kernel
theorem dX11_within_41 : decode cX11_within 41 = .ok (.if_icmp .ne 21, 3) := by decide +kernel
theorem dX11_within_44 : decode cX11_within 44 = .ok (.aload_n 0, 1) := by decide +kernel
theorem dX11_within_45 : decode cX11_within 45 = .ok (.iload_n 3, 1) := by decide +kernel
theorem dX11_within_46 : decode cX11_within 46 = .ok (.aload_n 0, 1) := by decide +kernel
theorem dX11_within_47 : decode cX11_within 47 = .ok (.getfield 44, 3) := by decide +kernel
theorem dX11_within_50 : decode cX11_within 50 = .ok (.iload_n 1, 1) := by decide +kernel
theorem dX11_within_51 : decode cX11_within 51 = .ok (.iaload, 1) := by decide +kernel
theorem dX11_within_52 : decode cX11_within 52 = .ok (.invokevirtual 98, 3) := by decide +kernel
theorem dX11_within_55 : decode cX11_within 55 = .ok (.ifCond .eq 7, 3) := by decide +kernel
theorem dX11_within_58 : decode cX11_within 58 = .ok (.iconst 1, 1) := by decide +kernel
theorem dX11_within_59 : decode cX11_within 59 = .ok (.goto 4, 3) := by decide +kernel
theorem dX11_within_62 : decode cX11_within 62 = .ok (.iconst 0, 1) := by decide +kernel
theorem dX11_within_63 : decode cX11_within 63 = .ok (.istore 4, 2) := by decide +kernel
theorem dX11_within_65 : decode cX11_within 65 = .ok (.iload 4, 2) := by decide +kernel
theorem dX11_within_67 : decode cX11_within 67 = .ok (.ifCond .eq 7, 3) := by decide +kernel
theorem dX11_within_70 : decode cX11_within 70 = .ok (.iload_n 3, 1) := by decide +kernel
theorem dX11_within_71 : decode cX11_within 71 = .ok (.goto 4, 3) := by decide +kernel
theorem dX11_within_74 : decode cX11_within 74 = .ok (.iload_n 2, 1) := by decide +kernel
theorem dX11_within_75 : decode cX11_within 75 = .ok (.istore_n 2, 1) := by decide +kernel
theorem dX11_within_76 : decode cX11_within 76 = .ok (.iinc 3 1, 3) := by decide +kernel
theorem dX11_within_79 : decode cX11_within 79 = .ok (.goto (-75), 3) := by decide +kernel
theorem dX11_within_82 : decode cX11_within 82 = .ok (.iload_n 2, 1) := by decide +kernel
theorem dX11_within_83 : decode cX11_within 83 = .ok (.ireturn, 1) := by decide +kernel
theorem dX11_weight_0 : decode cX11_weight 0 = .ok (.iconst 0, 1) := by decide +kernel
theorem dX11_weight_1 : decode cX11_weight 1 = .ok (.istore_n 2, 1) := by decide +kernel
theorem dX11_weight_2 : decode cX11_weight 2 = .ok (.aload_n 0, 1) := by decide +kernel
theorem dX11_weight_3 : decode cX11_weight 3 = .ok (.getfield 44, 3) := by decide +kernel
theorem dX11_weight_6 : decode cX11_weight 6 = .ok (.iload_n 1, 1) := by decide +kernel
theorem dX11_weight_7 : decode cX11_weight 7 = .ok (.iaload, 1) := by decide +kernel
theorem dX11_weight_8 : decode cX11_weight 8 = .ok (.istore_n 3, 1) := by decide +kernel
theorem dX11_weight_9 : decode cX11_weight 9 = .ok (.iload_n 3, 1) := by decide +kernel
theorem dX11_weight_10 : decode cX11_weight 10 = .ok (.aload_n 0, 1) := by decide +kernel
theorem dX11_weight_11 : decode cX11_weight 11 = .ok (.getfield 47, 3) := by decide +kernel
theorem dX11_weight_14 : decode cX11_weight 14 = .ok (.iload_n 1, 1) := by decide +kernel
theorem dX11_weight_15 : decode cX11_weight 15 = .ok (.iaload, 1) := by decide +kernel
theorem dX11_weight_16 : decode cX11_weight 16 = .ok (.if_icmp .gt 49, 3) := by decide +kernel
theorem dX11_weight_19 : decode cX11_weight 19 = .ok (.iload_n 2, 1) := by decide +kernel
theorem dX11_weight_20 : decode cX11_weight 20 = .ok (.aload_n 0, 1) := by decide +kernel
theorem dX11_weight_21 : decode cX11_weight 21 = .ok (.aload_n 0, 1) := by decide +kernel
theorem dX11_weight_22 : decode cX11_weight 22 = .ok (.getfield 38, 3) := by decide +kernel
theorem dX11_weight_25 : decode cX11_weight 25 = .ok (.iload_n 1, 1) := by decide +kernel
theorem dX11_weight_26 : decode cX11_weight 26 = .ok (.iaload, 1) := by decide +kernel
theorem dX11_weight_27 : decode cX11_weight 27 = .ok (.iload_n 3, 1) := by decide +kernel
theorem dX11_weight_28 : decode cX11_weight 28 = .ok (.aload_n 0, 1) := by decide +kernel
theorem dX11_weight_29 : decode cX11_weight 29 = .ok (.getfield 41, 3) := by decide +kernel
theorem dX11_weight_32 : decode cX11_weight 32 = .ok (.iload_n 1, 1) := by decide +kernel
theorem dX11_weight_33 : decode cX11_weight 33 = .ok (.iaload, 1) := by decide +kernel
theorem dX11_weight_34 : decode cX11_weight 34 = .ok (.iconst 1, 1) := by decide +kernel
theorem dX11_weight_35 : decode cX11_weight 35 = .ok (.isub, 1) := by decide +kernel
theorem dX11_weight_36 : decode cX11_weight 36 = .ok (.invokevirtual 74, 3) := by decide +kernel
theorem dX11_weight_39 : decode cX11_weight 39 = .ok (.aload_n 0, 1) := by decide +kernel
theorem dX11_weight_40 : decode cX11_weight 40 = .ok (.aload_n 0, 1) := by decide +kernel
theorem dX11_weight_41 : decode cX11_weight 41 = .ok (.getfield 38, 3) := by decide +kernel
theorem dX11_weight_44 : decode cX11_weight 44 = .ok (.iload_n 1, 1) := by decide +kernel
theorem dX11_weight_45 : decode cX11_weight 45 = .ok (.iaload, 1) := by decide +kernel
theorem dX11_weight_46 : decode cX11_weight 46 = .ok (.iload_n 3, 1) := by decide +kernel
theorem dX11_weight_47 : decode cX11_weight 47 = .ok (.aload_n 0, 1) := by decide +kernel
theorem dX11_weight_48 : decode cX11_weight 48 = .ok (.getfield 41, 3) := by decide +kernel
theorem dX11_weight_51 : decode cX11_weight 51 = .ok (.iload_n 1, 1) := by decide +kernel
theorem dX11_weight_52 : decode cX11_weight 52 = .ok (.iaload, 1) := by decide +kernel
theorem dX11_weight_53 : decode cX11_weight 53 = .ok (.invokevirtual 74, 3) := by decide +kernel
theorem dX11_weight_56 : decode cX11_weight 56 = .ok (.isub, 1) := by decide +kernel
theorem dX11_weight_57 : decode cX11_weight 57 = .ok (.iadd, 1) := by decide +kernel
theorem dX11_weight_58 : decode cX11_weight 58 = .ok (.istore_n 2, 1) := by decide +kernel
theorem dX11_weight_59 : decode cX11_weight 59 = .ok (.iinc 3 1, 3) := by decide +kernel
theorem dX11_weight_62 : decode cX11_weight 62 = .ok (.goto (-53), 3) := by decide +kernel
theorem dX11_weight_65 : decode cX11_weight 65 = .ok (.iload_n 2, 1) := by decide +kernel
theorem dX11_weight_66 : decode cX11_weight 66 = .ok (.ireturn, 1) := by decide +kernel
theorem dX11_peak_0 : decode cX11_peak 0 = .ok (.aload_n 0, 1) := by decide +kernel
theorem dX11_peak_1 : decode cX11_peak 1 = .ok (.getfield 44, 3) := by decide +kernel
theorem dX11_peak_4 : decode cX11_peak 4 = .ok (.iload_n 1, 1) := by decide +kernel
theorem dX11_peak_5 : decode cX11_peak 5 = .ok (.iaload, 1) := by decide +kernel
theorem dX11_peak_6 : decode cX11_peak 6 = .ok (.istore_n 2, 1) := by decide +kernel
theorem dX11_peak_7 : decode cX11_peak 7 = .ok (.aload_n 0, 1) := by decide +kernel
theorem dX11_peak_8 : decode cX11_peak 8 = .ok (.getfield 44, 3) := by decide +kernel
theorem dX11_peak_11 : decode cX11_peak 11 = .ok (.iload_n 1, 1) := by decide +kernel
theorem dX11_peak_12 : decode cX11_peak 12 = .ok (.iaload, 1) := by decide +kernel
theorem dX11_peak_13 : decode cX11_peak 13 = .ok (.istore_n 3, 1) := by decide +kernel
theorem dX11_peak_14 : decode cX11_peak 14 = .ok (.iload_n 3, 1) := by decide +kernel
theorem dX11_peak_15 : decode cX11_peak 15 = .ok (.aload_n 0, 1) := by decide +kernel
theorem dX11_peak_16 : decode cX11_peak 16 = .ok (.getfield 47, 3) := by decide +kernel
theorem dX11_peak_19 : decode cX11_peak 19 = .ok (.iload_n 1, 1) := by decide +kernel
theorem dX11_peak_20 : decode cX11_peak 20 = .ok (.iaload, 1) := by decide +kernel
theorem dX11_peak_21 : decode cX11_peak 21 = .ok (.if_icmp .gt 44, 3) := by decide +kernel
theorem dX11_peak_24 : decode cX11_peak 24 = .ok (.aload_n 0, 1) := by decide +kernel
theorem dX11_peak_25 : decode cX11_peak 25 = .ok (.iload_n 3, 1) := by decide +kernel
theorem dX11_peak_26 : decode cX11_peak 26 = .ok (.iconst 1, 1) := by decide +kernel
theorem dX11_peak_27 : decode cX11_peak 27 = .ok (.aload_n 0, 1) := by decide +kernel
theorem dX11_peak_28 : decode cX11_peak 28 = .ok (.getfield 38, 3) := by decide +kernel
theorem dX11_peak_31 : decode cX11_peak 31 = .ok (.iload_n 1, 1) := by decide +kernel
theorem dX11_peak_32 : decode cX11_peak 32 = .ok (.iaload, 1) := by decide +kernel
theorem dX11_peak_33 : decode cX11_peak 33 = .ok (.ishl, 1) := by decide +kernel
theorem dX11_peak_34 : decode cX11_peak 34 = .ok (.invokevirtual 66, 3) := by decide +kernel
theorem dX11_peak_37 : decode cX11_peak 37 = .ok (.aload_n 0, 1) := by decide +kernel
theorem dX11_peak_38 : decode cX11_peak 38 = .ok (.iload_n 2, 1) := by decide +kernel
theorem dX11_peak_39 : decode cX11_peak 39 = .ok (.iconst 1, 1) := by decide +kernel
theorem dX11_peak_40 : decode cX11_peak 40 = .ok (.aload_n 0, 1) := by decide +kernel
theorem dX11_peak_41 : decode cX11_peak 41 = .ok (.getfield 38, 3) := by decide +kernel
theorem dX11_peak_44 : decode cX11_peak 44 = .ok (.iload_n 1, 1) := by decide +kernel
theorem dX11_peak_45 : decode cX11_peak 45 = .ok (.iaload, 1) := by decide +kernel
theorem dX11_peak_46 : decode cX11_peak 46 = .ok (.ishl, 1) := by decide +kernel
theorem dX11_peak_47 : decode cX11_peak 47 = .ok (.invokevirtual 66, 3) := by decide +kernel
theorem dX11_peak_50 : decode cX11_peak 50 = .ok (.if_icmp .le 7, 3) := by decide +kernel
theorem dX11_peak_53 : decode cX11_peak 53 = .ok (.iload_n 3, 1) := by decide +kernel
theorem dX11_peak_54 : decode cX11_peak 54 = .ok (.goto 4, 3) := by decide +kernel
theorem dX11_peak_57 : decode cX11_peak 57 = .ok (.iload_n 2, 1) := by decide +kernel
theorem dX11_peak_58 : decode cX11_peak 58 = .ok (.istore_n 2, 1) := by decide +kernel
theorem dX11_peak_59 : decode cX11_peak 59 = .ok (.iinc 3 1, 3) := by decide +kernel
theorem dX11_peak_62 : decode cX11_peak 62 = .ok (.goto (-48), 3) := by decide +kernel
theorem dX11_peak_65 : decode cX11_peak 65 = .ok (.iload_n 2, 1) := by decide +kernel
theorem dX11_peak_66 : decode cX11_peak 66 = .ok (.ireturn, 1) := by decide +kernel
theorem dX11_flare_0 : decode cX11_flare 0 = .ok (.aload_n 0, 1) := by decide +kernel
theorem dX11_flare_1 : decode cX11_flare 1 = .ok (.invokevirtual 108, 3) := by decide +kernel
theorem dX11_flare_4 : decode cX11_flare 4 = .ok (.iload_n 1, 1) := by decide +kernel
theorem dX11_flare_5 : decode cX11_flare 5 = .ok (.i2l, 1) := by decide +kernel
theorem dX11_flare_6 : decode cX11_flare 6 = .ok (.lconst 0, 1) := by decide +kernel
theorem dX11_flare_7 : decode cX11_flare 7 = .ok (.aload_n 0, 1) := by decide +kernel
theorem dX11_flare_8 : decode cX11_flare 8 = .ok (.getfield 88, 3) := by decide +kernel
theorem dX11_flare_11 : decode cX11_flare 11 = .ok (.iconst 1, 1) := by decide +kernel
theorem dX11_flare_12 : decode cX11_flare 12 = .ok (.isub, 1) := by decide +kernel
theorem dX11_flare_13 : decode cX11_flare 13 = .ok (.i2l, 1) := by decide +kernel
theorem dX11_flare_14 : decode cX11_flare 14 = .ok (.invokestatic 94, 3) := by decide +kernel
theorem dX11_flare_17 : decode cX11_flare 17 = .ok (.ifCond .ne 6, 3) := by decide +kernel
theorem dX11_flare_20 : decode cX11_flare 20 = .ok (.ldc 188, 2) := by decide +kernel
theorem dX11_flare_22 : decode cX11_flare 22 = .ok (.ireturn, 1) := by decide +kernel
theorem dX11_flare_23 : decode cX11_flare 23 = .ok (.iload_n 2, 1) := by decide +kernel
theorem dX11_flare_24 : decode cX11_flare 24 = .ok (.tableswitch 145 0 8 #[52, 59, 66, 73, 80, 86, 96, 102, 139], 52) := by decide +kernel
theorem dX11_flare_76 : decode cX11_flare 76 = .ok (.aload_n 0, 1) := by decide +kernel
theorem dX11_flare_77 : decode cX11_flare 77 = .ok (.getfield 38, 3) := by decide +kernel
theorem dX11_flare_80 : decode cX11_flare 80 = .ok (.iload_n 1, 1) := by decide +kernel
theorem dX11_flare_81 : decode cX11_flare 81 = .ok (.iaload, 1) := by decide +kernel
theorem dX11_flare_82 : decode cX11_flare 82 = .ok (.ireturn, 1) := by decide +kernel
theorem dX11_flare_83 : decode cX11_flare 83 = .ok (.aload_n 0, 1) := by decide +kernel
theorem dX11_flare_84 : decode cX11_flare 84 = .ok (.getfield 41, 3) := by decide +kernel
theorem dX11_flare_87 : decode cX11_flare 87 = .ok (.iload_n 1, 1) := by decide +kernel
theorem dX11_flare_88 : decode cX11_flare 88 = .ok (.iaload, 1) := by decide +kernel
theorem dX11_flare_89 : decode cX11_flare 89 = .ok (.ireturn, 1) := by decide +kernel
theorem dX11_flare_90 : decode cX11_flare 90 = .ok (.aload_n 0, 1) := by decide +kernel
theorem dX11_flare_91 : decode cX11_flare 91 = .ok (.getfield 44, 3) := by decide +kernel
theorem dX11_flare_94 : decode cX11_flare 94 = .ok (.iload_n 1, 1) := by decide +kernel
theorem dX11_flare_95 : decode cX11_flare 95 = .ok (.iaload, 1) := by decide +kernel
theorem dX11_flare_96 : decode cX11_flare 96 = .ok (.ireturn, 1) := by decide +kernel
theorem dX11_flare_97 : decode cX11_flare 97 = .ok (.aload_n 0, 1) := by decide +kernel
theorem dX11_flare_98 : decode cX11_flare 98 = .ok (.getfield 47, 3) := by decide +kernel
theorem dX11_flare_101 : decode cX11_flare 101 = .ok (.iload_n 1, 1) := by decide +kernel
theorem dX11_flare_102 : decode cX11_flare 102 = .ok (.iaload, 1) := by decide +kernel
theorem dX11_flare_103 : decode cX11_flare 103 = .ok (.ireturn, 1) := by decide +kernel
theorem dX11_flare_104 : decode cX11_flare 104 = .ok (.aload_n 0, 1) := by decide +kernel
theorem dX11_flare_105 : decode cX11_flare 105 = .ok (.iload_n 1, 1) := by decide +kernel
theorem dX11_flare_106 : decode cX11_flare 106 = .ok (.invokevirtual 198, 3) := by decide +kernel
theorem dX11_flare_109 : decode cX11_flare 109 = .ok (.ireturn, 1) := by decide +kernel
theorem dX11_flare_110 : decode cX11_flare 110 = .ok (.aload_n 0, 1) := by decide +kernel
theorem dX11_flare_111 : decode cX11_flare 111 = .ok (.iload_n 1, 1) := by decide +kernel
theorem dX11_flare_112 : decode cX11_flare 112 = .ok (.invokevirtual 201, 3) := by decide +kernel
theorem dX11_flare_115 : decode cX11_flare 115 = .ok (.sipush 1000, 3) := by decide +kernel
theorem dX11_flare_118 : decode cX11_flare 118 = .ok (.iadd, 1) := by decide +kernel
theorem dX11_flare_119 : decode cX11_flare 119 = .ok (.ireturn, 1) := by decide +kernel
theorem dX11_flare_120 : decode cX11_flare 120 = .ok (.aload_n 0, 1) := by decide +kernel
theorem dX11_flare_121 : decode cX11_flare 121 = .ok (.iload_n 1, 1) := by decide +kernel
theorem dX11_flare_122 : decode cX11_flare 122 = .ok (.invokevirtual 204, 3) := by decide +kernel
theorem dX11_flare_125 : decode cX11_flare 125 = .ok (.ireturn, 1) := by decide +kernel
theorem dX11_flare_126 : decode cX11_flare 126 = .ok (.aload_n 0, 1) := by decide +kernel
theorem dX11_flare_127 : decode cX11_flare 127 = .ok (.aload_n 0, 1) := by decide +kernel
theorem dX11_flare_128 : decode cX11_flare 128 = .ok (.iload_n 1, 1) := by decide +kernel
theorem dX11_flare_129 : decode cX11_flare 129 = .ok (.invokevirtual 204, 3) := by decide +kernel
theorem dX11_flare_132 : decode cX11_flare 132 = .ok (.iconst 1, 1) := by decide +kernel
theorem dX11_flare_133 : decode cX11_flare 133 = .ok (.aload_n 0, 1) := by decide +kernel
theorem dX11_flare_134 : decode cX11_flare 134 = .ok (.getfield 38, 3) := by decide +kernel
theorem dX11_flare_137 : decode cX11_flare 137 = .ok (.iload_n 1, 1) := by decide +kernel
theorem dX11_flare_138 : decode cX11_flare 138 = .ok (.iaload, 1) := by decide +kernel
theorem dX11_flare_139 : decode cX11_flare 139 = .ok (.ishl, 1) := by decide +kernel
theorem dX11_flare_140 : decode cX11_flare 140 = .ok (.invokevirtual 66, 3) := by decide +kernel
theorem dX11_flare_143 : decode cX11_flare 143 = .ok (.aload_n 0, 1) := by decide +kernel
theorem dX11_flare_144 : decode cX11_flare 144 = .ok (.aload_n 0, 1) := by decide +kernel
theorem dX11_flare_145 : decode cX11_flare 145 = .ok (.getfield 47, 3) := by decide +kernel
theorem dX11_flare_148 : decode cX11_flare 148 = .ok (.iload_n 1, 1) := by decide +kernel
theorem dX11_flare_149 : decode cX11_flare 149 = .ok (.iaload, 1) := by decide +kernel
theorem dX11_flare_150 : decode cX11_flare 150 = .ok (.iconst 1, 1) := by decide +kernel
theorem dX11_flare_151 : decode cX11_flare 151 = .ok (.aload_n 0, 1) := by decide +kernel
theorem dX11_flare_152 : decode cX11_flare 152 = .ok (.getfield 38, 3) := by decide +kernel
theorem dX11_flare_155 : decode cX11_flare 155 = .ok (.iload_n 1, 1) := by decide +kernel
theorem dX11_flare_156 : decode cX11_flare 156 = .ok (.iaload, 1) := by decide +kernel
theorem dX11_flare_157 : decode cX11_flare 157 = .ok (.ishl, 1) := by decide +kernel
theorem dX11_flare_158 : decode cX11_flare 158 = .ok (.invokevirtual 66, 3) := by decide +kernel
theorem dX11_flare_161 : decode cX11_flare 161 = .ok (.isub, 1) := by decide +kernel
theorem dX11_flare_162 : decode cX11_flare 162 = .ok (.ireturn, 1) := by decide +kernel
theorem dX11_flare_163 : decode cX11_flare 163 = .ok (.aload_n 0, 1) := by decide +kernel
theorem dX11_flare_164 : decode cX11_flare 164 = .ok (.iload_n 1, 1) := by decide +kernel
theorem dX11_flare_165 : decode cX11_flare 165 = .ok (.invokevirtual 207, 3) := by decide +kernel
theorem dX11_flare_168 : decode cX11_flare 168 = .ok (.ireturn, 1) := by decide +kernel
theorem dX11_flare_169 : decode cX11_flare 169 = .ok (.ldc 147, 2) := by decide +kernel
theorem dX11_flare_171 : decode cX11_flare 171 = .ok (.ireturn, 1) := by decide +kernel
theorem dX11_story_0 : decode cX11_story 0 = .ok (.iload_n 1, 1) := by decide +kernel
theorem dX11_story_1 : decode cX11_story 1 = .ok (.i2l, 1) := by decide +kernel
theorem dX11_story_2 : decode cX11_story 2 = .ok (.lconst 0, 1) := by decide +kernel
theorem dX11_story_3 : decode cX11_story 3 = .ok (.aload_n 0, 1) := by decide +kernel
theorem dX11_story_4 : decode cX11_story 4 = .ok (.invokevirtual 179, 3) := by decide +kernel
theorem dX11_story_7 : decode cX11_story 7 = .ok (.iconst 1, 1) := by decide +kernel
theorem dX11_story_8 : decode cX11_story 8 = .ok (.isub, 1) := by decide +kernel
theorem dX11_story_9 : decode cX11_story 9 = .ok (.i2l, 1) := by decide +kernel
theorem dX11_story_10 : decode cX11_story 10 = .ok (.invokestatic 94, 3) := by decide +kernel
theorem dX11_story_13 : decode cX11_story 13 = .ok (.ifCond .ne 6, 3) := by decide +kernel
theorem dX11_story_16 : decode cX11_story 16 = .ok (.ldc 188, 2) := by decide +kernel
theorem dX11_story_18 : decode cX11_story 18 = .ok (.ireturn, 1) := by decide +kernel
theorem dX11_story_19 : decode cX11_story 19 = .ok (.iconst 0, 1) := by decide +kernel
theorem dX11_story_20 : decode cX11_story 20 = .ok (.istore_n 3, 1) := by decide +kernel
theorem dX11_story_21 : decode cX11_story 21 = .ok (.iconst 0, 1) := by decide +kernel
theorem dX11_story_22 : decode cX11_story 22 = .ok (.istore 4, 2) := by decide +kernel
theorem dX11_story_24 : decode cX11_story 24 = .ok (.bipush 12, 2) := by decide +kernel
theorem dX11_story_26 : decode cX11_story 26 = .ok (.istore 5, 2) := by decide +kernel
theorem dX11_story_28 : decode cX11_story 28 = .ok (.iconst 0, 1) := by decide +kernel
theorem dX11_story_29 : decode cX11_story 29 = .ok (.istore 6, 2) := by decide +kernel
theorem dX11_story_31 : decode cX11_story 31 = .ok (.iconst 0, 1) := by decide +kernel
theorem dX11_story_32 : decode cX11_story 32 = .ok (.istore 7, 2) := by decide +kernel
theorem dX11_story_34 : decode cX11_story 34 = .ok (.iload 7, 2) := by decide +kernel
theorem dX11_story_36 : decode cX11_story 36 = .ok (.aload_n 0, 1) := by decide +kernel
theorem dX11_story_37 : decode cX11_story 37 = .ok (.getfield 88, 3) := by decide +kernel
theorem dX11_story_40 : decode cX11_story 40 = .ok (.if_icmp .ge 88, 3) := by decide +kernel
theorem dX11_story_43 : decode cX11_story 43 = .ok (.aload_n 0, 1) := by decide +kernel
theorem dX11_story_44 : decode cX11_story 44 = .ok (.iload 7, 2) := by decide +kernel
theorem dX11_story_46 : decode cX11_story 46 = .ok (.invokevirtual 207, 3) := by decide +kernel
theorem dX11_story_49 : decode cX11_story 49 = .ok (.iload_n 1, 1) := by decide +kernel
theorem dX11_story_50 : decode cX11_story 50 = .ok (.if_icmp .ne 72, 3) := by decide +kernel
theorem dX11_story_53 : decode cX11_story 53 = .ok (.iinc 3 1, 3) := by decide +kernel
theorem dX11_story_56 : decode cX11_story 56 = .ok (.iload 4, 2) := by decide +kernel
theorem dX11_story_58 : decode cX11_story 58 = .ok (.iconst 1, 1) := by decide +kernel
theorem dX11_story_59 : decode cX11_story 59 = .ok (.aload_n 0, 1) := by decide +kernel
theorem dX11_story_60 : decode cX11_story 60 = .ok (.getfield 38, 3) := by decide +kernel
theorem dX11_story_63 : decode cX11_story 63 = .ok (.iload 7, 2) := by decide +kernel
theorem dX11_story_65 : decode cX11_story 65 = .ok (.iaload, 1) := by decide +kernel
theorem dX11_story_66 : decode cX11_story 66 = .ok (.ishl, 1) := by decide +kernel
theorem dX11_story_67 : decode cX11_story 67 = .ok (.ior, 1) := by decide +kernel
theorem dX11_story_68 : decode cX11_story 68 = .ok (.istore 4, 2) := by decide +kernel
theorem dX11_story_70 : decode cX11_story 70 = .ok (.aload_n 0, 1) := by decide +kernel
theorem dX11_story_71 : decode cX11_story 71 = .ok (.getfield 44, 3) := by decide +kernel
theorem dX11_story_74 : decode cX11_story 74 = .ok (.iload 7, 2) := by decide +kernel
theorem dX11_story_76 : decode cX11_story 76 = .ok (.iaload, 1) := by decide +kernel
theorem dX11_story_77 : decode cX11_story 77 = .ok (.iload 5, 2) := by decide +kernel
theorem dX11_story_79 : decode cX11_story 79 = .ok (.if_icmp .ge 13, 3) := by decide +kernel
theorem dX11_story_82 : decode cX11_story 82 = .ok (.aload_n 0, 1) := by decide +kernel
theorem dX11_story_83 : decode cX11_story 83 = .ok (.getfield 44, 3) := by decide +kernel
theorem dX11_story_86 : decode cX11_story 86 = .ok (.iload 7, 2) := by decide +kernel
theorem dX11_story_88 : decode cX11_story 88 = .ok (.iaload, 1) := by decide +kernel
theorem dX11_story_89 : decode cX11_story 89 = .ok (.goto 5, 3) := by decide +kernel
theorem dX11_story_92 : decode cX11_story 92 = .ok (.iload 5, 2) := by decide +kernel
theorem dX11_story_94 : decode cX11_story 94 = .ok (.istore 5, 2) := by decide +kernel
theorem dX11_story_96 : decode cX11_story 96 = .ok (.aload_n 0, 1) := by decide +kernel
theorem dX11_story_97 : decode cX11_story 97 = .ok (.getfield 47, 3) := by decide +kernel
theorem dX11_story_100 : decode cX11_story 100 = .ok (.iload 7, 2) := by decide +kernel
theorem dX11_story_102 : decode cX11_story 102 = .ok (.iaload, 1) := by decide +kernel
theorem dX11_story_103 : decode cX11_story 103 = .ok (.iload 6, 2) := by decide +kernel
theorem dX11_story_105 : decode cX11_story 105 = .ok (.if_icmp .le 13, 3) := by decide +kernel
theorem dX11_story_108 : decode cX11_story 108 = .ok (.aload_n 0, 1) := by decide +kernel
theorem dX11_story_109 : decode cX11_story 109 = .ok (.getfield 47, 3) := by decide +kernel
theorem dX11_story_112 : decode cX11_story 112 = .ok (.iload 7, 2) := by decide +kernel
theorem dX11_story_114 : decode cX11_story 114 = .ok (.iaload, 1) := by decide +kernel
theorem dX11_story_115 : decode cX11_story 115 = .ok (.goto 5, 3) := by decide +kernel
theorem dX11_story_118 : decode cX11_story 118 = .ok (.iload 6, 2) := by decide +kernel
theorem dX11_story_120 : decode cX11_story 120 = .ok (.istore 6, 2) := by decide +kernel
theorem dX11_story_122 : decode cX11_story 122 = .ok (.iinc 7 1, 3) := by decide +kernel
theorem dX11_story_125 : decode cX11_story 125 = .ok (.goto (-91), 3) := by decide +kernel
theorem dX11_story_128 : decode cX11_story 128 = .ok (.iload_n 2, 1) := by decide +kernel
theorem dX11_story_129 : decode cX11_story 129 = .ok (.ifCond .ne 7, 3) := by decide +kernel
theorem dX11_story_132 : decode cX11_story 132 = .ok (.iload_n 3, 1) := by decide +kernel
theorem dX11_story_133 : decode cX11_story 133 = .ok (.goto 35, 3) := by decide +kernel
theorem dX11_story_136 : decode cX11_story 136 = .ok (.iload_n 2, 1) := by decide +kernel
theorem dX11_story_137 : decode cX11_story 137 = .ok (.iconst 1, 1) := by decide +kernel
theorem dX11_story_138 : decode cX11_story 138 = .ok (.if_icmp .ne 8, 3) := by decide +kernel
theorem dX11_story_141 : decode cX11_story 141 = .ok (.iload 4, 2) := by decide +kernel
theorem dX11_story_143 : decode cX11_story 143 = .ok (.goto 25, 3) := by decide +kernel
theorem dX11_story_146 : decode cX11_story 146 = .ok (.iload_n 2, 1) := by decide +kernel
theorem dX11_story_147 : decode cX11_story 147 = .ok (.iconst 2, 1) := by decide +kernel
theorem dX11_story_148 : decode cX11_story 148 = .ok (.if_icmp .ne 8, 3) := by decide +kernel
theorem dX11_story_151 : decode cX11_story 151 = .ok (.iload 5, 2) := by decide +kernel
theorem dX11_story_153 : decode cX11_story 153 = .ok (.goto 15, 3) := by decide +kernel
theorem dX11_story_156 : decode cX11_story 156 = .ok (.iload_n 2, 1) := by decide +kernel
theorem dX11_story_157 : decode cX11_story 157 = .ok (.iconst 3, 1) := by decide +kernel
theorem dX11_story_158 : decode cX11_story 158 = .ok (.if_icmp .ne 8, 3) := by decide +kernel
theorem dX11_story_161 : decode cX11_story 161 = .ok (.iload 6, 2) := by decide +kernel
theorem dX11_story_163 : decode cX11_story 163 = .ok (.goto 5, 3) := by decide +kernel
theorem dX11_story_166 : decode cX11_story 166 = .ok (.ldc 147, 2) := by decide +kernel
theorem dX11_story_168 : decode cX11_story 168 = .ok (.ireturn, 1) := by decide +kernel
theorem dX11_together_0 : decode cX11_together 0 = .ok (.iload_n 1, 1) := by decide +kernel
theorem dX11_together_1 : decode cX11_together 1 = .ok (.invokestatic 195, 3) := by decide +kernel
theorem dX11_together_4 : decode cX11_together 4 = .ok (.ifCond .eq 25, 3) := by decide +kernel
theorem dX11_together_7 : decode cX11_together 7 = .ok (.iload_n 2, 1) := by decide +kernel
theorem dX11_together_8 : decode cX11_together 8 = .ok (.invokestatic 195, 3) := by decide +kernel
theorem dX11_together_11 : decode cX11_together 11 = .ok (.ifCond .eq 18, 3) := by decide +kernel
theorem dX11_together_14 : decode cX11_together 14 = .ok (.aload_n 0, 1) := by decide +kernel
theorem dX11_together_15 : decode cX11_together 15 = .ok (.iconst (-1), 1) := by decide +kernel
theorem dX11_together_16 : decode cX11_together 16 = .ok (.iconst 1, 1) := by decide +kernel
theorem dX11_together_17 : decode cX11_together 17 = .ok (.iload_n 1, 1) := by decide +kernel
theorem dX11_together_18 : decode cX11_together 18 = .ok (.ishl, 1) := by decide +kernel
theorem dX11_together_19 : decode cX11_together 19 = .ok (.iconst 1, 1) := by decide +kernel
theorem dX11_together_20 : decode cX11_together 20 = .ok (.iload_n 2, 1) := by decide +kernel
theorem dX11_together_21 : decode cX11_together 21 = .ok (.ishl, 1) := by decide +kernel
theorem dX11_together_22 : decode cX11_together 22 = .ok (.ior, 1) := by decide +kernel
theorem dX11_together_23 : decode cX11_together 23 = .ok (.invokevirtual 66, 3) := by decide +kernel
theorem dX11_together_26 : decode cX11_together 26 = .ok (.goto 5, 3) := by decide +kernel
theorem dX11_together_29 : decode cX11_together 29 = .ok (.ldc 188, 2) := by decide +kernel
theorem dX11_together_31 : decode cX11_together 31 = .ok (.ireturn, 1) := by decide +kernel
theorem dX11_piece_0 : decode cX11_piece 0 = .ok (.aload_n 0, 1) := by decide +kernel
theorem dX11_piece_1 : decode cX11_piece 1 = .ok (.iload_n 1, 1) := by decide +kernel
theorem dX11_piece_2 : decode cX11_piece 2 = .ok (.invokevirtual 164, 3) := by decide +kernel
theorem dX11_piece_5 : decode cX11_piece 5 = .ok (.ifCond .ne 6, 3) := by decide +kernel
theorem dX11_piece_8 : decode cX11_piece 8 = .ok (.ldc 188, 2) := by decide +kernel
theorem dX11_piece_10 : decode cX11_piece 10 = .ok (.ireturn, 1) := by decide +kernel
theorem dX11_piece_11 : decode cX11_piece 11 = .ok (.iload_n 2, 1) := by decide +kernel
theorem dX11_piece_12 : decode cX11_piece 12 = .ok (.i2l, 1) := by decide +kernel
theorem dX11_piece_13 : decode cX11_piece 13 = .ok (.lconst 0, 1) := by decide +kernel
theorem dX11_piece_14 : decode cX11_piece 14 = .ok (.ldc2_w 145, 3) := by decide +kernel
theorem dX11_piece_17 : decode cX11_piece 17 = .ok (.invokestatic 94, 3) := by decide +kernel
theorem dX11_piece_20 : decode cX11_piece 20 = .ok (.ifCond .ne 6, 3) := by decide +kernel
theorem dX11_piece_23 : decode cX11_piece 23 = .ok (.ldc 147, 2) := by decide +kernel
theorem dX11_piece_25 : decode cX11_piece 25 = .ok (.ireturn, 1) := by decide +kernel
theorem dX11_piece_26 : decode cX11_piece 26 = .ok (.aload_n 0, 1) := by decide +kernel
theorem dX11_piece_27 : decode cX11_piece 27 = .ok (.getfield 7, 3) := by decide +kernel
theorem dX11_piece_30 : decode cX11_piece 30 = .ok (.iconst 1, 1) := by decide +kernel
theorem dX11_piece_31 : decode cX11_piece 31 = .ok (.iaload, 1) := by decide +kernel
theorem dX11_piece_32 : decode cX11_piece 32 = .ok (.bipush 40, 2) := by decide +kernel
theorem dX11_piece_34 : decode cX11_piece 34 = .ok (.if_icmp .ne 6, 3) := by decide +kernel
theorem dX11_piece_37 : decode cX11_piece 37 = .ok (.ldc 148, 2) := by decide +kernel
theorem dX11_piece_39 : decode cX11_piece 39 = .ok (.ireturn, 1) := by decide +kernel
theorem dX11_piece_40 : decode cX11_piece 40 = .ok (.aload_n 0, 1) := by decide +kernel
theorem dX11_piece_41 : decode cX11_piece 41 = .ok (.invokevirtual 153, 3) := by decide +kernel
theorem dX11_piece_44 : decode cX11_piece 44 = .ok (.aload_n 0, 1) := by decide +kernel
theorem dX11_piece_45 : decode cX11_piece 45 = .ok (.iload_n 1, 1) := by decide +kernel
theorem dX11_piece_46 : decode cX11_piece 46 = .ok (.iload_n 2, 1) := by decide +kernel
theorem dX11_piece_47 : decode cX11_piece 47 = .ok (.invokevirtual 156, 3) := by decide +kernel
theorem dX11_piece_50 : decode cX11_piece 50 = .ok (.aload_n 0, 1) := by decide +kernel
theorem dX11_piece_51 : decode cX11_piece 51 = .ok (.getfield 7, 3) := by decide +kernel
theorem dX11_piece_54 : decode cX11_piece 54 = .ok (.iconst 1, 1) := by decide +kernel
theorem dX11_piece_55 : decode cX11_piece 55 = .ok (.iaload, 1) := by decide +kernel
theorem dX11_piece_56 : decode cX11_piece 56 = .ok (.iconst 1, 1) := by decide +kernel
theorem dX11_piece_57 : decode cX11_piece 57 = .ok (.isub, 1) := by decide +kernel
theorem dX11_piece_58 : decode cX11_piece 58 = .ok (.ireturn, 1) := by decide +kernel
theorem dX11_take_0 : decode cX11_take 0 = .ok (.aload_n 0, 1) := by decide +kernel
theorem dX11_take_1 : decode cX11_take 1 = .ok (.iload_n 1, 1) := by decide +kernel
theorem dX11_take_2 : decode cX11_take 2 = .ok (.invokevirtual 185, 3) := by decide +kernel
theorem dX11_take_5 : decode cX11_take 5 = .ok (.ifCond .ne 6, 3) := by decide +kernel
theorem dX11_take_8 : decode cX11_take 8 = .ok (.ldc 188, 2) := by decide +kernel
theorem dX11_take_10 : decode cX11_take 10 = .ok (.ireturn, 1) := by decide +kernel
theorem dX11_take_11 : decode cX11_take 11 = .ok (.aload_n 0, 1) := by decide +kernel
theorem dX11_take_12 : decode cX11_take 12 = .ok (.invokevirtual 153, 3) := by decide +kernel
theorem dX11_take_15 : decode cX11_take 15 = .ok (.iload_n 1, 1) := by decide +kernel
theorem dX11_take_16 : decode cX11_take 16 = .ok (.istore_n 2, 1) := by decide +kernel
theorem dX11_take_17 : decode cX11_take 17 = .ok (.iload_n 2, 1) := by decide +kernel
theorem dX11_take_18 : decode cX11_take 18 = .ok (.aload_n 0, 1) := by decide +kernel
theorem dX11_take_19 : decode cX11_take 19 = .ok (.getfield 7, 3) := by decide +kernel
theorem dX11_take_22 : decode cX11_take 22 = .ok (.iconst 1, 1) := by decide +kernel
theorem dX11_take_23 : decode cX11_take 23 = .ok (.iaload, 1) := by decide +kernel
theorem dX11_take_24 : decode cX11_take 24 = .ok (.iconst 1, 1) := by decide +kernel
theorem dX11_take_25 : decode cX11_take 25 = .ok (.isub, 1) := by decide +kernel
theorem dX11_take_26 : decode cX11_take 26 = .ok (.if_icmp .ge 49, 3) := by decide +kernel
theorem dX11_take_29 : decode cX11_take 29 = .ok (.aload_n 0, 1) := by decide +kernel
theorem dX11_take_30 : decode cX11_take 30 = .ok (.getfield 7, 3) := by decide +kernel
theorem dX11_take_33 : decode cX11_take 33 = .ok (.bipush 6, 2) := by decide +kernel
theorem dX11_take_35 : decode cX11_take 35 = .ok (.iload_n 2, 1) := by decide +kernel
theorem dX11_take_36 : decode cX11_take 36 = .ok (.iadd, 1) := by decide +kernel
theorem dX11_take_37 : decode cX11_take 37 = .ok (.aload_n 0, 1) := by decide +kernel
theorem dX11_take_38 : decode cX11_take 38 = .ok (.getfield 7, 3) := by decide +kernel
theorem dX11_take_41 : decode cX11_take 41 = .ok (.bipush 6, 2) := by decide +kernel
theorem dX11_take_43 : decode cX11_take 43 = .ok (.iload_n 2, 1) := by decide +kernel
theorem dX11_take_44 : decode cX11_take 44 = .ok (.iadd, 1) := by decide +kernel
theorem dX11_take_45 : decode cX11_take 45 = .ok (.iconst 1, 1) := by decide +kernel
theorem dX11_take_46 : decode cX11_take 46 = .ok (.iadd, 1) := by decide +kernel
theorem dX11_take_47 : decode cX11_take 47 = .ok (.iaload, 1) := by decide +kernel
theorem dX11_take_48 : decode cX11_take 48 = .ok (.iastore, 1) := by decide +kernel
theorem dX11_take_49 : decode cX11_take 49 = .ok (.aload_n 0, 1) := by decide +kernel
theorem dX11_take_50 : decode cX11_take 50 = .ok (.getfield 7, 3) := by decide +kernel
theorem dX11_take_53 : decode cX11_take 53 = .ok (.bipush 46, 2) := by decide +kernel
theorem dX11_take_55 : decode cX11_take 55 = .ok (.iload_n 2, 1) := by decide +kernel
theorem dX11_take_56 : decode cX11_take 56 = .ok (.iadd, 1) := by decide +kernel
theorem dX11_take_57 : decode cX11_take 57 = .ok (.aload_n 0, 1) := by decide +kernel
theorem dX11_take_58 : decode cX11_take 58 = .ok (.getfield 7, 3) := by decide +kernel
theorem dX11_take_61 : decode cX11_take 61 = .ok (.bipush 46, 2) := by decide +kernel
theorem dX11_take_63 : decode cX11_take 63 = .ok (.iload_n 2, 1) := by decide +kernel
theorem dX11_take_64 : decode cX11_take 64 = .ok (.iadd, 1) := by decide +kernel
theorem dX11_take_65 : decode cX11_take 65 = .ok (.iconst 1, 1) := by decide +kernel
theorem dX11_take_66 : decode cX11_take 66 = .ok (.iadd, 1) := by decide +kernel
theorem dX11_take_67 : decode cX11_take 67 = .ok (.iaload, 1) := by decide +kernel
theorem dX11_take_68 : decode cX11_take 68 = .ok (.iastore, 1) := by decide +kernel
theorem dX11_take_69 : decode cX11_take 69 = .ok (.iinc 2 1, 3) := by decide +kernel
theorem dX11_take_72 : decode cX11_take 72 = .ok (.goto (-55), 3) := by decide +kernel
theorem dX11_take_75 : decode cX11_take 75 = .ok (.aload_n 0, 1) := by decide +kernel
theorem dX11_take_76 : decode cX11_take 76 = .ok (.getfield 7, 3) := by decide +kernel
theorem dX11_take_79 : decode cX11_take 79 = .ok (.iconst 1, 1) := by decide +kernel
theorem dX11_take_80 : decode cX11_take 80 = .ok (.dup2, 1) := by decide +kernel
theorem dX11_take_81 : decode cX11_take 81 = .ok (.iaload, 1) := by decide +kernel
theorem dX11_take_82 : decode cX11_take 82 = .ok (.iconst 1, 1) := by decide +kernel
theorem dX11_take_83 : decode cX11_take 83 = .ok (.isub, 1) := by decide +kernel
theorem dX11_take_84 : decode cX11_take 84 = .ok (.iastore, 1) := by decide +kernel
theorem dX11_take_85 : decode cX11_take 85 = .ok (.aload_n 0, 1) := by decide +kernel
theorem dX11_take_86 : decode cX11_take 86 = .ok (.getfield 7, 3) := by decide +kernel
theorem dX11_take_89 : decode cX11_take 89 = .ok (.iconst 1, 1) := by decide +kernel
theorem dX11_take_90 : decode cX11_take 90 = .ok (.iaload, 1) := by decide +kernel
theorem dX11_take_91 : decode cX11_take 91 = .ok (.ireturn, 1) := by decide +kernel
theorem dX11_move_0 : decode cX11_move 0 = .ok (.aload_n 0, 1) := by decide +kernel
theorem dX11_move_1 : decode cX11_move 1 = .ok (.iload_n 1, 1) := by decide +kernel
theorem dX11_move_2 : decode cX11_move 2 = .ok (.invokevirtual 185, 3) := by decide +kernel
theorem dX11_move_5 : decode cX11_move 5 = .ok (.ifCond .eq 11, 3) := by decide +kernel
theorem dX11_move_8 : decode cX11_move 8 = .ok (.aload_n 0, 1) := by decide +kernel
theorem dX11_move_9 : decode cX11_move 9 = .ok (.iload_n 2, 1) := by decide +kernel
theorem dX11_move_10 : decode cX11_move 10 = .ok (.invokevirtual 164, 3) := by decide +kernel
theorem dX11_move_13 : decode cX11_move 13 = .ok (.ifCond .ne 6, 3) := by decide +kernel
theorem dX11_move_16 : decode cX11_move 16 = .ok (.ldc 188, 2) := by decide +kernel
theorem dX11_move_18 : decode cX11_move 18 = .ok (.ireturn, 1) := by decide +kernel
theorem dX11_move_19 : decode cX11_move 19 = .ok (.aload_n 0, 1) := by decide +kernel
theorem dX11_move_20 : decode cX11_move 20 = .ok (.invokevirtual 153, 3) := by decide +kernel
theorem dX11_move_23 : decode cX11_move 23 = .ok (.aload_n 0, 1) := by decide +kernel
theorem dX11_move_24 : decode cX11_move 24 = .ok (.getfield 7, 3) := by decide +kernel
theorem dX11_move_27 : decode cX11_move 27 = .ok (.bipush 6, 2) := by decide +kernel
theorem dX11_move_29 : decode cX11_move 29 = .ok (.iload_n 1, 1) := by decide +kernel
theorem dX11_move_30 : decode cX11_move 30 = .ok (.iadd, 1) := by decide +kernel
theorem dX11_move_31 : decode cX11_move 31 = .ok (.iaload, 1) := by decide +kernel
theorem dX11_move_32 : decode cX11_move 32 = .ok (.istore_n 3, 1) := by decide +kernel
theorem dX11_move_33 : decode cX11_move 33 = .ok (.aload_n 0, 1) := by decide +kernel
theorem dX11_move_34 : decode cX11_move 34 = .ok (.getfield 7, 3) := by decide +kernel
theorem dX11_move_37 : decode cX11_move 37 = .ok (.bipush 6, 2) := by decide +kernel
theorem dX11_move_39 : decode cX11_move 39 = .ok (.iload_n 1, 1) := by decide +kernel
theorem dX11_move_40 : decode cX11_move 40 = .ok (.iadd, 1) := by decide +kernel
theorem dX11_move_41 : decode cX11_move 41 = .ok (.iload_n 2, 1) := by decide +kernel
theorem dX11_move_42 : decode cX11_move 42 = .ok (.iastore, 1) := by decide +kernel
theorem dX11_move_43 : decode cX11_move 43 = .ok (.iload_n 3, 1) := by decide +kernel
theorem dX11_move_44 : decode cX11_move 44 = .ok (.ireturn, 1) := by decide +kernel
theorem dX11_days_0 : decode cX11_days 0 = .ok (.iload_n 1, 1) := by decide +kernel
theorem dX11_days_1 : decode cX11_days 1 = .ok (.i2l, 1) := by decide +kernel
theorem dX11_days_2 : decode cX11_days 2 = .ok (.lconst 1, 1) := by decide +kernel
theorem dX11_days_3 : decode cX11_days 3 = .ok (.ldc2_w 210, 3) := by decide +kernel
theorem dX11_days_6 : decode cX11_days 6 = .ok (.invokestatic 94, 3) := by decide +kernel
theorem dX11_days_9 : decode cX11_days 9 = .ok (.ifCond .ne 6, 3) := by decide +kernel
theorem dX11_days_12 : decode cX11_days 12 = .ok (.ldc 147, 2) := by decide +kernel
theorem dX11_days_14 : decode cX11_days 14 = .ok (.ireturn, 1) := by decide +kernel
theorem dX11_days_15 : decode cX11_days 15 = .ok (.iconst 0, 1) := by decide +kernel
theorem dX11_days_16 : decode cX11_days 16 = .ok (.istore_n 2, 1) := by decide +kernel
theorem dX11_days_17 : decode cX11_days 17 = .ok (.iload_n 2, 1) := by decide +kernel
theorem dX11_days_18 : decode cX11_days 18 = .ok (.aload_n 0, 1) := by decide +kernel
theorem dX11_days_19 : decode cX11_days 19 = .ok (.getfield 7, 3) := by decide +kernel
theorem dX11_days_22 : decode cX11_days 22 = .ok (.iconst 1, 1) := by decide +kernel
theorem dX11_days_23 : decode cX11_days 23 = .ok (.iaload, 1) := by decide +kernel
theorem dX11_days_24 : decode cX11_days 24 = .ok (.if_icmp .ge 25, 3) := by decide +kernel
theorem dX11_days_27 : decode cX11_days 27 = .ok (.aload_n 0, 1) := by decide +kernel
theorem dX11_days_28 : decode cX11_days 28 = .ok (.getfield 7, 3) := by decide +kernel
theorem dX11_days_31 : decode cX11_days 31 = .ok (.bipush 6, 2) := by decide +kernel
theorem dX11_days_33 : decode cX11_days 33 = .ok (.iload_n 2, 1) := by decide +kernel
theorem dX11_days_34 : decode cX11_days 34 = .ok (.iadd, 1) := by decide +kernel
theorem dX11_days_35 : decode cX11_days 35 = .ok (.iaload, 1) := by decide +kernel
theorem dX11_days_36 : decode cX11_days 36 = .ok (.iload_n 1, 1) := by decide +kernel
theorem dX11_days_37 : decode cX11_days 37 = .ok (.if_icmp .lt 6, 3) := by decide +kernel
theorem dX11_days_40 : decode cX11_days 40 = .ok (.ldc 212, 2) := by decide +kernel
theorem dX11_days_42 : decode cX11_days 42 = .ok (.ireturn, 1) := by decide +kernel
theorem dX11_days_43 : decode cX11_days 43 = .ok (.iinc 2 1, 3) := by decide +kernel
theorem dX11_days_46 : decode cX11_days 46 = .ok (.goto (-29), 3) := by decide +kernel
theorem dX11_days_49 : decode cX11_days 49 = .ok (.aload_n 0, 1) := by decide +kernel
theorem dX11_days_50 : decode cX11_days 50 = .ok (.invokevirtual 153, 3) := by decide +kernel
theorem dX11_days_53 : decode cX11_days 53 = .ok (.aload_n 0, 1) := by decide +kernel
theorem dX11_days_54 : decode cX11_days 54 = .ok (.getfield 7, 3) := by decide +kernel
theorem dX11_days_57 : decode cX11_days 57 = .ok (.iconst 0, 1) := by decide +kernel
theorem dX11_days_58 : decode cX11_days 58 = .ok (.iaload, 1) := by decide +kernel
theorem dX11_days_59 : decode cX11_days 59 = .ok (.istore_n 2, 1) := by decide +kernel
theorem dX11_days_60 : decode cX11_days 60 = .ok (.aload_n 0, 1) := by decide +kernel
theorem dX11_days_61 : decode cX11_days 61 = .ok (.getfield 7, 3) := by decide +kernel
theorem dX11_days_64 : decode cX11_days 64 = .ok (.iconst 0, 1) := by decide +kernel
theorem dX11_days_65 : decode cX11_days 65 = .ok (.iload_n 1, 1) := by decide +kernel
theorem dX11_days_66 : decode cX11_days 66 = .ok (.iastore, 1) := by decide +kernel
theorem dX11_days_67 : decode cX11_days 67 = .ok (.iload_n 2, 1) := by decide +kernel
theorem dX11_days_68 : decode cX11_days 68 = .ok (.ireturn, 1) := by decide +kernel
theorem dX11_term_0 : decode cX11_term 0 = .ok (.iload_n 1, 1) := by decide +kernel
theorem dX11_term_1 : decode cX11_term 1 = .ok (.i2l, 1) := by decide +kernel
theorem dX11_term_2 : decode cX11_term 2 = .ok (.lconst 0, 1) := by decide +kernel
theorem dX11_term_3 : decode cX11_term 3 = .ok (.ldc2_w 213, 3) := by decide +kernel
theorem dX11_term_6 : decode cX11_term 6 = .ok (.invokestatic 94, 3) := by decide +kernel
theorem dX11_term_9 : decode cX11_term 9 = .ok (.ifCond .eq 45, 3) := by decide +kernel
theorem dX11_term_12 : decode cX11_term 12 = .ok (.iload_n 2, 1) := by decide +kernel
theorem dX11_term_13 : decode cX11_term 13 = .ok (.i2l, 1) := by decide +kernel
theorem dX11_term_14 : decode cX11_term 14 = .ok (.iload_n 1, 1) := by decide +kernel
theorem dX11_term_15 : decode cX11_term 15 = .ok (.iconst 3, 1) := by decide +kernel
theorem dX11_term_16 : decode cX11_term 16 = .ok (.if_icmp .ne 7, 3) := by decide +kernel
theorem dX11_term_19 : decode cX11_term 19 = .ok (.lconst 0, 1) := by decide +kernel
theorem dX11_term_20 : decode cX11_term 20 = .ok (.goto 4, 3) := by decide +kernel
theorem dX11_term_23 : decode cX11_term 23 = .ok (.lconst 1, 1) := by decide +kernel
theorem dX11_term_24 : decode cX11_term 24 = .ok (.iload_n 1, 1) := by decide +kernel
theorem dX11_term_25 : decode cX11_term 25 = .ok (.ifCond .ne 9, 3) := by decide +kernel
theorem dX11_term_28 : decode cX11_term 28 = .ok (.ldc2_w 213, 3) := by decide +kernel
theorem dX11_term_31 : decode cX11_term 31 = .ok (.goto 17, 3) := by decide +kernel
theorem dX11_term_34 : decode cX11_term 34 = .ok (.iload_n 1, 1) := by decide +kernel
theorem dX11_term_35 : decode cX11_term 35 = .ok (.iconst 3, 1) := by decide +kernel
theorem dX11_term_36 : decode cX11_term 36 = .ok (.if_icmp .ne 9, 3) := by decide +kernel
theorem dX11_term_39 : decode cX11_term 39 = .ok (.ldc2_w 215, 3) := by decide +kernel
theorem dX11_term_42 : decode cX11_term 42 = .ok (.goto 6, 3) := by decide +kernel
theorem dX11_term_45 : decode cX11_term 45 = .ok (.ldc2_w 217, 3) := by decide +kernel
theorem dX11_term_48 : decode cX11_term 48 = .ok (.invokestatic 94, 3) := by decide +kernel
theorem dX11_term_51 : decode cX11_term 51 = .ok (.ifCond .ne 6, 3) := by decide +kernel
theorem dX11_term_54 : decode cX11_term 54 = .ok (.ldc 147, 2) := by decide +kernel
theorem dX11_term_56 : decode cX11_term 56 = .ok (.ireturn, 1) := by decide +kernel
theorem dX11_term_57 : decode cX11_term 57 = .ok (.aload_n 0, 1) := by decide +kernel
theorem dX11_term_58 : decode cX11_term 58 = .ok (.invokevirtual 153, 3) := by decide +kernel
theorem dX11_term_61 : decode cX11_term 61 = .ok (.aload_n 0, 1) := by decide +kernel
theorem dX11_term_62 : decode cX11_term 62 = .ok (.getfield 7, 3) := by decide +kernel
theorem dX11_term_65 : decode cX11_term 65 = .ok (.iconst 2, 1) := by decide +kernel
theorem dX11_term_66 : decode cX11_term 66 = .ok (.iload_n 1, 1) := by decide +kernel
theorem dX11_term_67 : decode cX11_term 67 = .ok (.iadd, 1) := by decide +kernel
theorem dX11_term_68 : decode cX11_term 68 = .ok (.iaload, 1) := by decide +kernel
theorem dX11_term_69 : decode cX11_term 69 = .ok (.istore_n 3, 1) := by decide +kernel
theorem dX11_term_70 : decode cX11_term 70 = .ok (.aload_n 0, 1) := by decide +kernel
theorem dX11_term_71 : decode cX11_term 71 = .ok (.getfield 7, 3) := by decide +kernel
theorem dX11_term_74 : decode cX11_term 74 = .ok (.iconst 2, 1) := by decide +kernel
theorem dX11_term_75 : decode cX11_term 75 = .ok (.iload_n 1, 1) := by decide +kernel
theorem dX11_term_76 : decode cX11_term 76 = .ok (.iadd, 1) := by decide +kernel
theorem dX11_term_77 : decode cX11_term 77 = .ok (.iload_n 2, 1) := by decide +kernel
theorem dX11_term_78 : decode cX11_term 78 = .ok (.iastore, 1) := by decide +kernel
theorem dX11_term_79 : decode cX11_term 79 = .ok (.iload_n 3, 1) := by decide +kernel
theorem dX11_term_80 : decode cX11_term 80 = .ok (.ireturn, 1) := by decide +kernel
theorem dX11_draw_0 : decode cX11_draw 0 = .ok (.aload_n 0, 1) := by decide +kernel
theorem dX11_draw_1 : decode cX11_draw 1 = .ok (.aload_n 0, 1) := by decide +kernel
theorem dX11_draw_2 : decode cX11_draw 2 = .ok (.getfield 173, 3) := by decide +kernel
theorem dX11_draw_5 : decode cX11_draw 5 = .ok (.i2l, 1) := by decide +kernel
theorem dX11_draw_6 : decode cX11_draw 6 = .ok (.ldc2_w 219, 3) := by decide +kernel
theorem dX11_draw_9 : decode cX11_draw 9 = .ok (.lmul, 1) := by decide +kernel
theorem dX11_draw_10 : decode cX11_draw 10 = .ok (.ldc2_w 221, 3) := by decide +kernel
theorem dX11_draw_13 : decode cX11_draw 13 = .ok (.ladd, 1) := by decide +kernel
theorem dX11_draw_14 : decode cX11_draw 14 = .ok (.ldc2_w 223, 3) := by decide +kernel
theorem dX11_draw_17 : decode cX11_draw 17 = .ok (.lrem, 1) := by decide +kernel
theorem dX11_draw_18 : decode cX11_draw 18 = .ok (.l2i, 1) := by decide +kernel
theorem dX11_draw_19 : decode cX11_draw 19 = .ok (.putfield 173, 3) := by decide +kernel
theorem dX11_draw_22 : decode cX11_draw 22 = .ok (.aload_n 0, 1) := by decide +kernel
theorem dX11_draw_23 : decode cX11_draw 23 = .ok (.getfield 173, 3) := by decide +kernel
theorem dX11_draw_26 : decode cX11_draw 26 = .ok (.ldc 225, 2) := by decide +kernel
theorem dX11_draw_28 : decode cX11_draw 28 = .ok (.idiv, 1) := by decide +kernel
theorem dX11_draw_29 : decode cX11_draw 29 = .ok (.iload_n 1, 1) := by decide +kernel
theorem dX11_draw_30 : decode cX11_draw 30 = .ok (.irem, 1) := by decide +kernel
theorem dX11_draw_31 : decode cX11_draw 31 = .ok (.ireturn, 1) := by decide +kernel
theorem dX11_drift_0 : decode cX11_drift 0 = .ok (.iload_n 1, 1) := by decide +kernel
theorem dX11_drift_1 : decode cX11_drift 1 = .ok (.i2l, 1) := by decide +kernel
theorem dX11_drift_2 : decode cX11_drift 2 = .ok (.lconst 1, 1) := by decide +kernel
theorem dX11_drift_3 : decode cX11_drift 3 = .ok (.ldc2_w 210, 3) := by decide +kernel
theorem dX11_drift_6 : decode cX11_drift 6 = .ok (.invokestatic 94, 3) := by decide +kernel
theorem dX11_drift_9 : decode cX11_drift 9 = .ok (.ifCond .ne 6, 3) := by decide +kernel
theorem dX11_drift_12 : decode cX11_drift 12 = .ok (.ldc 147, 2) := by decide +kernel
theorem dX11_drift_14 : decode cX11_drift 14 = .ok (.ireturn, 1) := by decide +kernel
theorem dX11_drift_15 : decode cX11_drift 15 = .ok (.iconst 0, 1) := by decide +kernel
theorem dX11_drift_16 : decode cX11_drift 16 = .ok (.istore_n 2, 1) := by decide +kernel
theorem dX11_drift_17 : decode cX11_drift 17 = .ok (.iload_n 2, 1) := by decide +kernel
theorem dX11_drift_18 : decode cX11_drift 18 = .ok (.iload_n 1, 1) := by decide +kernel
theorem dX11_drift_19 : decode cX11_drift 19 = .ok (.if_icmp .ge 47, 3) := by decide +kernel
theorem dX11_drift_22 : decode cX11_drift 22 = .ok (.aload_n 0, 1) := by decide +kernel
theorem dX11_drift_23 : decode cX11_drift 23 = .ok (.getfield 7, 3) := by decide +kernel
theorem dX11_drift_26 : decode cX11_drift 26 = .ok (.iconst 1, 1) := by decide +kernel
theorem dX11_drift_27 : decode cX11_drift 27 = .ok (.iaload, 1) := by decide +kernel
theorem dX11_drift_28 : decode cX11_drift 28 = .ok (.bipush 40, 2) := by decide +kernel
theorem dX11_drift_30 : decode cX11_drift 30 = .ok (.if_icmp .ge 36, 3) := by decide +kernel
theorem dX11_drift_33 : decode cX11_drift 33 = .ok (.aload_n 0, 1) := by decide +kernel
theorem dX11_drift_34 : decode cX11_drift 34 = .ok (.invokevirtual 153, 3) := by decide +kernel
theorem dX11_drift_37 : decode cX11_drift 37 = .ok (.aload_n 0, 1) := by decide +kernel
theorem dX11_drift_38 : decode cX11_drift 38 = .ok (.aload_n 0, 1) := by decide +kernel
theorem dX11_drift_39 : decode cX11_drift 39 = .ok (.getfield 7, 3) := by decide +kernel
theorem dX11_drift_42 : decode cX11_drift 42 = .ok (.iconst 0, 1) := by decide +kernel
theorem dX11_drift_43 : decode cX11_drift 43 = .ok (.iaload, 1) := by decide +kernel
theorem dX11_drift_44 : decode cX11_drift 44 = .ok (.invokevirtual 226, 3) := by decide +kernel
theorem dX11_drift_47 : decode cX11_drift 47 = .ok (.istore_n 3, 1) := by decide +kernel
theorem dX11_drift_48 : decode cX11_drift 48 = .ok (.aload_n 0, 1) := by decide +kernel
theorem dX11_drift_49 : decode cX11_drift 49 = .ok (.iload_n 3, 1) := by decide +kernel
theorem dX11_drift_50 : decode cX11_drift 50 = .ok (.aload_n 0, 1) := by decide +kernel
theorem dX11_drift_51 : decode cX11_drift 51 = .ok (.sipush 256, 3) := by decide +kernel
theorem dX11_drift_54 : decode cX11_drift 54 = .ok (.invokevirtual 226, 3) := by decide +kernel
theorem dX11_drift_57 : decode cX11_drift 57 = .ok (.invokevirtual 156, 3) := by decide +kernel
theorem dX11_drift_60 : decode cX11_drift 60 = .ok (.iinc 2 1, 3) := by decide +kernel
theorem dX11_drift_63 : decode cX11_drift 63 = .ok (.goto (-46), 3) := by decide +kernel
theorem dX11_drift_66 : decode cX11_drift 66 = .ok (.aload_n 0, 1) := by decide +kernel
theorem dX11_drift_67 : decode cX11_drift 67 = .ok (.getfield 7, 3) := by decide +kernel
theorem dX11_drift_70 : decode cX11_drift 70 = .ok (.iconst 1, 1) := by decide +kernel
theorem dX11_drift_71 : decode cX11_drift 71 = .ok (.iaload, 1) := by decide +kernel
theorem dX11_drift_72 : decode cX11_drift 72 = .ok (.ireturn, 1) := by decide +kernel
theorem dX11_undo_0 : decode cX11_undo 0 = .ok (.iload_n 1, 1) := by decide +kernel
theorem dX11_undo_1 : decode cX11_undo 1 = .ok (.i2l, 1) := by decide +kernel
theorem dX11_undo_2 : decode cX11_undo 2 = .ok (.lconst 1, 1) := by decide +kernel
theorem dX11_undo_3 : decode cX11_undo 3 = .ok (.ldc2_w 229, 3) := by decide +kernel
theorem dX11_undo_6 : decode cX11_undo 6 = .ok (.invokestatic 94, 3) := by decide +kernel
theorem dX11_undo_9 : decode cX11_undo 9 = .ok (.ifCond .ne 6, 3) := by decide +kernel
theorem dX11_undo_12 : decode cX11_undo 12 = .ok (.ldc 147, 2) := by decide +kernel
theorem dX11_undo_14 : decode cX11_undo 14 = .ok (.ireturn, 1) := by decide +kernel
theorem dX11_undo_15 : decode cX11_undo 15 = .ok (.iload_n 1, 1) := by decide +kernel
theorem dX11_undo_16 : decode cX11_undo 16 = .ok (.aload_n 0, 1) := by decide +kernel
theorem dX11_undo_17 : decode cX11_undo 17 = .ok (.getfield 63, 3) := by decide +kernel
theorem dX11_undo_20 : decode cX11_undo 20 = .ok (.if_icmp .le 6, 3) := by decide +kernel
theorem dX11_undo_23 : decode cX11_undo 23 = .ok (.ldc 212, 2) := by decide +kernel
theorem dX11_undo_25 : decode cX11_undo 25 = .ok (.ireturn, 1) := by decide +kernel
theorem dX11_undo_26 : decode cX11_undo 26 = .ok (.iconst 0, 1) := by decide +kernel
theorem dX11_undo_27 : decode cX11_undo 27 = .ok (.istore_n 2, 1) := by decide +kernel
theorem dX11_undo_28 : decode cX11_undo 28 = .ok (.iload_n 2, 1) := by decide +kernel
theorem dX11_undo_29 : decode cX11_undo 29 = .ok (.iload_n 1, 1) := by decide +kernel
theorem dX11_undo_30 : decode cX11_undo 30 = .ok (.iadd, 1) := by decide +kernel
theorem dX11_undo_31 : decode cX11_undo 31 = .ok (.bipush 16, 2) := by decide +kernel
theorem dX11_undo_33 : decode cX11_undo 33 = .ok (.if_icmp .gt 23, 3) := by decide +kernel
theorem dX11_undo_36 : decode cX11_undo 36 = .ok (.aload_n 0, 1) := by decide +kernel
theorem dX11_undo_37 : decode cX11_undo 37 = .ok (.bipush 86, 2) := by decide +kernel
theorem dX11_undo_39 : decode cX11_undo 39 = .ok (.iload_n 2, 1) := by decide +kernel
theorem dX11_undo_40 : decode cX11_undo 40 = .ok (.iload_n 1, 1) := by decide +kernel
theorem dX11_undo_41 : decode cX11_undo 41 = .ok (.iadd, 1) := by decide +kernel
theorem dX11_undo_42 : decode cX11_undo 42 = .ok (.imul, 1) := by decide +kernel
theorem dX11_undo_43 : decode cX11_undo 43 = .ok (.bipush 86, 2) := by decide +kernel
theorem dX11_undo_45 : decode cX11_undo 45 = .ok (.iload_n 2, 1) := by decide +kernel
theorem dX11_undo_46 : decode cX11_undo 46 = .ok (.imul, 1) := by decide +kernel
theorem dX11_undo_47 : decode cX11_undo 47 = .ok (.invokevirtual 59, 3) := by decide +kernel
theorem dX11_undo_50 : decode cX11_undo 50 = .ok (.iinc 2 1, 3) := by decide +kernel
theorem dX11_undo_53 : decode cX11_undo 53 = .ok (.goto (-25), 3) := by decide +kernel
theorem dX11_undo_56 : decode cX11_undo 56 = .ok (.aload_n 0, 1) := by decide +kernel
theorem dX11_undo_57 : decode cX11_undo 57 = .ok (.dup, 1) := by decide +kernel
theorem dX11_undo_58 : decode cX11_undo 58 = .ok (.getfield 63, 3) := by decide +kernel
theorem dX11_undo_61 : decode cX11_undo 61 = .ok (.iload_n 1, 1) := by decide +kernel
theorem dX11_undo_62 : decode cX11_undo 62 = .ok (.isub, 1) := by decide +kernel
theorem dX11_undo_63 : decode cX11_undo 63 = .ok (.putfield 63, 3) := by decide +kernel
theorem dX11_undo_66 : decode cX11_undo 66 = .ok (.aload_n 0, 1) := by decide +kernel
theorem dX11_undo_67 : decode cX11_undo 67 = .ok (.getfield 7, 3) := by decide +kernel
theorem dX11_undo_70 : decode cX11_undo 70 = .ok (.iconst 1, 1) := by decide +kernel
theorem dX11_undo_71 : decode cX11_undo 71 = .ok (.iaload, 1) := by decide +kernel
theorem dX11_undo_72 : decode cX11_undo 72 = .ok (.ireturn, 1) := by decide +kernel
theorem dX11_write_0 : decode cX11_write 0 = .ok (.iload_n 1, 1) := by decide +kernel
theorem dX11_write_1 : decode cX11_write 1 = .ok (.invokestatic 195, 3) := by decide +kernel
theorem dX11_write_4 : decode cX11_write 4 = .ok (.ifCond .eq 11, 3) := by decide +kernel
theorem dX11_write_7 : decode cX11_write 7 = .ok (.aload_n 0, 1) := by decide +kernel
theorem dX11_write_8 : decode cX11_write 8 = .ok (.iload_n 2, 1) := by decide +kernel
theorem dX11_write_9 : decode cX11_write 9 = .ok (.invokevirtual 164, 3) := by decide +kernel
theorem dX11_write_12 : decode cX11_write 12 = .ok (.ifCond .ne 6, 3) := by decide +kernel
theorem dX11_write_15 : decode cX11_write 15 = .ok (.ldc 188, 2) := by decide +kernel
theorem dX11_write_17 : decode cX11_write 17 = .ok (.ireturn, 1) := by decide +kernel
theorem dX11_write_18 : decode cX11_write 18 = .ok (.aload_n 0, 1) := by decide +kernel
theorem dX11_write_19 : decode cX11_write 19 = .ok (.getfield 161, 3) := by decide +kernel
theorem dX11_write_22 : decode cX11_write 22 = .ok (.bipush 20, 2) := by decide +kernel
theorem dX11_write_24 : decode cX11_write 24 = .ok (.if_icmp .ne 6, 3) := by decide +kernel
theorem dX11_write_27 : decode cX11_write 27 = .ok (.ldc 148, 2) := by decide +kernel
theorem dX11_write_29 : decode cX11_write 29 = .ok (.ireturn, 1) := by decide +kernel
theorem dX11_write_30 : decode cX11_write 30 = .ok (.aload_n 0, 1) := by decide +kernel
theorem dX11_write_31 : decode cX11_write 31 = .ok (.getfield 23, 3) := by decide +kernel
theorem dX11_write_34 : decode cX11_write 34 = .ok (.aload_n 0, 1) := by decide +kernel
theorem dX11_write_35 : decode cX11_write 35 = .ok (.getfield 161, 3) := by decide +kernel
theorem dX11_write_38 : decode cX11_write 38 = .ok (.iload_n 1, 1) := by decide +kernel
theorem dX11_write_39 : decode cX11_write 39 = .ok (.iastore, 1) := by decide +kernel
theorem dX11_write_40 : decode cX11_write 40 = .ok (.aload_n 0, 1) := by decide +kernel
theorem dX11_write_41 : decode cX11_write 41 = .ok (.getfield 26, 3) := by decide +kernel
theorem dX11_write_44 : decode cX11_write 44 = .ok (.aload_n 0, 1) := by decide +kernel
theorem dX11_write_45 : decode cX11_write 45 = .ok (.getfield 161, 3) := by decide +kernel
theorem dX11_write_48 : decode cX11_write 48 = .ok (.iload_n 2, 1) := by decide +kernel
theorem dX11_write_49 : decode cX11_write 49 = .ok (.iastore, 1) := by decide +kernel
theorem dX11_write_50 : decode cX11_write 50 = .ok (.aload_n 0, 1) := by decide +kernel
theorem dX11_write_51 : decode cX11_write 51 = .ok (.getfield 29, 3) := by decide +kernel
theorem dX11_write_54 : decode cX11_write 54 = .ok (.aload_n 0, 1) := by decide +kernel
theorem dX11_write_55 : decode cX11_write 55 = .ok (.getfield 161, 3) := by decide +kernel
theorem dX11_write_58 : decode cX11_write 58 = .ok (.iload_n 3, 1) := by decide +kernel
theorem dX11_write_59 : decode cX11_write 59 = .ok (.iastore, 1) := by decide +kernel
theorem dX11_write_60 : decode cX11_write 60 = .ok (.aload_n 0, 1) := by decide +kernel
theorem dX11_write_61 : decode cX11_write 61 = .ok (.dup, 1) := by decide +kernel
theorem dX11_write_62 : decode cX11_write 62 = .ok (.getfield 161, 3) := by decide +kernel
theorem dX11_write_65 : decode cX11_write 65 = .ok (.iconst 1, 1) := by decide +kernel
theorem dX11_write_66 : decode cX11_write 66 = .ok (.iadd, 1) := by decide +kernel
theorem dX11_write_67 : decode cX11_write 67 = .ok (.putfield 161, 3) := by decide +kernel
theorem dX11_write_70 : decode cX11_write 70 = .ok (.aload_n 0, 1) := by decide +kernel
theorem dX11_write_71 : decode cX11_write 71 = .ok (.getfield 161, 3) := by decide +kernel
theorem dX11_write_74 : decode cX11_write 74 = .ok (.ireturn, 1) := by decide +kernel
theorem dX11_tear_0 : decode cX11_tear 0 = .ok (.aload_n 0, 1) := by decide +kernel
theorem dX11_tear_1 : decode cX11_tear 1 = .ok (.getfield 161, 3) := by decide +kernel
theorem dX11_tear_4 : decode cX11_tear 4 = .ok (.istore_n 1, 1) := by decide +kernel
theorem dX11_tear_5 : decode cX11_tear 5 = .ok (.aload_n 0, 1) := by decide +kernel
theorem dX11_tear_6 : decode cX11_tear 6 = .ok (.iconst 0, 1) := by decide +kernel
theorem dX11_tear_7 : decode cX11_tear 7 = .ok (.putfield 161, 3) := by decide +kernel
theorem dX11_tear_10 : decode cX11_tear 10 = .ok (.iload_n 1, 1) := by decide +kernel
theorem dX11_tear_11 : decode cX11_tear 11 = .ok (.ireturn, 1) := by decide +kernel
theorem dX11_seed_0 : decode cX11_seed 0 = .ok (.iload_n 1, 1) := by decide +kernel
theorem dX11_seed_1 : decode cX11_seed 1 = .ok (.ifCond .ge 6, 3) := by decide +kernel
theorem dX11_seed_4 : decode cX11_seed 4 = .ok (.ldc 147, 2) := by decide +kernel
theorem dX11_seed_6 : decode cX11_seed 6 = .ok (.ireturn, 1) := by decide +kernel
theorem dX11_seed_7 : decode cX11_seed 7 = .ok (.aload_n 0, 1) := by decide +kernel
theorem dX11_seed_8 : decode cX11_seed 8 = .ok (.getfield 173, 3) := by decide +kernel
theorem dX11_seed_11 : decode cX11_seed 11 = .ok (.istore_n 2, 1) := by decide +kernel
theorem dX11_seed_12 : decode cX11_seed 12 = .ok (.aload_n 0, 1) := by decide +kernel
theorem dX11_seed_13 : decode cX11_seed 13 = .ok (.iload_n 1, 1) := by decide +kernel
theorem dX11_seed_14 : decode cX11_seed 14 = .ok (.putfield 173, 3) := by decide +kernel
theorem dX11_seed_17 : decode cX11_seed 17 = .ok (.iload_n 2, 1) := by decide +kernel
theorem dX11_seed_18 : decode cX11_seed 18 = .ok (.ireturn, 1) := by decide +kernel
theorem dX11_keep_0 : decode cX11_keep 0 = .ok (.iload_n 1, 1) := by decide +kernel
theorem dX11_keep_1 : decode cX11_keep 1 = .ok (.i2l, 1) := by decide +kernel
theorem dX11_keep_2 : decode cX11_keep 2 = .ok (.lconst 0, 1) := by decide +kernel
theorem dX11_keep_3 : decode cX11_keep 3 = .ok (.lconst 1, 1) := by decide +kernel
theorem dX11_keep_4 : decode cX11_keep 4 = .ok (.invokestatic 94, 3) := by decide +kernel
theorem dX11_keep_7 : decode cX11_keep 7 = .ok (.ifCond .ne 6, 3) := by decide +kernel
theorem dX11_keep_10 : decode cX11_keep 10 = .ok (.ldc 188, 2) := by decide +kernel
theorem dX11_keep_12 : decode cX11_keep 12 = .ok (.ireturn, 1) := by decide +kernel
theorem dX11_keep_13 : decode cX11_keep 13 = .ok (.aload_n 0, 1) := by decide +kernel
theorem dX11_keep_14 : decode cX11_keep 14 = .ok (.iconst 0, 1) := by decide +kernel
theorem dX11_keep_15 : decode cX11_keep 15 = .ok (.sipush 1462, 3) := by decide +kernel
theorem dX11_keep_18 : decode cX11_keep 18 = .ok (.bipush 86, 2) := by decide +kernel
theorem dX11_keep_20 : decode cX11_keep 20 = .ok (.iload_n 1, 1) := by decide +kernel
theorem dX11_keep_21 : decode cX11_keep 21 = .ok (.imul, 1) := by decide +kernel
theorem dX11_keep_22 : decode cX11_keep 22 = .ok (.iadd, 1) := by decide +kernel
theorem dX11_keep_23 : decode cX11_keep 23 = .ok (.invokevirtual 59, 3) := by decide +kernel
theorem dX11_keep_26 : decode cX11_keep 26 = .ok (.aload_n 0, 1) := by decide +kernel
theorem dX11_keep_27 : decode cX11_keep 27 = .ok (.getfield 13, 3) := by decide +kernel
theorem dX11_keep_30 : decode cX11_keep 30 = .ok (.iload_n 1, 1) := by decide +kernel
theorem dX11_keep_31 : decode cX11_keep 31 = .ok (.aload_n 0, 1) := by decide +kernel
theorem dX11_keep_32 : decode cX11_keep 32 = .ok (.getfield 173, 3) := by decide +kernel
theorem dX11_keep_35 : decode cX11_keep 35 = .ok (.iastore, 1) := by decide +kernel
theorem dX11_keep_36 : decode cX11_keep 36 = .ok (.aload_n 0, 1) := by decide +kernel
theorem dX11_keep_37 : decode cX11_keep 37 = .ok (.dup, 1) := by decide +kernel
theorem dX11_keep_38 : decode cX11_keep 38 = .ok (.getfield 231, 3) := by decide +kernel
theorem dX11_keep_41 : decode cX11_keep 41 = .ok (.iconst 1, 1) := by decide +kernel
theorem dX11_keep_42 : decode cX11_keep 42 = .ok (.iload_n 1, 1) := by decide +kernel
theorem dX11_keep_43 : decode cX11_keep 43 = .ok (.ishl, 1) := by decide +kernel
theorem dX11_keep_44 : decode cX11_keep 44 = .ok (.ior, 1) := by decide +kernel
theorem dX11_keep_45 : decode cX11_keep 45 = .ok (.putfield 231, 3) := by decide +kernel
theorem dX11_keep_48 : decode cX11_keep 48 = .ok (.aload_n 0, 1) := by decide +kernel
theorem dX11_keep_49 : decode cX11_keep 49 = .ok (.iconst 0, 1) := by decide +kernel
theorem dX11_keep_50 : decode cX11_keep 50 = .ok (.putfield 63, 3) := by decide +kernel
theorem dX11_keep_53 : decode cX11_keep 53 = .ok (.iconst 1, 1) := by decide +kernel
theorem dX11_keep_54 : decode cX11_keep 54 = .ok (.ireturn, 1) := by decide +kernel
theorem dX11_goBack_0 : decode cX11_goBack 0 = .ok (.iload_n 1, 1) := by decide +kernel
theorem dX11_goBack_1 : decode cX11_goBack 1 = .ok (.i2l, 1) := by decide +kernel
theorem dX11_goBack_2 : decode cX11_goBack 2 = .ok (.lconst 0, 1) := by decide +kernel
theorem dX11_goBack_3 : decode cX11_goBack 3 = .ok (.lconst 1, 1) := by decide +kernel
theorem dX11_goBack_4 : decode cX11_goBack 4 = .ok (.invokestatic 94, 3) := by decide +kernel
theorem dX11_goBack_7 : decode cX11_goBack 7 = .ok (.ifCond .ne 6, 3) := by decide +kernel
theorem dX11_goBack_10 : decode cX11_goBack 10 = .ok (.ldc 188, 2) := by decide +kernel
theorem dX11_goBack_12 : decode cX11_goBack 12 = .ok (.ireturn, 1) := by decide +kernel
theorem dX11_goBack_13 : decode cX11_goBack 13 = .ok (.aload_n 0, 1) := by decide +kernel
theorem dX11_goBack_14 : decode cX11_goBack 14 = .ok (.getfield 231, 3) := by decide +kernel
theorem dX11_goBack_17 : decode cX11_goBack 17 = .ok (.iload_n 1, 1) := by decide +kernel
theorem dX11_goBack_18 : decode cX11_goBack 18 = .ok (.invokestatic 234, 3) := by decide +kernel
theorem dX11_goBack_21 : decode cX11_goBack 21 = .ok (.ifCond .ne 6, 3) := by decide +kernel
theorem dX11_goBack_24 : decode cX11_goBack 24 = .ok (.ldc 212, 2) := by decide +kernel
theorem dX11_goBack_26 : decode cX11_goBack 26 = .ok (.ireturn, 1) := by decide +kernel
theorem dX11_goBack_27 : decode cX11_goBack 27 = .ok (.aload_n 0, 1) := by decide +kernel
theorem dX11_goBack_28 : decode cX11_goBack 28 = .ok (.sipush 1462, 3) := by decide +kernel
theorem dX11_goBack_31 : decode cX11_goBack 31 = .ok (.bipush 86, 2) := by decide +kernel
theorem dX11_goBack_33 : decode cX11_goBack 33 = .ok (.iload_n 1, 1) := by decide +kernel
theorem dX11_goBack_34 : decode cX11_goBack 34 = .ok (.imul, 1) := by decide +kernel
theorem dX11_goBack_35 : decode cX11_goBack 35 = .ok (.iadd, 1) := by decide +kernel
theorem dX11_goBack_36 : decode cX11_goBack 36 = .ok (.iconst 0, 1) := by decide +kernel
theorem dX11_goBack_37 : decode cX11_goBack 37 = .ok (.invokevirtual 59, 3) := by decide +kernel
theorem dX11_goBack_40 : decode cX11_goBack 40 = .ok (.aload_n 0, 1) := by decide +kernel
theorem dX11_goBack_41 : decode cX11_goBack 41 = .ok (.aload_n 0, 1) := by decide +kernel
theorem dX11_goBack_42 : decode cX11_goBack 42 = .ok (.getfield 13, 3) := by decide +kernel
theorem dX11_goBack_45 : decode cX11_goBack 45 = .ok (.iload_n 1, 1) := by decide +kernel
theorem dX11_goBack_46 : decode cX11_goBack 46 = .ok (.iaload, 1) := by decide +kernel
theorem dX11_goBack_47 : decode cX11_goBack 47 = .ok (.putfield 173, 3) := by decide +kernel
theorem dX11_goBack_50 : decode cX11_goBack 50 = .ok (.aload_n 0, 1) := by decide +kernel
theorem dX11_goBack_51 : decode cX11_goBack 51 = .ok (.iconst 0, 1) := by decide +kernel
theorem dX11_goBack_52 : decode cX11_goBack 52 = .ok (.putfield 63, 3) := by decide +kernel
theorem dX11_goBack_55 : decode cX11_goBack 55 = .ok (.iconst 1, 1) := by decide +kernel
theorem dX11_goBack_56 : decode cX11_goBack 56 = .ok (.ireturn, 1) := by decide +kernel
end
section
theorem dL_law_0 : decode cL_law 0 = .ok (.new 7, 3) := by decide +kernel
theorem dL_law_3 : decode cL_law 3 = .ok (.dup, 1) := by decide +kernel
theorem dL_law_4 : decode cL_law 4 = .ok (.invokespecial 9, 3) := by decide +kernel
theorem dL_law_7 : decode cL_law 7 = .ok (.astore_n 1, 1) := by decide +kernel
theorem dL_law_8 : decode cL_law 8 = .ok (.new 10, 3) := by decide +kernel
theorem dL_law_11 : decode cL_law 11 = .ok (.dup, 1) := by decide +kernel
theorem dL_law_12 : decode cL_law 12 = .ok (.invokespecial 12, 3) := by decide +kernel
theorem dL_law_15 : decode cL_law 15 = .ok (.astore_n 2, 1) := by decide +kernel
theorem dL_law_16 : decode cL_law 16 = .ok (.iconst 0, 1) := by decide +kernel
theorem dL_law_17 : decode cL_law 17 = .ok (.istore_n 3, 1) := by decide +kernel
theorem dL_law_18 : decode cL_law 18 = .ok (.iload_n 3, 1) := by decide +kernel
theorem dL_law_19 : decode cL_law 19 = .ok (.aload_n 0, 1) := by decide +kernel
theorem dL_law_20 : decode cL_law 20 = .ok (.arraylength, 1) := by decide +kernel
theorem dL_law_21 : decode cL_law 21 = .ok (.iconst 4, 1) := by decide +kernel
theorem dL_law_22 : decode cL_law 22 = .ok (.isub, 1) := by decide +kernel
theorem dL_law_23 : decode cL_law 23 = .ok (.if_icmp .gt 779, 3) := by decide +kernel
theorem dL_law_26 : decode cL_law 26 = .ok (.aload_n 0, 1) := by decide +kernel
theorem dL_law_27 : decode cL_law 27 = .ok (.iload_n 3, 1) := by decide +kernel
theorem dL_law_28 : decode cL_law 28 = .ok (.iaload, 1) := by decide +kernel
theorem dL_law_29 : decode cL_law 29 = .ok (.bipush 31, 2) := by decide +kernel
theorem dL_law_31 : decode cL_law 31 = .ok (.iand, 1) := by decide +kernel
theorem dL_law_32 : decode cL_law 32 = .ok (.tableswitch 764 0 23 #[112, 135, 148, 161, 184, 217, 250, 293, 316, 349, 382, 415, 448, 481, 504, 537, 560, 593, 616, 639, 682, 695, 718, 741], 112) := by decide +kernel
theorem dL_law_144 : decode cL_law 144 = .ok (.aload_n 1, 1) := by decide +kernel
theorem dL_law_145 : decode cL_law 145 = .ok (.aload_n 0, 1) := by decide +kernel
theorem dL_law_146 : decode cL_law 146 = .ok (.iload_n 3, 1) := by decide +kernel
theorem dL_law_147 : decode cL_law 147 = .ok (.iconst 1, 1) := by decide +kernel
theorem dL_law_148 : decode cL_law 148 = .ok (.iadd, 1) := by decide +kernel
theorem dL_law_149 : decode cL_law 149 = .ok (.iaload, 1) := by decide +kernel
theorem dL_law_150 : decode cL_law 150 = .ok (.invokevirtual 13, 3) := by decide +kernel
theorem dL_law_153 : decode cL_law 153 = .ok (.aload_n 2, 1) := by decide +kernel
theorem dL_law_154 : decode cL_law 154 = .ok (.aload_n 0, 1) := by decide +kernel
theorem dL_law_155 : decode cL_law 155 = .ok (.iload_n 3, 1) := by decide +kernel
theorem dL_law_156 : decode cL_law 156 = .ok (.iconst 1, 1) := by decide +kernel
theorem dL_law_157 : decode cL_law 157 = .ok (.iadd, 1) := by decide +kernel
theorem dL_law_158 : decode cL_law 158 = .ok (.iaload, 1) := by decide +kernel
theorem dL_law_159 : decode cL_law 159 = .ok (.invokevirtual 17, 3) := by decide +kernel
theorem dL_law_162 : decode cL_law 162 = .ok (.if_icmp .eq 634, 3) := by decide +kernel
theorem dL_law_165 : decode cL_law 165 = .ok (.iconst 0, 1) := by decide +kernel
theorem dL_law_166 : decode cL_law 166 = .ok (.ireturn, 1) := by decide +kernel
theorem dL_law_167 : decode cL_law 167 = .ok (.aload_n 1, 1) := by decide +kernel
theorem dL_law_168 : decode cL_law 168 = .ok (.invokevirtual 18, 3) := by decide +kernel
theorem dL_law_171 : decode cL_law 171 = .ok (.aload_n 2, 1) := by decide +kernel
theorem dL_law_172 : decode cL_law 172 = .ok (.invokevirtual 22, 3) := by decide +kernel
theorem dL_law_175 : decode cL_law 175 = .ok (.if_icmp .eq 621, 3) := by decide +kernel
theorem dL_law_178 : decode cL_law 178 = .ok (.iconst 0, 1) := by decide +kernel
theorem dL_law_179 : decode cL_law 179 = .ok (.ireturn, 1) := by decide +kernel
theorem dL_law_180 : decode cL_law 180 = .ok (.aload_n 1, 1) := by decide +kernel
theorem dL_law_181 : decode cL_law 181 = .ok (.invokevirtual 23, 3) := by decide +kernel
theorem dL_law_184 : decode cL_law 184 = .ok (.aload_n 2, 1) := by decide +kernel
theorem dL_law_185 : decode cL_law 185 = .ok (.invokevirtual 26, 3) := by decide +kernel
theorem dL_law_188 : decode cL_law 188 = .ok (.if_icmp .eq 608, 3) := by decide +kernel
theorem dL_law_191 : decode cL_law 191 = .ok (.iconst 0, 1) := by decide +kernel
theorem dL_law_192 : decode cL_law 192 = .ok (.ireturn, 1) := by decide +kernel
theorem dL_law_193 : decode cL_law 193 = .ok (.aload_n 1, 1) := by decide +kernel
theorem dL_law_194 : decode cL_law 194 = .ok (.aload_n 0, 1) := by decide +kernel
theorem dL_law_195 : decode cL_law 195 = .ok (.iload_n 3, 1) := by decide +kernel
theorem dL_law_196 : decode cL_law 196 = .ok (.iconst 1, 1) := by decide +kernel
theorem dL_law_197 : decode cL_law 197 = .ok (.iadd, 1) := by decide +kernel
theorem dL_law_198 : decode cL_law 198 = .ok (.iaload, 1) := by decide +kernel
theorem dL_law_199 : decode cL_law 199 = .ok (.invokevirtual 27, 3) := by decide +kernel
theorem dL_law_202 : decode cL_law 202 = .ok (.aload_n 2, 1) := by decide +kernel
theorem dL_law_203 : decode cL_law 203 = .ok (.aload_n 0, 1) := by decide +kernel
theorem dL_law_204 : decode cL_law 204 = .ok (.iload_n 3, 1) := by decide +kernel
theorem dL_law_205 : decode cL_law 205 = .ok (.iconst 1, 1) := by decide +kernel
theorem dL_law_206 : decode cL_law 206 = .ok (.iadd, 1) := by decide +kernel
theorem dL_law_207 : decode cL_law 207 = .ok (.iaload, 1) := by decide +kernel
theorem dL_law_208 : decode cL_law 208 = .ok (.invokevirtual 30, 3) := by decide +kernel
theorem dL_law_211 : decode cL_law 211 = .ok (.if_icmp .eq 585, 3) := by decide +kernel
theorem dL_law_214 : decode cL_law 214 = .ok (.iconst 0, 1) := by decide +kernel
theorem dL_law_215 : decode cL_law 215 = .ok (.ireturn, 1) := by decide +kernel
theorem dL_law_216 : decode cL_law 216 = .ok (.aload_n 1, 1) := by decide +kernel
theorem dL_law_217 : decode cL_law 217 = .ok (.aload_n 0, 1) := by decide +kernel
theorem dL_law_218 : decode cL_law 218 = .ok (.iload_n 3, 1) := by decide +kernel
theorem dL_law_219 : decode cL_law 219 = .ok (.iconst 1, 1) := by decide +kernel
theorem dL_law_220 : decode cL_law 220 = .ok (.iadd, 1) := by decide +kernel
theorem dL_law_221 : decode cL_law 221 = .ok (.iaload, 1) := by decide +kernel
theorem dL_law_222 : decode cL_law 222 = .ok (.aload_n 0, 1) := by decide +kernel
theorem dL_law_223 : decode cL_law 223 = .ok (.iload_n 3, 1) := by decide +kernel
theorem dL_law_224 : decode cL_law 224 = .ok (.iconst 2, 1) := by decide +kernel
theorem dL_law_225 : decode cL_law 225 = .ok (.iadd, 1) := by decide +kernel
theorem dL_law_226 : decode cL_law 226 = .ok (.iaload, 1) := by decide +kernel
theorem dL_law_227 : decode cL_law 227 = .ok (.invokevirtual 31, 3) := by decide +kernel
theorem dL_law_230 : decode cL_law 230 = .ok (.aload_n 2, 1) := by decide +kernel
theorem dL_law_231 : decode cL_law 231 = .ok (.aload_n 0, 1) := by decide +kernel
theorem dL_law_232 : decode cL_law 232 = .ok (.iload_n 3, 1) := by decide +kernel
theorem dL_law_233 : decode cL_law 233 = .ok (.iconst 1, 1) := by decide +kernel
theorem dL_law_234 : decode cL_law 234 = .ok (.iadd, 1) := by decide +kernel
theorem dL_law_235 : decode cL_law 235 = .ok (.iaload, 1) := by decide +kernel
theorem dL_law_236 : decode cL_law 236 = .ok (.aload_n 0, 1) := by decide +kernel
theorem dL_law_237 : decode cL_law 237 = .ok (.iload_n 3, 1) := by decide +kernel
theorem dL_law_238 : decode cL_law 238 = .ok (.iconst 2, 1) := by decide +kernel
theorem dL_law_239 : decode cL_law 239 = .ok (.iadd, 1) := by decide +kernel
theorem dL_law_240 : decode cL_law 240 = .ok (.iaload, 1) := by decide +kernel
theorem dL_law_241 : decode cL_law 241 = .ok (.invokevirtual 35, 3) := by decide +kernel
theorem dL_law_244 : decode cL_law 244 = .ok (.if_icmp .eq 552, 3) := by decide +kernel
theorem dL_law_247 : decode cL_law 247 = .ok (.iconst 0, 1) := by decide +kernel
theorem dL_law_248 : decode cL_law 248 = .ok (.ireturn, 1) := by decide +kernel
theorem dL_law_249 : decode cL_law 249 = .ok (.aload_n 1, 1) := by decide +kernel
theorem dL_law_250 : decode cL_law 250 = .ok (.aload_n 0, 1) := by decide +kernel
theorem dL_law_251 : decode cL_law 251 = .ok (.iload_n 3, 1) := by decide +kernel
theorem dL_law_252 : decode cL_law 252 = .ok (.iconst 1, 1) := by decide +kernel
theorem dL_law_253 : decode cL_law 253 = .ok (.iadd, 1) := by decide +kernel
theorem dL_law_254 : decode cL_law 254 = .ok (.iaload, 1) := by decide +kernel
theorem dL_law_255 : decode cL_law 255 = .ok (.aload_n 0, 1) := by decide +kernel
theorem dL_law_256 : decode cL_law 256 = .ok (.iload_n 3, 1) := by decide +kernel
theorem dL_law_257 : decode cL_law 257 = .ok (.iconst 2, 1) := by decide +kernel
theorem dL_law_258 : decode cL_law 258 = .ok (.iadd, 1) := by decide +kernel
theorem dL_law_259 : decode cL_law 259 = .ok (.iaload, 1) := by decide +kernel
theorem dL_law_260 : decode cL_law 260 = .ok (.invokevirtual 36, 3) := by decide +kernel
theorem dL_law_263 : decode cL_law 263 = .ok (.aload_n 2, 1) := by decide +kernel
theorem dL_law_264 : decode cL_law 264 = .ok (.aload_n 0, 1) := by decide +kernel
theorem dL_law_265 : decode cL_law 265 = .ok (.iload_n 3, 1) := by decide +kernel
theorem dL_law_266 : decode cL_law 266 = .ok (.iconst 1, 1) := by decide +kernel
theorem dL_law_267 : decode cL_law 267 = .ok (.iadd, 1) := by decide +kernel
theorem dL_law_268 : decode cL_law 268 = .ok (.iaload, 1) := by decide +kernel
theorem dL_law_269 : decode cL_law 269 = .ok (.aload_n 0, 1) := by decide +kernel
theorem dL_law_270 : decode cL_law 270 = .ok (.iload_n 3, 1) := by decide +kernel
theorem dL_law_271 : decode cL_law 271 = .ok (.iconst 2, 1) := by decide +kernel
theorem dL_law_272 : decode cL_law 272 = .ok (.iadd, 1) := by decide +kernel
theorem dL_law_273 : decode cL_law 273 = .ok (.iaload, 1) := by decide +kernel
theorem dL_law_274 : decode cL_law 274 = .ok (.invokevirtual 39, 3) := by decide +kernel
theorem dL_law_277 : decode cL_law 277 = .ok (.if_icmp .eq 519, 3) := by decide +kernel
theorem dL_law_280 : decode cL_law 280 = .ok (.iconst 0, 1) := by decide +kernel
theorem dL_law_281 : decode cL_law 281 = .ok (.ireturn, 1) := by decide +kernel
theorem dL_law_282 : decode cL_law 282 = .ok (.aload_n 1, 1) := by decide +kernel
theorem dL_law_283 : decode cL_law 283 = .ok (.aload_n 0, 1) := by decide +kernel
theorem dL_law_284 : decode cL_law 284 = .ok (.iload_n 3, 1) := by decide +kernel
theorem dL_law_285 : decode cL_law 285 = .ok (.iconst 1, 1) := by decide +kernel
theorem dL_law_286 : decode cL_law 286 = .ok (.iadd, 1) := by decide +kernel
theorem dL_law_287 : decode cL_law 287 = .ok (.iaload, 1) := by decide +kernel
theorem dL_law_288 : decode cL_law 288 = .ok (.aload_n 0, 1) := by decide +kernel
theorem dL_law_289 : decode cL_law 289 = .ok (.iload_n 3, 1) := by decide +kernel
theorem dL_law_290 : decode cL_law 290 = .ok (.iconst 2, 1) := by decide +kernel
theorem dL_law_291 : decode cL_law 291 = .ok (.iadd, 1) := by decide +kernel
theorem dL_law_292 : decode cL_law 292 = .ok (.iaload, 1) := by decide +kernel
theorem dL_law_293 : decode cL_law 293 = .ok (.aload_n 0, 1) := by decide +kernel
theorem dL_law_294 : decode cL_law 294 = .ok (.iload_n 3, 1) := by decide +kernel
theorem dL_law_295 : decode cL_law 295 = .ok (.iconst 3, 1) := by decide +kernel
theorem dL_law_296 : decode cL_law 296 = .ok (.iadd, 1) := by decide +kernel
theorem dL_law_297 : decode cL_law 297 = .ok (.iaload, 1) := by decide +kernel
theorem dL_law_298 : decode cL_law 298 = .ok (.invokevirtual 40, 3) := by decide +kernel
theorem dL_law_301 : decode cL_law 301 = .ok (.aload_n 2, 1) := by decide +kernel
theorem dL_law_302 : decode cL_law 302 = .ok (.aload_n 0, 1) := by decide +kernel
theorem dL_law_303 : decode cL_law 303 = .ok (.iload_n 3, 1) := by decide +kernel
theorem dL_law_304 : decode cL_law 304 = .ok (.iconst 1, 1) := by decide +kernel
theorem dL_law_305 : decode cL_law 305 = .ok (.iadd, 1) := by decide +kernel
theorem dL_law_306 : decode cL_law 306 = .ok (.iaload, 1) := by decide +kernel
theorem dL_law_307 : decode cL_law 307 = .ok (.aload_n 0, 1) := by decide +kernel
theorem dL_law_308 : decode cL_law 308 = .ok (.iload_n 3, 1) := by decide +kernel
theorem dL_law_309 : decode cL_law 309 = .ok (.iconst 2, 1) := by decide +kernel
theorem dL_law_310 : decode cL_law 310 = .ok (.iadd, 1) := by decide +kernel
theorem dL_law_311 : decode cL_law 311 = .ok (.iaload, 1) := by decide +kernel
theorem dL_law_312 : decode cL_law 312 = .ok (.aload_n 0, 1) := by decide +kernel
theorem dL_law_313 : decode cL_law 313 = .ok (.iload_n 3, 1) := by decide +kernel
theorem dL_law_314 : decode cL_law 314 = .ok (.iconst 3, 1) := by decide +kernel
theorem dL_law_315 : decode cL_law 315 = .ok (.iadd, 1) := by decide +kernel
theorem dL_law_316 : decode cL_law 316 = .ok (.iaload, 1) := by decide +kernel
theorem dL_law_317 : decode cL_law 317 = .ok (.invokevirtual 44, 3) := by decide +kernel
theorem dL_law_320 : decode cL_law 320 = .ok (.if_icmp .eq 476, 3) := by decide +kernel
theorem dL_law_323 : decode cL_law 323 = .ok (.iconst 0, 1) := by decide +kernel
theorem dL_law_324 : decode cL_law 324 = .ok (.ireturn, 1) := by decide +kernel
theorem dL_law_325 : decode cL_law 325 = .ok (.aload_n 1, 1) := by decide +kernel
theorem dL_law_326 : decode cL_law 326 = .ok (.aload_n 0, 1) := by decide +kernel
theorem dL_law_327 : decode cL_law 327 = .ok (.iload_n 3, 1) := by decide +kernel
theorem dL_law_328 : decode cL_law 328 = .ok (.iconst 1, 1) := by decide +kernel
theorem dL_law_329 : decode cL_law 329 = .ok (.iadd, 1) := by decide +kernel
theorem dL_law_330 : decode cL_law 330 = .ok (.iaload, 1) := by decide +kernel
theorem dL_law_331 : decode cL_law 331 = .ok (.invokevirtual 45, 3) := by decide +kernel
theorem dL_law_334 : decode cL_law 334 = .ok (.aload_n 2, 1) := by decide +kernel
theorem dL_law_335 : decode cL_law 335 = .ok (.aload_n 0, 1) := by decide +kernel
theorem dL_law_336 : decode cL_law 336 = .ok (.iload_n 3, 1) := by decide +kernel
theorem dL_law_337 : decode cL_law 337 = .ok (.iconst 1, 1) := by decide +kernel
theorem dL_law_338 : decode cL_law 338 = .ok (.iadd, 1) := by decide +kernel
theorem dL_law_339 : decode cL_law 339 = .ok (.iaload, 1) := by decide +kernel
theorem dL_law_340 : decode cL_law 340 = .ok (.invokevirtual 48, 3) := by decide +kernel
theorem dL_law_343 : decode cL_law 343 = .ok (.if_icmp .eq 453, 3) := by decide +kernel
theorem dL_law_346 : decode cL_law 346 = .ok (.iconst 0, 1) := by decide +kernel
theorem dL_law_347 : decode cL_law 347 = .ok (.ireturn, 1) := by decide +kernel
theorem dL_law_348 : decode cL_law 348 = .ok (.aload_n 1, 1) := by decide +kernel
theorem dL_law_349 : decode cL_law 349 = .ok (.aload_n 0, 1) := by decide +kernel
theorem dL_law_350 : decode cL_law 350 = .ok (.iload_n 3, 1) := by decide +kernel
theorem dL_law_351 : decode cL_law 351 = .ok (.iconst 1, 1) := by decide +kernel
theorem dL_law_352 : decode cL_law 352 = .ok (.iadd, 1) := by decide +kernel
theorem dL_law_353 : decode cL_law 353 = .ok (.iaload, 1) := by decide +kernel
theorem dL_law_354 : decode cL_law 354 = .ok (.aload_n 0, 1) := by decide +kernel
theorem dL_law_355 : decode cL_law 355 = .ok (.iload_n 3, 1) := by decide +kernel
theorem dL_law_356 : decode cL_law 356 = .ok (.iconst 2, 1) := by decide +kernel
theorem dL_law_357 : decode cL_law 357 = .ok (.iadd, 1) := by decide +kernel
theorem dL_law_358 : decode cL_law 358 = .ok (.iaload, 1) := by decide +kernel
theorem dL_law_359 : decode cL_law 359 = .ok (.invokevirtual 49, 3) := by decide +kernel
theorem dL_law_362 : decode cL_law 362 = .ok (.aload_n 2, 1) := by decide +kernel
theorem dL_law_363 : decode cL_law 363 = .ok (.aload_n 0, 1) := by decide +kernel
theorem dL_law_364 : decode cL_law 364 = .ok (.iload_n 3, 1) := by decide +kernel
theorem dL_law_365 : decode cL_law 365 = .ok (.iconst 1, 1) := by decide +kernel
theorem dL_law_366 : decode cL_law 366 = .ok (.iadd, 1) := by decide +kernel
theorem dL_law_367 : decode cL_law 367 = .ok (.iaload, 1) := by decide +kernel
theorem dL_law_368 : decode cL_law 368 = .ok (.aload_n 0, 1) := by decide +kernel
theorem dL_law_369 : decode cL_law 369 = .ok (.iload_n 3, 1) := by decide +kernel
theorem dL_law_370 : decode cL_law 370 = .ok (.iconst 2, 1) := by decide +kernel
theorem dL_law_371 : decode cL_law 371 = .ok (.iadd, 1) := by decide +kernel
theorem dL_law_372 : decode cL_law 372 = .ok (.iaload, 1) := by decide +kernel
theorem dL_law_373 : decode cL_law 373 = .ok (.invokevirtual 52, 3) := by decide +kernel
theorem dL_law_376 : decode cL_law 376 = .ok (.if_icmp .eq 420, 3) := by decide +kernel
theorem dL_law_379 : decode cL_law 379 = .ok (.iconst 0, 1) := by decide +kernel
theorem dL_law_380 : decode cL_law 380 = .ok (.ireturn, 1) := by decide +kernel
theorem dL_law_381 : decode cL_law 381 = .ok (.aload_n 1, 1) := by decide +kernel
theorem dL_law_382 : decode cL_law 382 = .ok (.aload_n 0, 1) := by decide +kernel
theorem dL_law_383 : decode cL_law 383 = .ok (.iload_n 3, 1) := by decide +kernel
theorem dL_law_384 : decode cL_law 384 = .ok (.iconst 1, 1) := by decide +kernel
theorem dL_law_385 : decode cL_law 385 = .ok (.iadd, 1) := by decide +kernel
theorem dL_law_386 : decode cL_law 386 = .ok (.iaload, 1) := by decide +kernel
theorem dL_law_387 : decode cL_law 387 = .ok (.aload_n 0, 1) := by decide +kernel
theorem dL_law_388 : decode cL_law 388 = .ok (.iload_n 3, 1) := by decide +kernel
theorem dL_law_389 : decode cL_law 389 = .ok (.iconst 2, 1) := by decide +kernel
theorem dL_law_390 : decode cL_law 390 = .ok (.iadd, 1) := by decide +kernel
theorem dL_law_391 : decode cL_law 391 = .ok (.iaload, 1) := by decide +kernel
theorem dL_law_392 : decode cL_law 392 = .ok (.invokevirtual 53, 3) := by decide +kernel
theorem dL_law_395 : decode cL_law 395 = .ok (.aload_n 2, 1) := by decide +kernel
theorem dL_law_396 : decode cL_law 396 = .ok (.aload_n 0, 1) := by decide +kernel
theorem dL_law_397 : decode cL_law 397 = .ok (.iload_n 3, 1) := by decide +kernel
theorem dL_law_398 : decode cL_law 398 = .ok (.iconst 1, 1) := by decide +kernel
theorem dL_law_399 : decode cL_law 399 = .ok (.iadd, 1) := by decide +kernel
theorem dL_law_400 : decode cL_law 400 = .ok (.iaload, 1) := by decide +kernel
theorem dL_law_401 : decode cL_law 401 = .ok (.aload_n 0, 1) := by decide +kernel
theorem dL_law_402 : decode cL_law 402 = .ok (.iload_n 3, 1) := by decide +kernel
theorem dL_law_403 : decode cL_law 403 = .ok (.iconst 2, 1) := by decide +kernel
theorem dL_law_404 : decode cL_law 404 = .ok (.iadd, 1) := by decide +kernel
theorem dL_law_405 : decode cL_law 405 = .ok (.iaload, 1) := by decide +kernel
theorem dL_law_406 : decode cL_law 406 = .ok (.invokevirtual 56, 3) := by decide +kernel
theorem dL_law_409 : decode cL_law 409 = .ok (.if_icmp .eq 387, 3) := by decide +kernel
theorem dL_law_412 : decode cL_law 412 = .ok (.iconst 0, 1) := by decide +kernel
theorem dL_law_413 : decode cL_law 413 = .ok (.ireturn, 1) := by decide +kernel
theorem dL_law_414 : decode cL_law 414 = .ok (.aload_n 1, 1) := by decide +kernel
theorem dL_law_415 : decode cL_law 415 = .ok (.aload_n 0, 1) := by decide +kernel
theorem dL_law_416 : decode cL_law 416 = .ok (.iload_n 3, 1) := by decide +kernel
theorem dL_law_417 : decode cL_law 417 = .ok (.iconst 1, 1) := by decide +kernel
theorem dL_law_418 : decode cL_law 418 = .ok (.iadd, 1) := by decide +kernel
theorem dL_law_419 : decode cL_law 419 = .ok (.iaload, 1) := by decide +kernel
theorem dL_law_420 : decode cL_law 420 = .ok (.aload_n 0, 1) := by decide +kernel
theorem dL_law_421 : decode cL_law 421 = .ok (.iload_n 3, 1) := by decide +kernel
theorem dL_law_422 : decode cL_law 422 = .ok (.iconst 2, 1) := by decide +kernel
theorem dL_law_423 : decode cL_law 423 = .ok (.iadd, 1) := by decide +kernel
theorem dL_law_424 : decode cL_law 424 = .ok (.iaload, 1) := by decide +kernel
theorem dL_law_425 : decode cL_law 425 = .ok (.invokevirtual 57, 3) := by decide +kernel
theorem dL_law_428 : decode cL_law 428 = .ok (.aload_n 2, 1) := by decide +kernel
theorem dL_law_429 : decode cL_law 429 = .ok (.aload_n 0, 1) := by decide +kernel
theorem dL_law_430 : decode cL_law 430 = .ok (.iload_n 3, 1) := by decide +kernel
theorem dL_law_431 : decode cL_law 431 = .ok (.iconst 1, 1) := by decide +kernel
theorem dL_law_432 : decode cL_law 432 = .ok (.iadd, 1) := by decide +kernel
theorem dL_law_433 : decode cL_law 433 = .ok (.iaload, 1) := by decide +kernel
theorem dL_law_434 : decode cL_law 434 = .ok (.aload_n 0, 1) := by decide +kernel
theorem dL_law_435 : decode cL_law 435 = .ok (.iload_n 3, 1) := by decide +kernel
theorem dL_law_436 : decode cL_law 436 = .ok (.iconst 2, 1) := by decide +kernel
theorem dL_law_437 : decode cL_law 437 = .ok (.iadd, 1) := by decide +kernel
theorem dL_law_438 : decode cL_law 438 = .ok (.iaload, 1) := by decide +kernel
theorem dL_law_439 : decode cL_law 439 = .ok (.invokevirtual 60, 3) := by decide +kernel
theorem dL_law_442 : decode cL_law 442 = .ok (.if_icmp .eq 354, 3) := by decide +kernel
theorem dL_law_445 : decode cL_law 445 = .ok (.iconst 0, 1) := by decide +kernel
theorem dL_law_446 : decode cL_law 446 = .ok (.ireturn, 1) := by decide +kernel
theorem dL_law_447 : decode cL_law 447 = .ok (.aload_n 1, 1) := by decide +kernel
theorem dL_law_448 : decode cL_law 448 = .ok (.aload_n 0, 1) := by decide +kernel
theorem dL_law_449 : decode cL_law 449 = .ok (.iload_n 3, 1) := by decide +kernel
theorem dL_law_450 : decode cL_law 450 = .ok (.iconst 1, 1) := by decide +kernel
theorem dL_law_451 : decode cL_law 451 = .ok (.iadd, 1) := by decide +kernel
theorem dL_law_452 : decode cL_law 452 = .ok (.iaload, 1) := by decide +kernel
theorem dL_law_453 : decode cL_law 453 = .ok (.aload_n 0, 1) := by decide +kernel
theorem dL_law_454 : decode cL_law 454 = .ok (.iload_n 3, 1) := by decide +kernel
theorem dL_law_455 : decode cL_law 455 = .ok (.iconst 2, 1) := by decide +kernel
theorem dL_law_456 : decode cL_law 456 = .ok (.iadd, 1) := by decide +kernel
theorem dL_law_457 : decode cL_law 457 = .ok (.iaload, 1) := by decide +kernel
theorem dL_law_458 : decode cL_law 458 = .ok (.invokevirtual 61, 3) := by decide +kernel
theorem dL_law_461 : decode cL_law 461 = .ok (.aload_n 2, 1) := by decide +kernel
theorem dL_law_462 : decode cL_law 462 = .ok (.aload_n 0, 1) := by decide +kernel
theorem dL_law_463 : decode cL_law 463 = .ok (.iload_n 3, 1) := by decide +kernel
theorem dL_law_464 : decode cL_law 464 = .ok (.iconst 1, 1) := by decide +kernel
theorem dL_law_465 : decode cL_law 465 = .ok (.iadd, 1) := by decide +kernel
theorem dL_law_466 : decode cL_law 466 = .ok (.iaload, 1) := by decide +kernel
theorem dL_law_467 : decode cL_law 467 = .ok (.aload_n 0, 1) := by decide +kernel
theorem dL_law_468 : decode cL_law 468 = .ok (.iload_n 3, 1) := by decide +kernel
theorem dL_law_469 : decode cL_law 469 = .ok (.iconst 2, 1) := by decide +kernel
theorem dL_law_470 : decode cL_law 470 = .ok (.iadd, 1) := by decide +kernel
theorem dL_law_471 : decode cL_law 471 = .ok (.iaload, 1) := by decide +kernel
theorem dL_law_472 : decode cL_law 472 = .ok (.invokevirtual 64, 3) := by decide +kernel
theorem dL_law_475 : decode cL_law 475 = .ok (.if_icmp .eq 321, 3) := by decide +kernel
theorem dL_law_478 : decode cL_law 478 = .ok (.iconst 0, 1) := by decide +kernel
theorem dL_law_479 : decode cL_law 479 = .ok (.ireturn, 1) := by decide +kernel
theorem dL_law_480 : decode cL_law 480 = .ok (.aload_n 1, 1) := by decide +kernel
theorem dL_law_481 : decode cL_law 481 = .ok (.aload_n 0, 1) := by decide +kernel
theorem dL_law_482 : decode cL_law 482 = .ok (.iload_n 3, 1) := by decide +kernel
theorem dL_law_483 : decode cL_law 483 = .ok (.iconst 1, 1) := by decide +kernel
theorem dL_law_484 : decode cL_law 484 = .ok (.iadd, 1) := by decide +kernel
theorem dL_law_485 : decode cL_law 485 = .ok (.iaload, 1) := by decide +kernel
theorem dL_law_486 : decode cL_law 486 = .ok (.aload_n 0, 1) := by decide +kernel
theorem dL_law_487 : decode cL_law 487 = .ok (.iload_n 3, 1) := by decide +kernel
theorem dL_law_488 : decode cL_law 488 = .ok (.iconst 2, 1) := by decide +kernel
theorem dL_law_489 : decode cL_law 489 = .ok (.iadd, 1) := by decide +kernel
theorem dL_law_490 : decode cL_law 490 = .ok (.iaload, 1) := by decide +kernel
theorem dL_law_491 : decode cL_law 491 = .ok (.invokevirtual 65, 3) := by decide +kernel
theorem dL_law_494 : decode cL_law 494 = .ok (.aload_n 2, 1) := by decide +kernel
theorem dL_law_495 : decode cL_law 495 = .ok (.aload_n 0, 1) := by decide +kernel
theorem dL_law_496 : decode cL_law 496 = .ok (.iload_n 3, 1) := by decide +kernel
theorem dL_law_497 : decode cL_law 497 = .ok (.iconst 1, 1) := by decide +kernel
theorem dL_law_498 : decode cL_law 498 = .ok (.iadd, 1) := by decide +kernel
theorem dL_law_499 : decode cL_law 499 = .ok (.iaload, 1) := by decide +kernel
theorem dL_law_500 : decode cL_law 500 = .ok (.aload_n 0, 1) := by decide +kernel
theorem dL_law_501 : decode cL_law 501 = .ok (.iload_n 3, 1) := by decide +kernel
theorem dL_law_502 : decode cL_law 502 = .ok (.iconst 2, 1) := by decide +kernel
theorem dL_law_503 : decode cL_law 503 = .ok (.iadd, 1) := by decide +kernel
theorem dL_law_504 : decode cL_law 504 = .ok (.iaload, 1) := by decide +kernel
theorem dL_law_505 : decode cL_law 505 = .ok (.invokevirtual 68, 3) := by decide +kernel
theorem dL_law_508 : decode cL_law 508 = .ok (.if_icmp .eq 288, 3) := by decide +kernel
theorem dL_law_511 : decode cL_law 511 = .ok (.iconst 0, 1) := by decide +kernel
theorem dL_law_512 : decode cL_law 512 = .ok (.ireturn, 1) := by decide +kernel
theorem dL_law_513 : decode cL_law 513 = .ok (.aload_n 1, 1) := by decide +kernel
theorem dL_law_514 : decode cL_law 514 = .ok (.aload_n 0, 1) := by decide +kernel
theorem dL_law_515 : decode cL_law 515 = .ok (.iload_n 3, 1) := by decide +kernel
theorem dL_law_516 : decode cL_law 516 = .ok (.iconst 1, 1) := by decide +kernel
theorem dL_law_517 : decode cL_law 517 = .ok (.iadd, 1) := by decide +kernel
theorem dL_law_518 : decode cL_law 518 = .ok (.iaload, 1) := by decide +kernel
theorem dL_law_519 : decode cL_law 519 = .ok (.invokevirtual 69, 3) := by decide +kernel
theorem dL_law_522 : decode cL_law 522 = .ok (.aload_n 2, 1) := by decide +kernel
theorem dL_law_523 : decode cL_law 523 = .ok (.aload_n 0, 1) := by decide +kernel
theorem dL_law_524 : decode cL_law 524 = .ok (.iload_n 3, 1) := by decide +kernel
theorem dL_law_525 : decode cL_law 525 = .ok (.iconst 1, 1) := by decide +kernel
theorem dL_law_526 : decode cL_law 526 = .ok (.iadd, 1) := by decide +kernel
theorem dL_law_527 : decode cL_law 527 = .ok (.iaload, 1) := by decide +kernel
theorem dL_law_528 : decode cL_law 528 = .ok (.invokevirtual 72, 3) := by decide +kernel
theorem dL_law_531 : decode cL_law 531 = .ok (.if_icmp .eq 265, 3) := by decide +kernel
theorem dL_law_534 : decode cL_law 534 = .ok (.iconst 0, 1) := by decide +kernel
theorem dL_law_535 : decode cL_law 535 = .ok (.ireturn, 1) := by decide +kernel
theorem dL_law_536 : decode cL_law 536 = .ok (.aload_n 1, 1) := by decide +kernel
theorem dL_law_537 : decode cL_law 537 = .ok (.aload_n 0, 1) := by decide +kernel
theorem dL_law_538 : decode cL_law 538 = .ok (.iload_n 3, 1) := by decide +kernel
theorem dL_law_539 : decode cL_law 539 = .ok (.iconst 1, 1) := by decide +kernel
theorem dL_law_540 : decode cL_law 540 = .ok (.iadd, 1) := by decide +kernel
theorem dL_law_541 : decode cL_law 541 = .ok (.iaload, 1) := by decide +kernel
theorem dL_law_542 : decode cL_law 542 = .ok (.aload_n 0, 1) := by decide +kernel
theorem dL_law_543 : decode cL_law 543 = .ok (.iload_n 3, 1) := by decide +kernel
theorem dL_law_544 : decode cL_law 544 = .ok (.iconst 2, 1) := by decide +kernel
theorem dL_law_545 : decode cL_law 545 = .ok (.iadd, 1) := by decide +kernel
theorem dL_law_546 : decode cL_law 546 = .ok (.iaload, 1) := by decide +kernel
theorem dL_law_547 : decode cL_law 547 = .ok (.invokevirtual 73, 3) := by decide +kernel
theorem dL_law_550 : decode cL_law 550 = .ok (.aload_n 2, 1) := by decide +kernel
theorem dL_law_551 : decode cL_law 551 = .ok (.aload_n 0, 1) := by decide +kernel
theorem dL_law_552 : decode cL_law 552 = .ok (.iload_n 3, 1) := by decide +kernel
theorem dL_law_553 : decode cL_law 553 = .ok (.iconst 1, 1) := by decide +kernel
theorem dL_law_554 : decode cL_law 554 = .ok (.iadd, 1) := by decide +kernel
theorem dL_law_555 : decode cL_law 555 = .ok (.iaload, 1) := by decide +kernel
theorem dL_law_556 : decode cL_law 556 = .ok (.aload_n 0, 1) := by decide +kernel
theorem dL_law_557 : decode cL_law 557 = .ok (.iload_n 3, 1) := by decide +kernel
theorem dL_law_558 : decode cL_law 558 = .ok (.iconst 2, 1) := by decide +kernel
theorem dL_law_559 : decode cL_law 559 = .ok (.iadd, 1) := by decide +kernel
theorem dL_law_560 : decode cL_law 560 = .ok (.iaload, 1) := by decide +kernel
theorem dL_law_561 : decode cL_law 561 = .ok (.invokevirtual 76, 3) := by decide +kernel
theorem dL_law_564 : decode cL_law 564 = .ok (.if_icmp .eq 232, 3) := by decide +kernel
theorem dL_law_567 : decode cL_law 567 = .ok (.iconst 0, 1) := by decide +kernel
theorem dL_law_568 : decode cL_law 568 = .ok (.ireturn, 1) := by decide +kernel
theorem dL_law_569 : decode cL_law 569 = .ok (.aload_n 1, 1) := by decide +kernel
theorem dL_law_570 : decode cL_law 570 = .ok (.aload_n 0, 1) := by decide +kernel
theorem dL_law_571 : decode cL_law 571 = .ok (.iload_n 3, 1) := by decide +kernel
theorem dL_law_572 : decode cL_law 572 = .ok (.iconst 1, 1) := by decide +kernel
theorem dL_law_573 : decode cL_law 573 = .ok (.iadd, 1) := by decide +kernel
theorem dL_law_574 : decode cL_law 574 = .ok (.iaload, 1) := by decide +kernel
theorem dL_law_575 : decode cL_law 575 = .ok (.invokevirtual 77, 3) := by decide +kernel
theorem dL_law_578 : decode cL_law 578 = .ok (.aload_n 2, 1) := by decide +kernel
theorem dL_law_579 : decode cL_law 579 = .ok (.aload_n 0, 1) := by decide +kernel
theorem dL_law_580 : decode cL_law 580 = .ok (.iload_n 3, 1) := by decide +kernel
theorem dL_law_581 : decode cL_law 581 = .ok (.iconst 1, 1) := by decide +kernel
theorem dL_law_582 : decode cL_law 582 = .ok (.iadd, 1) := by decide +kernel
theorem dL_law_583 : decode cL_law 583 = .ok (.iaload, 1) := by decide +kernel
theorem dL_law_584 : decode cL_law 584 = .ok (.invokevirtual 80, 3) := by decide +kernel
theorem dL_law_587 : decode cL_law 587 = .ok (.if_icmp .eq 209, 3) := by decide +kernel
theorem dL_law_590 : decode cL_law 590 = .ok (.iconst 0, 1) := by decide +kernel
theorem dL_law_591 : decode cL_law 591 = .ok (.ireturn, 1) := by decide +kernel
theorem dL_law_592 : decode cL_law 592 = .ok (.aload_n 1, 1) := by decide +kernel
theorem dL_law_593 : decode cL_law 593 = .ok (.aload_n 0, 1) := by decide +kernel
theorem dL_law_594 : decode cL_law 594 = .ok (.iload_n 3, 1) := by decide +kernel
theorem dL_law_595 : decode cL_law 595 = .ok (.iconst 1, 1) := by decide +kernel
theorem dL_law_596 : decode cL_law 596 = .ok (.iadd, 1) := by decide +kernel
theorem dL_law_597 : decode cL_law 597 = .ok (.iaload, 1) := by decide +kernel
theorem dL_law_598 : decode cL_law 598 = .ok (.aload_n 0, 1) := by decide +kernel
theorem dL_law_599 : decode cL_law 599 = .ok (.iload_n 3, 1) := by decide +kernel
theorem dL_law_600 : decode cL_law 600 = .ok (.iconst 2, 1) := by decide +kernel
theorem dL_law_601 : decode cL_law 601 = .ok (.iadd, 1) := by decide +kernel
theorem dL_law_602 : decode cL_law 602 = .ok (.iaload, 1) := by decide +kernel
theorem dL_law_603 : decode cL_law 603 = .ok (.invokevirtual 81, 3) := by decide +kernel
theorem dL_law_606 : decode cL_law 606 = .ok (.aload_n 2, 1) := by decide +kernel
theorem dL_law_607 : decode cL_law 607 = .ok (.aload_n 0, 1) := by decide +kernel
theorem dL_law_608 : decode cL_law 608 = .ok (.iload_n 3, 1) := by decide +kernel
theorem dL_law_609 : decode cL_law 609 = .ok (.iconst 1, 1) := by decide +kernel
theorem dL_law_610 : decode cL_law 610 = .ok (.iadd, 1) := by decide +kernel
theorem dL_law_611 : decode cL_law 611 = .ok (.iaload, 1) := by decide +kernel
theorem dL_law_612 : decode cL_law 612 = .ok (.aload_n 0, 1) := by decide +kernel
theorem dL_law_613 : decode cL_law 613 = .ok (.iload_n 3, 1) := by decide +kernel
theorem dL_law_614 : decode cL_law 614 = .ok (.iconst 2, 1) := by decide +kernel
theorem dL_law_615 : decode cL_law 615 = .ok (.iadd, 1) := by decide +kernel
theorem dL_law_616 : decode cL_law 616 = .ok (.iaload, 1) := by decide +kernel
theorem dL_law_617 : decode cL_law 617 = .ok (.invokevirtual 84, 3) := by decide +kernel
theorem dL_law_620 : decode cL_law 620 = .ok (.if_icmp .eq 176, 3) := by decide +kernel
theorem dL_law_623 : decode cL_law 623 = .ok (.iconst 0, 1) := by decide +kernel
theorem dL_law_624 : decode cL_law 624 = .ok (.ireturn, 1) := by decide +kernel
theorem dL_law_625 : decode cL_law 625 = .ok (.aload_n 1, 1) := by decide +kernel
theorem dL_law_626 : decode cL_law 626 = .ok (.aload_n 0, 1) := by decide +kernel
theorem dL_law_627 : decode cL_law 627 = .ok (.iload_n 3, 1) := by decide +kernel
theorem dL_law_628 : decode cL_law 628 = .ok (.iconst 1, 1) := by decide +kernel
theorem dL_law_629 : decode cL_law 629 = .ok (.iadd, 1) := by decide +kernel
theorem dL_law_630 : decode cL_law 630 = .ok (.iaload, 1) := by decide +kernel
theorem dL_law_631 : decode cL_law 631 = .ok (.invokevirtual 85, 3) := by decide +kernel
theorem dL_law_634 : decode cL_law 634 = .ok (.aload_n 2, 1) := by decide +kernel
theorem dL_law_635 : decode cL_law 635 = .ok (.aload_n 0, 1) := by decide +kernel
theorem dL_law_636 : decode cL_law 636 = .ok (.iload_n 3, 1) := by decide +kernel
theorem dL_law_637 : decode cL_law 637 = .ok (.iconst 1, 1) := by decide +kernel
theorem dL_law_638 : decode cL_law 638 = .ok (.iadd, 1) := by decide +kernel
theorem dL_law_639 : decode cL_law 639 = .ok (.iaload, 1) := by decide +kernel
theorem dL_law_640 : decode cL_law 640 = .ok (.invokevirtual 88, 3) := by decide +kernel
theorem dL_law_643 : decode cL_law 643 = .ok (.if_icmp .eq 153, 3) := by decide +kernel
theorem dL_law_646 : decode cL_law 646 = .ok (.iconst 0, 1) := by decide +kernel
theorem dL_law_647 : decode cL_law 647 = .ok (.ireturn, 1) := by decide +kernel
theorem dL_law_648 : decode cL_law 648 = .ok (.aload_n 1, 1) := by decide +kernel
theorem dL_law_649 : decode cL_law 649 = .ok (.aload_n 0, 1) := by decide +kernel
theorem dL_law_650 : decode cL_law 650 = .ok (.iload_n 3, 1) := by decide +kernel
theorem dL_law_651 : decode cL_law 651 = .ok (.iconst 1, 1) := by decide +kernel
theorem dL_law_652 : decode cL_law 652 = .ok (.iadd, 1) := by decide +kernel
theorem dL_law_653 : decode cL_law 653 = .ok (.iaload, 1) := by decide +kernel
theorem dL_law_654 : decode cL_law 654 = .ok (.invokevirtual 89, 3) := by decide +kernel
theorem dL_law_657 : decode cL_law 657 = .ok (.aload_n 2, 1) := by decide +kernel
theorem dL_law_658 : decode cL_law 658 = .ok (.aload_n 0, 1) := by decide +kernel
theorem dL_law_659 : decode cL_law 659 = .ok (.iload_n 3, 1) := by decide +kernel
theorem dL_law_660 : decode cL_law 660 = .ok (.iconst 1, 1) := by decide +kernel
theorem dL_law_661 : decode cL_law 661 = .ok (.iadd, 1) := by decide +kernel
theorem dL_law_662 : decode cL_law 662 = .ok (.iaload, 1) := by decide +kernel
theorem dL_law_663 : decode cL_law 663 = .ok (.invokevirtual 92, 3) := by decide +kernel
theorem dL_law_666 : decode cL_law 666 = .ok (.if_icmp .eq 130, 3) := by decide +kernel
theorem dL_law_669 : decode cL_law 669 = .ok (.iconst 0, 1) := by decide +kernel
theorem dL_law_670 : decode cL_law 670 = .ok (.ireturn, 1) := by decide +kernel
theorem dL_law_671 : decode cL_law 671 = .ok (.aload_n 1, 1) := by decide +kernel
theorem dL_law_672 : decode cL_law 672 = .ok (.aload_n 0, 1) := by decide +kernel
theorem dL_law_673 : decode cL_law 673 = .ok (.iload_n 3, 1) := by decide +kernel
theorem dL_law_674 : decode cL_law 674 = .ok (.iconst 1, 1) := by decide +kernel
theorem dL_law_675 : decode cL_law 675 = .ok (.iadd, 1) := by decide +kernel
theorem dL_law_676 : decode cL_law 676 = .ok (.iaload, 1) := by decide +kernel
theorem dL_law_677 : decode cL_law 677 = .ok (.aload_n 0, 1) := by decide +kernel
theorem dL_law_678 : decode cL_law 678 = .ok (.iload_n 3, 1) := by decide +kernel
theorem dL_law_679 : decode cL_law 679 = .ok (.iconst 2, 1) := by decide +kernel
theorem dL_law_680 : decode cL_law 680 = .ok (.iadd, 1) := by decide +kernel
theorem dL_law_681 : decode cL_law 681 = .ok (.iaload, 1) := by decide +kernel
theorem dL_law_682 : decode cL_law 682 = .ok (.aload_n 0, 1) := by decide +kernel
theorem dL_law_683 : decode cL_law 683 = .ok (.iload_n 3, 1) := by decide +kernel
theorem dL_law_684 : decode cL_law 684 = .ok (.iconst 3, 1) := by decide +kernel
theorem dL_law_685 : decode cL_law 685 = .ok (.iadd, 1) := by decide +kernel
theorem dL_law_686 : decode cL_law 686 = .ok (.iaload, 1) := by decide +kernel
theorem dL_law_687 : decode cL_law 687 = .ok (.invokevirtual 93, 3) := by decide +kernel
theorem dL_law_690 : decode cL_law 690 = .ok (.aload_n 2, 1) := by decide +kernel
theorem dL_law_691 : decode cL_law 691 = .ok (.aload_n 0, 1) := by decide +kernel
theorem dL_law_692 : decode cL_law 692 = .ok (.iload_n 3, 1) := by decide +kernel
theorem dL_law_693 : decode cL_law 693 = .ok (.iconst 1, 1) := by decide +kernel
theorem dL_law_694 : decode cL_law 694 = .ok (.iadd, 1) := by decide +kernel
theorem dL_law_695 : decode cL_law 695 = .ok (.iaload, 1) := by decide +kernel
theorem dL_law_696 : decode cL_law 696 = .ok (.aload_n 0, 1) := by decide +kernel
theorem dL_law_697 : decode cL_law 697 = .ok (.iload_n 3, 1) := by decide +kernel
theorem dL_law_698 : decode cL_law 698 = .ok (.iconst 2, 1) := by decide +kernel
theorem dL_law_699 : decode cL_law 699 = .ok (.iadd, 1) := by decide +kernel
theorem dL_law_700 : decode cL_law 700 = .ok (.iaload, 1) := by decide +kernel
theorem dL_law_701 : decode cL_law 701 = .ok (.aload_n 0, 1) := by decide +kernel
theorem dL_law_702 : decode cL_law 702 = .ok (.iload_n 3, 1) := by decide +kernel
theorem dL_law_703 : decode cL_law 703 = .ok (.iconst 3, 1) := by decide +kernel
theorem dL_law_704 : decode cL_law 704 = .ok (.iadd, 1) := by decide +kernel
theorem dL_law_705 : decode cL_law 705 = .ok (.iaload, 1) := by decide +kernel
theorem dL_law_706 : decode cL_law 706 = .ok (.invokevirtual 96, 3) := by decide +kernel
theorem dL_law_709 : decode cL_law 709 = .ok (.if_icmp .eq 87, 3) := by decide +kernel
theorem dL_law_712 : decode cL_law 712 = .ok (.iconst 0, 1) := by decide +kernel
theorem dL_law_713 : decode cL_law 713 = .ok (.ireturn, 1) := by decide +kernel
theorem dL_law_714 : decode cL_law 714 = .ok (.aload_n 1, 1) := by decide +kernel
theorem dL_law_715 : decode cL_law 715 = .ok (.invokevirtual 97, 3) := by decide +kernel
theorem dL_law_718 : decode cL_law 718 = .ok (.aload_n 2, 1) := by decide +kernel
theorem dL_law_719 : decode cL_law 719 = .ok (.invokevirtual 100, 3) := by decide +kernel
theorem dL_law_722 : decode cL_law 722 = .ok (.if_icmp .eq 74, 3) := by decide +kernel
theorem dL_law_725 : decode cL_law 725 = .ok (.iconst 0, 1) := by decide +kernel
theorem dL_law_726 : decode cL_law 726 = .ok (.ireturn, 1) := by decide +kernel
theorem dL_law_727 : decode cL_law 727 = .ok (.aload_n 1, 1) := by decide +kernel
theorem dL_law_728 : decode cL_law 728 = .ok (.aload_n 0, 1) := by decide +kernel
theorem dL_law_729 : decode cL_law 729 = .ok (.iload_n 3, 1) := by decide +kernel
theorem dL_law_730 : decode cL_law 730 = .ok (.iconst 1, 1) := by decide +kernel
theorem dL_law_731 : decode cL_law 731 = .ok (.iadd, 1) := by decide +kernel
theorem dL_law_732 : decode cL_law 732 = .ok (.iaload, 1) := by decide +kernel
theorem dL_law_733 : decode cL_law 733 = .ok (.invokevirtual 101, 3) := by decide +kernel
theorem dL_law_736 : decode cL_law 736 = .ok (.aload_n 2, 1) := by decide +kernel
theorem dL_law_737 : decode cL_law 737 = .ok (.aload_n 0, 1) := by decide +kernel
theorem dL_law_738 : decode cL_law 738 = .ok (.iload_n 3, 1) := by decide +kernel
theorem dL_law_739 : decode cL_law 739 = .ok (.iconst 1, 1) := by decide +kernel
theorem dL_law_740 : decode cL_law 740 = .ok (.iadd, 1) := by decide +kernel
theorem dL_law_741 : decode cL_law 741 = .ok (.iaload, 1) := by decide +kernel
theorem dL_law_742 : decode cL_law 742 = .ok (.invokevirtual 104, 3) := by decide +kernel
theorem dL_law_745 : decode cL_law 745 = .ok (.if_icmp .eq 51, 3) := by decide +kernel
theorem dL_law_748 : decode cL_law 748 = .ok (.iconst 0, 1) := by decide +kernel
theorem dL_law_749 : decode cL_law 749 = .ok (.ireturn, 1) := by decide +kernel
theorem dL_law_750 : decode cL_law 750 = .ok (.aload_n 1, 1) := by decide +kernel
theorem dL_law_751 : decode cL_law 751 = .ok (.aload_n 0, 1) := by decide +kernel
theorem dL_law_752 : decode cL_law 752 = .ok (.iload_n 3, 1) := by decide +kernel
theorem dL_law_753 : decode cL_law 753 = .ok (.iconst 1, 1) := by decide +kernel
theorem dL_law_754 : decode cL_law 754 = .ok (.iadd, 1) := by decide +kernel
theorem dL_law_755 : decode cL_law 755 = .ok (.iaload, 1) := by decide +kernel
theorem dL_law_756 : decode cL_law 756 = .ok (.invokevirtual 105, 3) := by decide +kernel
theorem dL_law_759 : decode cL_law 759 = .ok (.aload_n 2, 1) := by decide +kernel
theorem dL_law_760 : decode cL_law 760 = .ok (.aload_n 0, 1) := by decide +kernel
theorem dL_law_761 : decode cL_law 761 = .ok (.iload_n 3, 1) := by decide +kernel
theorem dL_law_762 : decode cL_law 762 = .ok (.iconst 1, 1) := by decide +kernel
theorem dL_law_763 : decode cL_law 763 = .ok (.iadd, 1) := by decide +kernel
theorem dL_law_764 : decode cL_law 764 = .ok (.iaload, 1) := by decide +kernel
theorem dL_law_765 : decode cL_law 765 = .ok (.invokevirtual 108, 3) := by decide +kernel
theorem dL_law_768 : decode cL_law 768 = .ok (.if_icmp .eq 28, 3) := by decide +kernel
theorem dL_law_771 : decode cL_law 771 = .ok (.iconst 0, 1) := by decide +kernel
theorem dL_law_772 : decode cL_law 772 = .ok (.ireturn, 1) := by decide +kernel
theorem dL_law_773 : decode cL_law 773 = .ok (.aload_n 1, 1) := by decide +kernel
theorem dL_law_774 : decode cL_law 774 = .ok (.aload_n 0, 1) := by decide +kernel
theorem dL_law_775 : decode cL_law 775 = .ok (.iload_n 3, 1) := by decide +kernel
theorem dL_law_776 : decode cL_law 776 = .ok (.iconst 1, 1) := by decide +kernel
theorem dL_law_777 : decode cL_law 777 = .ok (.iadd, 1) := by decide +kernel
theorem dL_law_778 : decode cL_law 778 = .ok (.iaload, 1) := by decide +kernel
theorem dL_law_779 : decode cL_law 779 = .ok (.invokevirtual 109, 3) := by decide +kernel
theorem dL_law_782 : decode cL_law 782 = .ok (.aload_n 2, 1) := by decide +kernel
theorem dL_law_783 : decode cL_law 783 = .ok (.aload_n 0, 1) := by decide +kernel
theorem dL_law_784 : decode cL_law 784 = .ok (.iload_n 3, 1) := by decide +kernel
theorem dL_law_785 : decode cL_law 785 = .ok (.iconst 1, 1) := by decide +kernel
theorem dL_law_786 : decode cL_law 786 = .ok (.iadd, 1) := by decide +kernel
theorem dL_law_787 : decode cL_law 787 = .ok (.iaload, 1) := by decide +kernel
theorem dL_law_788 : decode cL_law 788 = .ok (.invokevirtual 112, 3) := by decide +kernel
theorem dL_law_791 : decode cL_law 791 = .ok (.if_icmp .eq 5, 3) := by decide +kernel
theorem dL_law_794 : decode cL_law 794 = .ok (.iconst 0, 1) := by decide +kernel
theorem dL_law_795 : decode cL_law 795 = .ok (.ireturn, 1) := by decide +kernel
theorem dL_law_796 : decode cL_law 796 = .ok (.iinc 3 4, 3) := by decide +kernel
theorem dL_law_799 : decode cL_law 799 = .ok (.goto (-781), 3) := by decide +kernel
theorem dL_law_802 : decode cL_law 802 = .ok (.iconst 1, 1) := by decide +kernel
theorem dL_law_803 : decode cL_law 803 = .ok (.ireturn, 1) := by decide +kernel
end
section
/-! ===== the memory as numbers: n cells, the kind of each (its tag and its size), the whole numbers and the references that they hold, by cell and place; a reference is the number of a cell ===== -/
abbrev Kd : Type := Nat × Nat
abbrev Mem : Type := Nat × (Nat → Kd) × (Nat → Nat → Int32) × (Nat → Nat → Option Nat)
def u2 {α : Type} (f : Nat → Nat → α) (k j : Nat) (v : α) : Nat → Nat → α := fun a b => if a = k ∧ b = j then v else f a b
def mI (M : Mem) (k j : Nat) (v : Int32) : Mem := (M.1, M.2.1, u2 M.2.2.1 k j v, M.2.2.2)
def mR (M : Mem) (k j : Nat) (v : Option Nat) : Mem := (M.1, M.2.1, M.2.2.1, u2 M.2.2.2 k j v)
def mNew (M : Mem) (d : Kd) : Mem := (M.1 + 1, fun k => if k = M.1 then d else M.2.1 k, fun k j => if k = M.1 then 0 else M.2.2.1 k j, fun k j => if k = M.1 then none else M.2.2.2 k j)
/-- the classes, by their tags 0 to 11; 12 int[], 13 Image[], 14 News[], 15 int[][] -/
abbrev cls : List vw_C := [(RX0, TX0, 4), (RX1, TX1, 2), (RX2, TX2, 4), (RX3, TX3, 2), (RX4, TX4, 3), (RX5, TX5, 3), (RX6, TX6, 5), (RX7, TX7, 3), (RX8, TX8, 8), (RX9, TX9, 6), (RX10, TX10, 9), (RX11, TX11, 24)]
def tyOf (ci : Nat) : Nat → FieldType := match ci with
  | 0 => tyX0
  | 1 => tyX1
  | 2 => tyX2
  | 3 => tyX3
  | 4 => tyX4
  | 5 => tyX5
  | 6 => tyX6
  | 7 => tyX7
  | 8 => tyX8
  | 9 => tyX9
  | 10 => tyX10
  | _ => tyX11
def refS (ci j : Nat) : Bool := match tyOf ci j with
  | .int => false
  | .boolean => false
  | _ => true
/-- what is fixed of a launch: class numbers, slots, the four array classes, the three static arrays' cells -/
abbrev Gd : Type := ((Nat → ClassId) × (Nat → Nat → Nat)) × (Nat → ClassId) × (Nat → Nat)
def tysOf (g : Gd) : List (ClassId × FieldType) := [(g.2.1 12, .int), (g.2.1 13, .object RX4), (g.2.1 14, .object RX6), (g.2.1 15, .array .int)]
def rB (B : Nat) (r : Option Nat) : Option Nat := r.map (fun t => B + t)
def sh (B : Nat) (v : Value) : Value := match v with
  | .ref k => .ref (B + k)
  | v => v
def shp (B : Nat) (q : Nat × Value) : Nat × Value := (q.1, sh B q.2)
def slV (B : Nat) (M : Mem) (ci k j : Nat) : Value := if refS ci j = true then va_rf (rB B (M.2.2.2 k j)) else .int (M.2.2.1 k j)
def cellE (g : Gd) (B : Nat) (M : Mem) (k : Nat) : va_E :=
  if (M.2.1 k).1 < 12 then .inr ((M.2.1 k).1, (List.range (M.2.1 k).2).map (slV B M (M.2.1 k).1 k))
  else if (M.2.1 k).1 = 12 then .inl (g.2.1 12, (M.2.1 k).2, .inl (M.2.2.1 k))
  else .inl (g.2.1 (M.2.1 k).1, (M.2.1 k).2, .inr (.inr (.inr (.inr (fun j => rB B (M.2.2.2 k j))))))
def wsOf (g : Gd) (B : Nat) (M : Mem) : va_W := (List.range M.1).map (fun k => (B + k, cellE g B M k))
theorem wsOf_len (g : Gd) (B : Nat) (M : Mem) : (wsOf g B M).length = M.1 := by simp [wsOf]
theorem wsOf_get {g : Gd} {B : Nat} {M : Mem} {k : Nat} (h : k < M.1) : (wsOf g B M)[k]? = some (B + k, cellE g B M k) := by
  simp [wsOf, List.getElem?_map, List.getElem?_range h]
theorem wsOf_got {g : Gd} {B : Nat} {M : Mem} {k : Nat} {q : Nat × va_E} (h : (wsOf g B M)[k]? = some q) : k < M.1 ∧ q = (B + k, cellE g B M k) := by
  have hl : k < M.1 := by
    have := (List.getElem?_eq_some_iff.mp h).1
    rwa [wsOf_len] at this
  rw [wsOf_get hl] at h
  exact ⟨hl, (Option.some.inj h).symm⟩
theorem wsOf_D (g : Gd) (B : Nat) (M : Mem) : va_D (fun q => B ≤ q) (wsOf g B M) := by
  refine ⟨fun i j x y hi hj hxy => ?_, fun k q hk => ?_⟩
  · obtain ⟨-, rfl⟩ := wsOf_got hi
    obtain ⟨-, rfl⟩ := wsOf_got hj
    have h : B + i = B + j := hxy
    omega
  · obtain ⟨-, rfl⟩ := wsOf_got hk
    exact Nat.le_add_right B k
theorem wsOf_set {g : Gd} {B : Nat} {M M' : Mem} {k : Nat} {e : va_E} (hn : M'.1 = M.1) (ho : ∀ a, a ≠ k → cellE g B M' a = cellE g B M a) (he : cellE g B M' k = e) : (wsOf g B M).set k (B + k, e) = wsOf g B M' := by
  refine List.ext_getElem? fun i => ?_
  rw [List.getElem?_set, wsOf_len]
  by_cases hi : k = i
  · subst hi
    by_cases hl : k < M.1
    · rw [if_pos rfl, if_pos hl, wsOf_get (by rw [hn]; exact hl), he]
    · rw [if_pos rfl, if_neg hl, List.getElem?_eq_none (by rw [wsOf_len, hn]; omega)]
  · rw [if_neg hi]
    by_cases hl : i < M.1
    · rw [wsOf_get hl, wsOf_get (by rw [hn]; exact hl), ho i (fun h => hi h.symm)]
    · rw [List.getElem?_eq_none (by rw [wsOf_len]; omega), List.getElem?_eq_none (by rw [wsOf_len, hn]; omega)]
theorem wsOf_push {g : Gd} {B : Nat} {M M' : Mem} {e : va_E} (hn : M'.1 = M.1 + 1) (ho : ∀ a, a < M.1 → cellE g B M' a = cellE g B M a) (he : cellE g B M' M.1 = e) : wsOf g B M ++ [(B + M.1, e)] = wsOf g B M' := by
  unfold wsOf
  rw [hn, List.range_succ, List.map_append]
  congr 1
  · exact List.map_congr_left fun a ha => by rw [ho a (List.mem_range.mp ha)]
  · simp [he]
theorem u2_s {α : Type} (f : Nat → Nat → α) (k j : Nat) (v : α) : u2 f k j v k j = v := by simp [u2]
theorem u2_k {α : Type} (f : Nat → Nat → α) {k j a b : Nat} (v : α) (h : a ≠ k) : u2 f k j v a b = f a b := by simp [u2, h]
theorem u2_j {α : Type} (f : Nat → Nat → α) {k j a b : Nat} (v : α) (h : b ≠ j) : u2 f k j v a b = f a b := by simp [u2, h]
theorem cellE_I {g : Gd} {B : Nat} {M : Mem} {k j : Nat} {v : Int32} {a : Nat} (h : a ≠ k) : cellE g B (mI M k j v) a = cellE g B M a := by
  have e1 : ∀ b, (mI M k j v).2.2.1 a b = M.2.2.1 a b := fun b => u2_k _ v h
  have e2 : (mI M k j v).2.2.1 a = M.2.2.1 a := funext e1
  have e3 : slV B (mI M k j v) (M.2.1 a).1 a = slV B M (M.2.1 a).1 a := funext fun b => by
    show (if refS (M.2.1 a).1 b = true then va_rf (rB B (M.2.2.2 a b)) else .int ((mI M k j v).2.2.1 a b)) = _
    rw [e1]; rfl
  show (if (M.2.1 a).1 < 12 then _ else if (M.2.1 a).1 = 12 then _ else _) = _
  unfold cellE
  rw [show (mI M k j v).2.1 = M.2.1 from rfl, e3, e2]
  rfl
theorem cellE_R {g : Gd} {B : Nat} {M : Mem} {k j : Nat} {v : Option Nat} {a : Nat} (h : a ≠ k) : cellE g B (mR M k j v) a = cellE g B M a := by
  have e1 : ∀ b, (mR M k j v).2.2.2 a b = M.2.2.2 a b := fun b => u2_k _ v h
  have e2 : (fun b => rB B ((mR M k j v).2.2.2 a b)) = fun b => rB B (M.2.2.2 a b) := funext fun b => by rw [e1]
  have e3 : slV B (mR M k j v) (M.2.1 a).1 a = slV B M (M.2.1 a).1 a := funext fun b => by
    show (if refS (M.2.1 a).1 b = true then va_rf (rB B ((mR M k j v).2.2.2 a b)) else .int (M.2.2.1 a b)) = _
    rw [e1]; rfl
  unfold cellE
  rw [show (mR M k j v).2.1 = M.2.1 from rfl, e3, e2]
  rfl
theorem range_set {f f' : Nat → Value} {N j : Nat} {v : Value} (hj : f' j = v) (ho : ∀ b, b ≠ j → f' b = f b) : ((List.range N).map f).set j v = (List.range N).map f' := by
  refine List.ext_getElem? fun i => ?_
  rw [List.getElem?_set, List.length_map, List.length_range]
  by_cases hi : j = i
  · subst hi
    by_cases hl : j < N
    · rw [if_pos rfl, if_pos hl, List.getElem?_map, List.getElem?_range hl]
      simp [hj]
    · rw [if_pos rfl, if_neg hl, List.getElem?_eq_none (by simpa using hl)]
  · rw [if_neg hi, List.getElem?_map, List.getElem?_map]
    cases h : (List.range N)[i]? with
    | none => rfl
    | some w =>
      have hl : i < N := by simpa using (List.getElem?_eq_some_iff.mp h).1
      rw [List.getElem?_range hl] at h
      cases h
      simp [ho i (fun z => hi z.symm)]
theorem cellE_o {g : Gd} {B : Nat} {M : Mem} {k ci N : Nat} (hk : M.2.1 k = (ci, N)) (hc : ci < 12) : cellE g B M k = .inr (ci, (List.range N).map (slV B M ci k)) := by
  unfold cellE
  rw [hk]
  exact if_pos hc
theorem cellE_i {g : Gd} {B : Nat} {M : Mem} {k N : Nat} (hk : M.2.1 k = (12, N)) : cellE g B M k = .inl (g.2.1 12, N, .inl (M.2.2.1 k)) := by
  unfold cellE
  rw [hk]
  rfl
theorem cellE_q {g : Gd} {B : Nat} {M : Mem} {k t N : Nat} (hk : M.2.1 k = (t, N)) (ht : 12 < t) : cellE g B M k = .inl (g.2.1 t, N, .inr (.inr (.inr (.inr (fun j => rB B (M.2.2.2 k j)))))) := by
  unfold cellE
  rw [hk]
  rw [if_neg (by show ¬ t < 12; omega), if_neg (by show ¬ t = 12; omega)]
theorem ws_putI {g : Gd} {B : Nat} {M : Mem} {o j ci N : Nat} {v : Int32} (hk : M.2.1 o = (ci, N)) (hc : ci < 12) (hr : refS ci j = false) : (wsOf g B M).set o (B + o, .inr (ci, ((List.range N).map (slV B M ci o)).set j (.int v))) = wsOf g B (mI M o j v) := by
  refine wsOf_set rfl (fun a h => cellE_I h) ?_
  rw [cellE_o (M := mI M o j v) (k := o) hk hc, ← range_set (f := slV B M ci o) (j := j) (v := .int v)]
  · simp [slV, hr, mI, u2]
  · intro b hb
    unfold slV
    rw [show (mI M o j v).2.2.1 o b = M.2.2.1 o b from u2_j _ v hb]
    rfl
theorem ws_putR {g : Gd} {B : Nat} {M : Mem} {o j ci N : Nat} {v : Option Nat} (hk : M.2.1 o = (ci, N)) (hc : ci < 12) (hr : refS ci j = true) : (wsOf g B M).set o (B + o, .inr (ci, ((List.range N).map (slV B M ci o)).set j (va_rf (rB B v)))) = wsOf g B (mR M o j v) := by
  refine wsOf_set rfl (fun a h => cellE_R h) ?_
  rw [cellE_o (M := mR M o j v) (k := o) hk hc, ← range_set (f := slV B M ci o) (j := j) (v := va_rf (rB B v))]
  · simp [slV, hr, mR, u2]
  · intro b hb
    unfold slV
    rw [show (mR M o j v).2.2.2 o b = M.2.2.2 o b from u2_j _ v hb]
    rfl
theorem ws_ast {g : Gd} {B : Nat} {M : Mem} {o j N : Nat} {v : Int32} (hk : M.2.1 o = (12, N)) : (wsOf g B M).set o (B + o, .inl (g.2.1 12, N, .inl (upd (M.2.2.1 o) j v))) = wsOf g B (mI M o j v) := by
  refine wsOf_set rfl (fun a h => cellE_I h) ?_
  rw [cellE_i (M := mI M o j v) (k := o) hk]
  congr 4
  funext b
  by_cases hb : b = j
  · subst hb
    simp [mI, u2, upd]
  · simp [mI, u2, upd, hb]
theorem ws_astR {g : Gd} {B : Nat} {M : Mem} {o j t N : Nat} {v : Option Nat} (hk : M.2.1 o = (t, N)) (ht : 12 < t) : (wsOf g B M).set o (B + o, .inl (g.2.1 t, N, .inr (.inr (.inr (.inr (va_up (fun j => rB B (M.2.2.2 o j)) j (rB B v))))))) = wsOf g B (mR M o j v) := by
  refine wsOf_set rfl (fun a h => cellE_R h) ?_
  rw [cellE_q (M := mR M o j v) (k := o) hk ht]
  congr 7
  funext b
  by_cases hb : b = j
  · subst hb
    simp [mR, u2, va_up]
  · simp [mR, u2, va_up, hb]
end
section
/-! ===== a method's run over the memory ===== -/
/-- a method: its name, code, locals, answer, room, and the class whose constants it uses -/
abbrev Md : Type := MethodName × ByteArray × Nat × Option FieldType × Room × String
def lw_good : List Cond := lw_tbl.filter goodWord
theorem lw_in {w : Cond} (h : w ∈ lw_tbl) (hg : goodWord w = true) : w ∈ lw_good := List.mem_filter.mpr ⟨h, hg⟩
theorem lw_goodIn : GoodIn lw_good lw_good := fun w h => ⟨h, good_of_word (List.mem_filter.mp h).2⟩
def wsD (D : Md) : List Cond := .code D.1 D.2.1 D.2.2.1 D.2.2.2.1 :: lw_good
def isNest : Cond → Bool
  | .methodLinkNest .. => true
  | _ => false
/-- what a state says beside the words: the links between nest mates, the array classes, the three static arrays -/
def Stc (g : Gd) (B : Nat) (U : State) (H : Heap) : Prop :=
  (∀ w ∈ lw_tbl, isNest w = true → va_Nw w U) ∧ va_AO RX4 U ∧ va_AO RX6 U ∧ (Cond.arrayOver (.array .int)).before #[] U = true ∧
  va_Z "FlaringWords$News" "AT_FIRST" "[I" (.ref (g.2.2 0)) (fun q => B ≤ q) U H ∧ va_Z "FlaringWords$News" "LEAST" "[I" (.ref (g.2.2 1)) (fun q => B ≤ q) U H ∧ va_Z "FlaringWords$News" "MOST" "[I" (.ref (g.2.2 2)) (fun q => B ≤ q) U H ∧
  va_T .int (g.2.2 0) 4 (fun j => .int (([2, 2, 2, 6] : List Int32).getD j 0)) (fun q => B ≤ q) U H ∧ va_T .int (g.2.2 1) 4 (fun j => .int (([1, 1, 1, 0] : List Int32).getD j 0)) (fun q => B ≤ q) U H ∧ va_T .int (g.2.2 2) 4 (fun j => .int (([3, 9, 9, 99] : List Int32).getD j 0)) (fun q => B ≤ q) U H
theorem Stc.moved {g : Gd} {B : Nat} {s U : State} {H H1 : Heap} (h : Stc g B s H) (hW : s.WarmedH U.vm) (hq : ∀ a : Nat, a < H.size → ¬ B ≤ a → H1[a]? = H[a]?) : Stc g B U H1 := by
  obtain ⟨h1, h2, h3, h4, h5, h6, h7, h8, h9, h10⟩ := h
  refine ⟨fun w hw hn => ?_, h2.moved hW.alike, h3.moved hW.alike, over_moved hW.alike h4, (h5.moved hW.alike).kept hq, (h6.moved hW.alike).kept hq, (h7.moved hW.alike).kept hq, (h8.moved hW.alike).kept hq, (h9.moved hW.alike).kept hq, (h10.moved hW.alike).kept hq⟩
  have := h1 w hw hn
  cases w <;> first | exact va_Nw.warmM hW this | (simp [isNest] at hn)
def Hold (g : Gd) (B : Nat) (M : Mem) (U : State) : Prop := va_K g.1 cls (tysOf g) U ∧ Stc g B U U.heap ∧ U.heap.size = B + M.1 ∧ va_P g.1 cls (wsOf g B M) U.heap
def Qx (g : Gd) (B : Nat) (post : Option Value → Mem → Prop) : Array Value → State → Outcome → State → Prop := fun _ st o t => (∃ (r : Option Value) (M : Mem), o = .returned (r.map (sh B)) ∧ post r M ∧ t.heap.size = B + M.1 ∧ va_P g.1 cls (wsOf g B M) t.heap) ∧ va_F (fun q => B ≤ q) st t
/-- a method's contract: from the memory M, called with these values, it returns, and post holds of the answer and the memory then; z: cells and slots that it makes -/
def Rn (D : Md) (z : Nat × Nat) (as : List Value) (M : Mem) (post : Option Value → Mem → Prop) : Prop :=
  ∀ (l : Launch) (g : Gd) (B : Nat), Met l D.1 (wsD D) D.2.2.2.2.1 (va_Pc (as.map (sh B)) (Hold g B M)) (Qx g B post) z.1 z.2 (fun q => B ≤ q)
def Cx (D : Md) (g : Gd) (B : Nat) (p : Program) (s : State) (m : MethodId) (args : Array Value) (meth : Method) (c : Code) : Prop :=
  p.tables.exec = Jvm.exec ∧ c.code = D.2.1 ∧ meth.sig.returnType = D.2.2.2.1 ∧ c.maxLocals = D.2.2.1 ∧ s.vm.findClass D.2.2.2.2.2 = some m.cls ∧ (∀ w ∈ lw_good, w.before args s = true) ∧ meth.locks = false ∧ (D.1.name = "<init>" → meth.name = "<init>") ∧ va_K g.1 cls (tysOf g) s ∧ Stc g B s s.heap ∧ B ≤ s.heap.size
/-- at pc, with these locals, this stack and memory M: the method comes to its end, and post holds then -/
def Ok (D : Md) (q z : Nat × Nat) (pc : Nat) (L : List (Nat × Value)) (st : List Value) (M : Mem) (post : Option Value → Mem → Prop) : Prop :=
  ∀ (g : Gd) (B : Nat) (p : Program) (l : Launch) (e : Env) (s : State) (m : MethodId) (args : Array Value) (below : List Frame) (meth : Method) (c : Code) (H : Heap) (locs : List Loc) (ls : Array Slot),
    Cx D g B p s m args meth c → s.heap.size + q.1 = B + M.1 → va_P g.1 cls (wsOf g B M) H → va_S (fun q => B ≤ q) s.heap H locs → lv_has ls D.2.2.1 (L.map (shp B)) →
    W p l e D.2.2.2.2.1 s m args below meth c H locs q.1 q.2 (MQ below (Qx g B post) args s z.1 z.2 (fun q => B ≤ q)) (F0 m pc ls (st.map (sh B)))
theorem sh_cat (B : Nat) (v : Value) : (sh B v).category = v.category := by cases v <;> rfl
theorem lv_args_sh (B : Nat) : ∀ (as : List Value) (i : Nat), lv_args i (as.map (sh B)) = (lv_args i as).map (shp B)
  | [], i => rfl
  | v :: as, i => by
    show lv_args i (sh B v :: as.map (sh B)) = _
    simp only [lv_args, List.map_cons, sh_cat]
    rw [lv_args_sh B as]
    rfl
theorem lg_sl_sh (B : Nat) : ∀ (as : List Value), (lg_sl (as.map (sh B))).length = (lg_sl as).length
  | [] => rfl
  | v :: as => by
    have ih := lg_sl_sh B as
    unfold lg_sl at ih ⊢
    simp only [List.map_cons, List.flatMap_cons, List.length_append, ih, sh_cat]
    by_cases h : v.category = 2 <;> simp [h]
theorem rn_of {D : Md} {z : Nat × Nat} {as : List Value} {M : Mem} {post : Option Value → Mem → Prop} (hy : plainName D.1.cls = true) (hown : D.1.cls = D.2.2.2.2.2) (hn : (lg_sl as).length ≤ D.2.2.1)
    (h : Ok D (0, 0) z 0 (lv_args 0 as) [] M post) : Rn D z as M post := by
  intro l g B
  refine Met.ofW (cc := D.2.1) (maxL := D.2.2.1) (ret := D.2.2.2.1) hy rfl ?_
  intro p e s m args below meth c s₁ Bd hml hv
  obtain ⟨rfl, hK, hSt, hsz, hP⟩ := hv
  have hts := atoms_spec (ws := wsD D) Bd.pre
  have hl := lv_entry (as.map (sh B)) (n := D.2.2.1) (by rw [lg_sl_sh]; exact hn)
  rw [lg_entry_eq]
  generalize (lg_sl (as.map (sh B)) ++ List.replicate (D.2.2.1 - (lg_sl (as.map (sh B))).length) Slot.unset).toArray = ls at hl ⊢
  rw [lv_args_sh] at hl
  refine h g B p l e s m _ below meth c s.heap [] ls ⟨Bd.exec, Bd.bytes, Bd.returns, hml, ?_, fun w hw => hts w (List.mem_cons_of_mem _ hw), Bd.notSynchronized, fun hi => ?_, hK, hSt, by omega⟩ (by show s.heap.size + 0 = _; omega) hP va_S.rf hl
  · rw [← hown]; exact findClass_of_methodNamed Bd.named
  · rw [← hi]; exact (name_of_methodNamed Bd.named Bd.method).1
theorem W_sz {g : Gd} {B : Nat} {M : Mem} {p : Program} {l : Launch} {e : Env} {R : Room} {s : State} {m : MethodId} {args : Array Value} {below : List Frame} {meth : Method} {c : Code} {H : Heap} {locs : List Loc} {c1 c2 : Nat} {Q : State → Prop} {G : JFrame} (hq : s.heap.size + c1 = B + M.1) (hP : va_P g.1 cls (wsOf g B M) H) (hM : 0 < M.1)
    (k : H.size = B + M.1 → W p l e R s m args below meth c H locs c1 c2 Q G) : W p l e R s m args below meth c H locs c1 c2 Q G := fun T hT X => k (by
  have h1 := X.heapSize
  rw [hT] at h1
  have h2 : (B + (M.1 - 1), cellE g B M (M.1 - 1)).1 < H.size := (hP (M.1 - 1) _ (wsOf_get (by omega))).lt
  have h3 : B + (M.1 - 1) < H.size := h2
  omega) T hT X
/-- a new cell lies behind the others -/
theorem W_nw {g : Gd} {B : Nat} {M : Mem} {e0 : va_E} {a0 : Nat} {p : Program} {l : Launch} {e : Env} {R : Room} {s : State} {m : MethodId} {args : Array Value} {below : List Frame} {meth : Method} {c : Code} {H : Heap} {locs : List Loc} {c1 c2 : Nat} {Q : State → Prop} {G : JFrame} (hq : s.heap.size + c1 = B + M.1 + 1) (hP : va_P g.1 cls (wsOf g B M ++ [(a0, e0)]) H) (hD : va_D (fun x => B ≤ x) (wsOf g B M ++ [(a0, e0)]))
    (k : a0 = B + M.1 → W p l e R s m args below meth c H locs c1 c2 Q G) : W p l e R s m args below meth c H locs c1 c2 Q G := fun T hT X => k (by
  have h1 := X.heapSize
  rw [hT] at h1
  have e1 : (wsOf g B M ++ [(a0, e0)])[M.1]? = some (a0, e0) := by
    rw [List.getElem?_append_right (by rw [wsOf_len]; exact Nat.le_refl _), wsOf_len, Nat.sub_self]; rfl
  have h2 : a0 < H.size := (hP M.1 _ e1).lt
  have h3 : B ≤ a0 := hD.2 M.1 _ e1
  by_cases h4 : a0 < B + M.1
  · exfalso
    have e2 : (wsOf g B M ++ [(a0, e0)])[a0 - B]? = some (B + (a0 - B), cellE g B M (a0 - B)) := by
      rw [List.getElem?_append_left (by rw [wsOf_len]; omega)]; exact wsOf_get (by omega)
    have h5 := hD.1 M.1 (a0 - B) _ _ e1 e2 (by show a0 = B + (a0 - B); omega)
    omega
  · omega) T hT X
section OK1
variable {D : Md} {q z : Nat × Nat} {pc : Nat} {L : List (Nat × Value)} {st : List Value} {M : Mem} {post : Option Value → Mem → Prop}
theorem ok_perm {L' : List (Nat × Value)} (ks : List Nat) (hl : lv_pick L ks = L') (k : Ok D q z pc L' st M post) : Ok D q z pc L st M post := by
  intro g B p l e s m args below meth c H locs ls C h1 h2 h3 h4
  refine k g B p l e s m args below meth c H locs ls C h1 h2 h3 ⟨h4.1, h4.2.1, fun x hx => ?_⟩
  subst hl
  obtain ⟨y, hy, rfl⟩ := List.mem_map.mp hx
  unfold lv_pick at hy
  obtain ⟨i, -, hi⟩ := List.mem_filterMap.mp hy
  exact h4.2.2 (shp B y) (List.mem_map.mpr ⟨y, List.mem_of_getElem? hi, rfl⟩)
theorem ls_at {B nL : Nat} {ls : Array Slot} (h : lv_has ls nL (L.map (shp B))) {j i : Nat} {v : Value} (hj : L[j]? = some (i, v)) : ls[i]? = some (.val (sh B v)) :=
  h.2.2 (i, sh B v) (List.mem_map.mpr ⟨(i, v), List.mem_of_getElem? hj, rfl⟩)
theorem ls_put {B i : Nat} {v : Value} {L' : List (Nat × Value)} (h : (i, v) :: L.filter (fun q => !(q.1 == i) && !(q.1 + 1 == i && q.2.category == 2)) = L') : (i, sh B v) :: (L.map (shp B)).filter (fun q => !(q.1 == i) && !(q.1 + 1 == i && q.2.category == 2)) = L'.map (shp B) := by
  subst h
  rw [List.map_cons, List.filter_map]
  show (i, sh B v) :: _ = shp B (i, v) :: _
  congr 2
  refine List.filter_congr fun x _ => ?_
  simp [Function.comp, shp, sh_cat]
theorem ok_post {post' : Option Value → Mem → Prop} (h : ∀ r M, post' r M → post r M) (k : Ok D q z pc L st M post') : Ok D q z pc L st M post := by
  intro g B p l e s m args below meth c H locs ls C h1 h2 h3 h4 T hT X
  obtain ⟨t, a, o, b1, b2, ⟨⟨r, M', c1, c2, c3⟩, b3⟩, b4⟩ := k g B p l e s m args below meth c H locs ls C h1 h2 h3 h4 T hT X
  exact ⟨t, a, o, b1, b2, ⟨⟨r, M', c1, h r M' c2, c3⟩, b3⟩, b4⟩
theorem ok_iload_n {k : Fin 4} {x : Int32} (hd : decode D.2.1 pc = .ok (.iload_n k, 1)) (j : Nat) (hj : L[j]? = some (k.val, .int x)) (kk : Ok D q z (pc + 1) L (.int x :: st) M post) : Ok D q z pc L (st) M post :=
  fun g B p l e s m args below meth c H locs ls C h1 h2 h3 h4 => lv_iload_n C.1 C.2.1 hd rfl (ls_at h4 hj) (kk g B p l e s m args below meth c H locs ls C h1 h2 h3 h4)
theorem ok_iload {i : Nat} {x : Int32} (hd : decode D.2.1 pc = .ok (.iload i, 2)) (j : Nat) (hj : L[j]? = some (i, .int x)) (kk : Ok D q z (pc + 2) L (.int x :: st) M post) : Ok D q z pc L (st) M post :=
  fun g B p l e s m args below meth c H locs ls C h1 h2 h3 h4 => lv_iload C.1 C.2.1 hd (ls_at h4 hj) (kk g B p l e s m args below meth c H locs ls C h1 h2 h3 h4)
theorem ok_lload_n {k : Fin 4} {x : Int64} (hd : decode D.2.1 pc = .ok (.lload_n k, 1)) (j : Nat) (hj : L[j]? = some (k.val, .long x)) (kk : Ok D q z (pc + 1) L (.long x :: st) M post) : Ok D q z pc L (st) M post :=
  fun g B p l e s m args below meth c H locs ls C h1 h2 h3 h4 => lv_lload_n C.1 C.2.1 hd rfl (ls_at h4 hj) (kk g B p l e s m args below meth c H locs ls C h1 h2 h3 h4)
theorem ok_lload {i : Nat} {x : Int64} (hd : decode D.2.1 pc = .ok (.lload i, 2)) (j : Nat) (hj : L[j]? = some (i, .long x)) (kk : Ok D q z (pc + 2) L (.long x :: st) M post) : Ok D q z pc L (st) M post :=
  fun g B p l e s m args below meth c H locs ls C h1 h2 h3 h4 => lv_lload C.1 C.2.1 hd (ls_at h4 hj) (kk g B p l e s m args below meth c H locs ls C h1 h2 h3 h4)
theorem ok_aload_n {k : Fin 4} {x : Nat} (hd : decode D.2.1 pc = .ok (.aload_n k, 1)) (j : Nat) (hj : L[j]? = some (k.val, .ref x)) (kk : Ok D q z (pc + 1) L (.ref x :: st) M post) : Ok D q z pc L (st) M post :=
  fun g B p l e s m args below meth c H locs ls C h1 h2 h3 h4 => lv_aload_n C.1 C.2.1 hd rfl (ls_at h4 hj) (kk g B p l e s m args below meth c H locs ls C h1 h2 h3 h4)
theorem ok_aload {i : Nat} {x : Nat} (hd : decode D.2.1 pc = .ok (.aload i, 2)) (j : Nat) (hj : L[j]? = some (i, .ref x)) (kk : Ok D q z (pc + 2) L (.ref x :: st) M post) : Ok D q z pc L (st) M post :=
  fun g B p l e s m args below meth c H locs ls C h1 h2 h3 h4 => lv_aload C.1 C.2.1 hd (ls_at h4 hj) (kk g B p l e s m args below meth c H locs ls C h1 h2 h3 h4)
theorem ok_iconst {n : Int} {v : Int32} (hd : decode D.2.1 pc = .ok (.iconst n, 1)) (hv : Int32.ofInt n = v) (kk : Ok D q z (pc + 1) L (.int v :: st) M post) : Ok D q z pc L (st) M post :=
  fun g B p l e s m args below meth c H locs ls C h1 h2 h3 h4 => lv_iconst C.1 C.2.1 hd hv (kk g B p l e s m args below meth c H locs ls C h1 h2 h3 h4)
theorem ok_bipush {n : Int} {v : Int32} (hd : decode D.2.1 pc = .ok (.bipush n, 2)) (hv : (Int8.ofInt n).toInt32 = v) (kk : Ok D q z (pc + 2) L (.int v :: st) M post) : Ok D q z pc L (st) M post :=
  fun g B p l e s m args below meth c H locs ls C h1 h2 h3 h4 => lv_bipush C.1 C.2.1 hd hv (kk g B p l e s m args below meth c H locs ls C h1 h2 h3 h4)
theorem ok_sipush {n : Int} {v : Int32} (hd : decode D.2.1 pc = .ok (.sipush n, 3)) (hv : (Int16.ofInt n).toInt32 = v) (kk : Ok D q z (pc + 3) L (.int v :: st) M post) : Ok D q z pc L (st) M post :=
  fun g B p l e s m args below meth c H locs ls C h1 h2 h3 h4 => lv_sipush C.1 C.2.1 hd hv (kk g B p l e s m args below meth c H locs ls C h1 h2 h3 h4)
theorem ok_lconst {n : Fin 2} {v : Int64} (hd : decode D.2.1 pc = .ok (.lconst n, 1)) (hv : Int64.ofNat (n : Nat) = v) (kk : Ok D q z (pc + 1) L (.long v :: st) M post) : Ok D q z pc L (st) M post :=
  fun g B p l e s m args below meth c H locs ls C h1 h2 h3 h4 => lv_lconst C.1 C.2.1 hd hv (kk g B p l e s m args below meth c H locs ls C h1 h2 h3 h4)
theorem ok_ldc {i : Nat} {v : Int32} (hd : decode D.2.1 pc = .ok (.ldc i, 2)) (hw : Cond.constant D.2.2.2.2.2 i v ∈ lw_good) (kk : Ok D q z (pc + 2) L (.int v :: st) M post) : Ok D q z pc L (st) M post :=
  fun g B p l e s m args below meth c H locs ls C h1 h2 h3 h4 => lv_ldc C.1 C.2.1 C.2.2.2.2.1 (C.2.2.2.2.2.1 _ hw) hd (kk g B p l e s m args below meth c H locs ls C h1 h2 h3 h4)
theorem ok_ldcw {i : Nat} {v : Int32} (hd : decode D.2.1 pc = .ok (.ldc_w i, 3)) (hw : Cond.constant D.2.2.2.2.2 i v ∈ lw_good) (kk : Ok D q z (pc + 3) L (.int v :: st) M post) : Ok D q z pc L (st) M post :=
  fun g B p l e s m args below meth c H locs ls C h1 h2 h3 h4 => lv_ldcw C.1 C.2.1 C.2.2.2.2.1 (C.2.2.2.2.2.1 _ hw) hd (kk g B p l e s m args below meth c H locs ls C h1 h2 h3 h4)
theorem ok_ldc2 {i : Nat} {v : Int64} (hd : decode D.2.1 pc = .ok (.ldc2_w i, 3)) (hw : Cond.constantLong D.2.2.2.2.2 i v ∈ lw_good) (kk : Ok D q z (pc + 3) L (.long v :: st) M post) : Ok D q z pc L (st) M post :=
  fun g B p l e s m args below meth c H locs ls C h1 h2 h3 h4 => lv_ldc2 C.1 C.2.1 C.2.2.2.2.1 (C.2.2.2.2.2.1 _ hw) hd (kk g B p l e s m args below meth c H locs ls C h1 h2 h3 h4)
theorem ok_null  (hd : decode D.2.1 pc = .ok (.aconst_null, 1)) (kk : Ok D q z (pc + 1) L (.null :: st) M post) : Ok D q z pc L (st) M post :=
  fun g B p l e s m args below meth c H locs ls C h1 h2 h3 h4 => lv_null C.1 C.2.1 hd (kk g B p l e s m args below meth c H locs ls C h1 h2 h3 h4)
theorem ok_dup {va : Value} (hd : decode D.2.1 pc = .ok (.dup, 1)) (hc : va.category = 1) (kk : Ok D q z (pc + 1) L (va :: va :: st) M post) : Ok D q z pc L (va :: st) M post :=
  fun g B p l e s m args below meth c H locs ls C h1 h2 h3 h4 => lv_dup C.1 C.2.1 hd ((sh_cat B va).trans hc) (kk g B p l e s m args below meth c H locs ls C h1 h2 h3 h4)
theorem ok_dup2 {va vb : Value} (hd : decode D.2.1 pc = .ok (.dup2, 1)) (hc : va.category = 1) (hc2 : vb.category = 1) (kk : Ok D q z (pc + 1) L (va :: vb :: va :: vb :: st) M post) : Ok D q z pc L (va :: vb :: st) M post :=
  fun g B p l e s m args below meth c H locs ls C h1 h2 h3 h4 => lv_dup2_11 C.1 C.2.1 hd ((sh_cat B va).trans hc) ((sh_cat B vb).trans hc2) (kk g B p l e s m args below meth c H locs ls C h1 h2 h3 h4)
theorem ok_iadd {x y : Int32} (hd : decode D.2.1 pc = .ok (.iadd, 1)) (kk : Ok D q z (pc + 1) L (.int (x + y) :: st) M post) : Ok D q z pc L (.int y :: .int x :: st) M post :=
  fun g B p l e s m args below meth c H locs ls C h1 h2 h3 h4 => lv_iadd C.1 C.2.1 hd (kk g B p l e s m args below meth c H locs ls C h1 h2 h3 h4)
theorem ok_isub {x y : Int32} (hd : decode D.2.1 pc = .ok (.isub, 1)) (kk : Ok D q z (pc + 1) L (.int (x - y) :: st) M post) : Ok D q z pc L (.int y :: .int x :: st) M post :=
  fun g B p l e s m args below meth c H locs ls C h1 h2 h3 h4 => lv_isub C.1 C.2.1 hd (kk g B p l e s m args below meth c H locs ls C h1 h2 h3 h4)
theorem ok_imul {x y : Int32} (hd : decode D.2.1 pc = .ok (.imul, 1)) (kk : Ok D q z (pc + 1) L (.int (x * y) :: st) M post) : Ok D q z pc L (.int y :: .int x :: st) M post :=
  fun g B p l e s m args below meth c H locs ls C h1 h2 h3 h4 => lv_imul C.1 C.2.1 hd (kk g B p l e s m args below meth c H locs ls C h1 h2 h3 h4)
theorem ok_iand {x y : Int32} (hd : decode D.2.1 pc = .ok (.iand, 1)) (kk : Ok D q z (pc + 1) L (.int (x &&& y) :: st) M post) : Ok D q z pc L (.int y :: .int x :: st) M post :=
  fun g B p l e s m args below meth c H locs ls C h1 h2 h3 h4 => lv_iand C.1 C.2.1 hd (kk g B p l e s m args below meth c H locs ls C h1 h2 h3 h4)
theorem ok_ior {x y : Int32} (hd : decode D.2.1 pc = .ok (.ior, 1)) (kk : Ok D q z (pc + 1) L (.int (x ||| y) :: st) M post) : Ok D q z pc L (.int y :: .int x :: st) M post :=
  fun g B p l e s m args below meth c H locs ls C h1 h2 h3 h4 => lv_ior C.1 C.2.1 hd (kk g B p l e s m args below meth c H locs ls C h1 h2 h3 h4)
theorem ok_ishl {x y : Int32} (hd : decode D.2.1 pc = .ok (.ishl, 1)) (kk : Ok D q z (pc + 1) L (.int (x <<< (y &&& 31)) :: st) M post) : Ok D q z pc L (.int y :: .int x :: st) M post :=
  fun g B p l e s m args below meth c H locs ls C h1 h2 h3 h4 => lv_ishl C.1 C.2.1 hd (kk g B p l e s m args below meth c H locs ls C h1 h2 h3 h4)
theorem ok_ishr {x y : Int32} (hd : decode D.2.1 pc = .ok (.ishr, 1)) (kk : Ok D q z (pc + 1) L (.int (x >>> (y &&& 31)) :: st) M post) : Ok D q z pc L (.int y :: .int x :: st) M post :=
  fun g B p l e s m args below meth c H locs ls C h1 h2 h3 h4 => lv_ishr C.1 C.2.1 hd (kk g B p l e s m args below meth c H locs ls C h1 h2 h3 h4)
theorem ok_idiv {x y : Int32} (hd : decode D.2.1 pc = .ok (.idiv, 1)) (hy : ¬ y = 0) (kk : Ok D q z (pc + 1) L (.int (x / y) :: st) M post) : Ok D q z pc L (.int y :: .int x :: st) M post :=
  fun g B p l e s m args below meth c H locs ls C h1 h2 h3 h4 => lv_idiv C.1 C.2.1 hd hy (kk g B p l e s m args below meth c H locs ls C h1 h2 h3 h4)
theorem ok_irem {x y : Int32} (hd : decode D.2.1 pc = .ok (.irem, 1)) (hy : ¬ y = 0) (kk : Ok D q z (pc + 1) L (.int (x - x / y * y) :: st) M post) : Ok D q z pc L (.int y :: .int x :: st) M post :=
  fun g B p l e s m args below meth c H locs ls C h1 h2 h3 h4 => lv_irem C.1 C.2.1 hd hy (kk g B p l e s m args below meth c H locs ls C h1 h2 h3 h4)
theorem ok_ineg {x : Int32} (hd : decode D.2.1 pc = .ok (.ineg, 1)) (kk : Ok D q z (pc + 1) L (.int (-x) :: st) M post) : Ok D q z pc L (.int x :: st) M post :=
  fun g B p l e s m args below meth c H locs ls C h1 h2 h3 h4 => lv_ineg C.1 C.2.1 hd (kk g B p l e s m args below meth c H locs ls C h1 h2 h3 h4)
theorem ok_ladd {x y : Int64} (hd : decode D.2.1 pc = .ok (.ladd, 1)) (kk : Ok D q z (pc + 1) L (.long (x + y) :: st) M post) : Ok D q z pc L (.long y :: .long x :: st) M post :=
  fun g B p l e s m args below meth c H locs ls C h1 h2 h3 h4 => lv_ladd C.1 C.2.1 hd (kk g B p l e s m args below meth c H locs ls C h1 h2 h3 h4)
theorem ok_lmul {x y : Int64} (hd : decode D.2.1 pc = .ok (.lmul, 1)) (kk : Ok D q z (pc + 1) L (.long (x * y) :: st) M post) : Ok D q z pc L (.long y :: .long x :: st) M post :=
  fun g B p l e s m args below meth c H locs ls C h1 h2 h3 h4 => lv_lmul C.1 C.2.1 hd (kk g B p l e s m args below meth c H locs ls C h1 h2 h3 h4)
theorem ok_lrem {x y : Int64} (hd : decode D.2.1 pc = .ok (.lrem, 1)) (hy : ¬ y = 0) (kk : Ok D q z (pc + 1) L (.long (x - x / y * y) :: st) M post) : Ok D q z pc L (.long y :: .long x :: st) M post :=
  fun g B p l e s m args below meth c H locs ls C h1 h2 h3 h4 => lv_lrem C.1 C.2.1 hd hy (kk g B p l e s m args below meth c H locs ls C h1 h2 h3 h4)
theorem ok_i2l {x : Int32} (hd : decode D.2.1 pc = .ok (.i2l, 1)) (kk : Ok D q z (pc + 1) L (.long x.toInt64 :: st) M post) : Ok D q z pc L (.int x :: st) M post :=
  fun g B p l e s m args below meth c H locs ls C h1 h2 h3 h4 => lv_i2l C.1 C.2.1 hd rfl (kk g B p l e s m args below meth c H locs ls C h1 h2 h3 h4)
theorem ok_l2i {x : Int64} (hd : decode D.2.1 pc = .ok (.l2i, 1)) (kk : Ok D q z (pc + 1) L (.int x.toInt32 :: st) M post) : Ok D q z pc L (.long x :: st) M post :=
  fun g B p l e s m args below meth c H locs ls C h1 h2 h3 h4 => lv_l2i C.1 C.2.1 hd rfl (kk g B p l e s m args below meth c H locs ls C h1 h2 h3 h4)
theorem ok_lcmp {x y : Int64} (hd : decode D.2.1 pc = .ok (.lcmp, 1)) (kk : Ok D q z (pc + 1) L (.int (lg_cmp x y) :: st) M post) : Ok D q z pc L (.long y :: .long x :: st) M post :=
  fun g B p l e s m args below meth c H locs ls C h1 h2 h3 h4 => W.lcmp C.1 C.2.1 hd (kk g B p l e s m args below meth c H locs ls C h1 h2 h3 h4)
theorem ok_goto {off : Int} {tgt : Nat} (hd : decode D.2.1 pc = .ok (.goto off, 3)) (ht : (pc : Int) + off = (tgt : Int)) (kk : Ok D q z (tgt) L (st) M post) : Ok D q z pc L (st) M post :=
  fun g B p l e s m args below meth c H locs ls C h1 h2 h3 h4 => lv_goto C.1 C.2.1 hd ht (kk g B p l e s m args below meth c H locs ls C h1 h2 h3 h4)
theorem ok_ifnonnull {x : Nat} {off : Int} {tgt : Nat} (hd : decode D.2.1 pc = .ok (.ifnonnull off, 3)) (ht : (pc : Int) + off = (tgt : Int)) (kk : Ok D q z (tgt) L (st) M post) : Ok D q z pc L (.ref x :: st) M post :=
  fun g B p l e s m args below meth c H locs ls C h1 h2 h3 h4 => lv_ifnonnull C.1 C.2.1 hd ht (kk g B p l e s m args below meth c H locs ls C h1 h2 h3 h4)
theorem ok_ifnonnullN {off : Int} (hd : decode D.2.1 pc = .ok (.ifnonnull off, 3)) (kk : Ok D q z (pc + 3) L (st) M post) : Ok D q z pc L (.null :: st) M post :=
  fun g B p l e s m args below meth c H locs ls C h1 h2 h3 h4 => lv_ifnonnullN C.1 C.2.1 hd (kk g B p l e s m args below meth c H locs ls C h1 h2 h3 h4)
theorem ok_ifnull {x : Nat} {off : Int} (hd : decode D.2.1 pc = .ok (.ifnull off, 3)) (kk : Ok D q z (pc + 3) L (st) M post) : Ok D q z pc L (.ref x :: st) M post :=
  fun g B p l e s m args below meth c H locs ls C h1 h2 h3 h4 => lv_ifnull C.1 C.2.1 hd (kk g B p l e s m args below meth c H locs ls C h1 h2 h3 h4)
theorem ok_icmp_eq {x y : Int32} {off : Int} {tgt : Nat} (hd : decode D.2.1 pc = .ok (.if_icmp .eq off, 3)) (ht : (pc : Int) + off = (tgt : Int)) (kt : x = y → Ok D q z tgt L st M post) (kf : ¬ x = y → Ok D q z (pc + 3) L st M post) : Ok D q z pc L (.int y :: .int x :: st) M post :=
  fun g B p l e s m args below meth c H locs ls C h1 h2 h3 h4 => lv_icmp_eq C.1 C.2.1 hd ht (fun hh => kt hh g B p l e s m args below meth c H locs ls C h1 h2 h3 h4) (fun hh => kf hh g B p l e s m args below meth c H locs ls C h1 h2 h3 h4)
theorem ok_if_eq {x : Int32} {off : Int} {tgt : Nat} (hd : decode D.2.1 pc = .ok (.ifCond .eq off, 3)) (ht : (pc : Int) + off = (tgt : Int)) (kt : x = 0 → Ok D q z tgt L st M post) (kf : ¬ x = 0 → Ok D q z (pc + 3) L st M post) : Ok D q z pc L (.int x :: st) M post :=
  fun g B p l e s m args below meth c H locs ls C h1 h2 h3 h4 => lv_if_eq C.1 C.2.1 hd ht (fun hh => kt hh g B p l e s m args below meth c H locs ls C h1 h2 h3 h4) (fun hh => kf hh g B p l e s m args below meth c H locs ls C h1 h2 h3 h4)
theorem ok_icmp_lt {x y : Int32} {off : Int} {tgt : Nat} (hd : decode D.2.1 pc = .ok (.if_icmp .lt off, 3)) (ht : (pc : Int) + off = (tgt : Int)) (kt : x < y → Ok D q z tgt L st M post) (kf : ¬ x < y → Ok D q z (pc + 3) L st M post) : Ok D q z pc L (.int y :: .int x :: st) M post :=
  fun g B p l e s m args below meth c H locs ls C h1 h2 h3 h4 => lv_icmp_lt C.1 C.2.1 hd ht (fun hh => kt hh g B p l e s m args below meth c H locs ls C h1 h2 h3 h4) (fun hh => kf hh g B p l e s m args below meth c H locs ls C h1 h2 h3 h4)
theorem ok_if_lt {x : Int32} {off : Int} {tgt : Nat} (hd : decode D.2.1 pc = .ok (.ifCond .lt off, 3)) (ht : (pc : Int) + off = (tgt : Int)) (kt : x < 0 → Ok D q z tgt L st M post) (kf : ¬ x < 0 → Ok D q z (pc + 3) L st M post) : Ok D q z pc L (.int x :: st) M post :=
  fun g B p l e s m args below meth c H locs ls C h1 h2 h3 h4 => lv_if_lt C.1 C.2.1 hd ht (fun hh => kt hh g B p l e s m args below meth c H locs ls C h1 h2 h3 h4) (fun hh => kf hh g B p l e s m args below meth c H locs ls C h1 h2 h3 h4)
theorem ok_icmp_ge {x y : Int32} {off : Int} {tgt : Nat} (hd : decode D.2.1 pc = .ok (.if_icmp .ge off, 3)) (ht : (pc : Int) + off = (tgt : Int)) (kt : y ≤ x → Ok D q z tgt L st M post) (kf : ¬ y ≤ x → Ok D q z (pc + 3) L st M post) : Ok D q z pc L (.int y :: .int x :: st) M post :=
  fun g B p l e s m args below meth c H locs ls C h1 h2 h3 h4 => lv_icmp_ge C.1 C.2.1 hd ht (fun hh => kt hh g B p l e s m args below meth c H locs ls C h1 h2 h3 h4) (fun hh => kf hh g B p l e s m args below meth c H locs ls C h1 h2 h3 h4)
theorem ok_if_ge {x : Int32} {off : Int} {tgt : Nat} (hd : decode D.2.1 pc = .ok (.ifCond .ge off, 3)) (ht : (pc : Int) + off = (tgt : Int)) (kt : 0 ≤ x → Ok D q z tgt L st M post) (kf : ¬ 0 ≤ x → Ok D q z (pc + 3) L st M post) : Ok D q z pc L (.int x :: st) M post :=
  fun g B p l e s m args below meth c H locs ls C h1 h2 h3 h4 => lv_if_ge C.1 C.2.1 hd ht (fun hh => kt hh g B p l e s m args below meth c H locs ls C h1 h2 h3 h4) (fun hh => kf hh g B p l e s m args below meth c H locs ls C h1 h2 h3 h4)
theorem ok_icmp_gt {x y : Int32} {off : Int} {tgt : Nat} (hd : decode D.2.1 pc = .ok (.if_icmp .gt off, 3)) (ht : (pc : Int) + off = (tgt : Int)) (kt : y < x → Ok D q z tgt L st M post) (kf : ¬ y < x → Ok D q z (pc + 3) L st M post) : Ok D q z pc L (.int y :: .int x :: st) M post :=
  fun g B p l e s m args below meth c H locs ls C h1 h2 h3 h4 => lv_icmp_gt C.1 C.2.1 hd ht (fun hh => kt hh g B p l e s m args below meth c H locs ls C h1 h2 h3 h4) (fun hh => kf hh g B p l e s m args below meth c H locs ls C h1 h2 h3 h4)
theorem ok_if_gt {x : Int32} {off : Int} {tgt : Nat} (hd : decode D.2.1 pc = .ok (.ifCond .gt off, 3)) (ht : (pc : Int) + off = (tgt : Int)) (kt : 0 < x → Ok D q z tgt L st M post) (kf : ¬ 0 < x → Ok D q z (pc + 3) L st M post) : Ok D q z pc L (.int x :: st) M post :=
  fun g B p l e s m args below meth c H locs ls C h1 h2 h3 h4 => lv_if_gt C.1 C.2.1 hd ht (fun hh => kt hh g B p l e s m args below meth c H locs ls C h1 h2 h3 h4) (fun hh => kf hh g B p l e s m args below meth c H locs ls C h1 h2 h3 h4)
theorem ok_icmp_le {x y : Int32} {off : Int} {tgt : Nat} (hd : decode D.2.1 pc = .ok (.if_icmp .le off, 3)) (ht : (pc : Int) + off = (tgt : Int)) (kt : x ≤ y → Ok D q z tgt L st M post) (kf : ¬ x ≤ y → Ok D q z (pc + 3) L st M post) : Ok D q z pc L (.int y :: .int x :: st) M post :=
  fun g B p l e s m args below meth c H locs ls C h1 h2 h3 h4 => lv_icmp_le C.1 C.2.1 hd ht (fun hh => kt hh g B p l e s m args below meth c H locs ls C h1 h2 h3 h4) (fun hh => kf hh g B p l e s m args below meth c H locs ls C h1 h2 h3 h4)
theorem ok_if_le {x : Int32} {off : Int} {tgt : Nat} (hd : decode D.2.1 pc = .ok (.ifCond .le off, 3)) (ht : (pc : Int) + off = (tgt : Int)) (kt : x ≤ 0 → Ok D q z tgt L st M post) (kf : ¬ x ≤ 0 → Ok D q z (pc + 3) L st M post) : Ok D q z pc L (.int x :: st) M post :=
  fun g B p l e s m args below meth c H locs ls C h1 h2 h3 h4 => lv_if_le C.1 C.2.1 hd ht (fun hh => kt hh g B p l e s m args below meth c H locs ls C h1 h2 h3 h4) (fun hh => kf hh g B p l e s m args below meth c H locs ls C h1 h2 h3 h4)
theorem ok_icmp_ne {x y : Int32} {off : Int} {tgt : Nat} (hd : decode D.2.1 pc = .ok (.if_icmp .ne off, 3)) (ht : (pc : Int) + off = (tgt : Int)) (kt : ¬ x = y → Ok D q z tgt L st M post) (kf : x = y → Ok D q z (pc + 3) L st M post) : Ok D q z pc L (.int y :: .int x :: st) M post :=
  fun g B p l e s m args below meth c H locs ls C h1 h2 h3 h4 => lv_icmp_ne C.1 C.2.1 hd ht (fun hh => kt hh g B p l e s m args below meth c H locs ls C h1 h2 h3 h4) (fun hh => kf hh g B p l e s m args below meth c H locs ls C h1 h2 h3 h4)
theorem ok_if_ne {x : Int32} {off : Int} {tgt : Nat} (hd : decode D.2.1 pc = .ok (.ifCond .ne off, 3)) (ht : (pc : Int) + off = (tgt : Int)) (kt : ¬ x = 0 → Ok D q z tgt L st M post) (kf : x = 0 → Ok D q z (pc + 3) L st M post) : Ok D q z pc L (.int x :: st) M post :=
  fun g B p l e s m args below meth c H locs ls C h1 h2 h3 h4 => lv_if_ne C.1 C.2.1 hd ht (fun hh => kt hh g B p l e s m args below meth c H locs ls C h1 h2 h3 h4) (fun hh => kf hh g B p l e s m args below meth c H locs ls C h1 h2 h3 h4)
theorem ok_tableIn {dflt lo hi : Int} {offs : Array Int} {len : Nat} {x : Int32} {off : Int} {tgt : Nat} (hd : decode D.2.1 pc = .ok (.tableswitch dflt lo hi offs, len)) (hb1 : ¬ x.toInt < lo) (hb2 : ¬ hi < x.toInt) (ho : offs[(x.toInt - lo).toNat]? = some off) (ht : (pc : Int) + off = (tgt : Int)) (kk : Ok D q z tgt L st M post) : Ok D q z pc L (.int x :: st) M post :=
  fun g B p l e s m args below meth c H locs ls C h1 h2 h3 h4 => lv_tableIn C.1 C.2.1 hd hb1 hb2 ho ht (kk g B p l e s m args below meth c H locs ls C h1 h2 h3 h4)
theorem ok_tableOut {dflt lo hi : Int} {offs : Array Int} {len : Nat} {x : Int32} {tgt : Nat} (hd : decode D.2.1 pc = .ok (.tableswitch dflt lo hi offs, len)) (hx : x.toInt < lo ∨ hi < x.toInt) (ht : (pc : Int) + dflt = (tgt : Int)) (kk : Ok D q z tgt L st M post) : Ok D q z pc L (.int x :: st) M post :=
  fun g B p l e s m args below meth c H locs ls C h1 h2 h3 h4 => lv_tableOut C.1 C.2.1 hd hx ht (kk g B p l e s m args below meth c H locs ls C h1 h2 h3 h4)
theorem ok_lookup {dflt : Int} {ps : Array (Int × Int)} {len : Nat} {x : Int32} {off : Int} {tgt : Nat} (hd : decode D.2.1 pc = .ok (.lookupswitch dflt ps, len)) (hp : (ps.toList.zip (ps.toList.drop 1)).all (fun (a, next) => a.1 < next.1) = true) (ho : Op.lookupswitch.offset ps.toList dflt x.toInt = off) (ht : (pc : Int) + off = (tgt : Int)) (kk : Ok D q z tgt L st M post) : Ok D q z pc L (.int x :: st) M post :=
  fun g B p l e s m args below meth c H locs ls C h1 h2 h3 h4 => lv_lookup C.1 C.2.1 hd hp ho ht (kk g B p l e s m args below meth c H locs ls C h1 h2 h3 h4)
theorem ok_istore_n {k : Fin 4} {x : Int32} {L' : List (Nat × Value)} (hd : decode D.2.1 pc = .ok (.istore_n k, 1)) (hn : k.val < D.2.2.1) (hL : (k.val, Value.int x) :: L.filter (fun q => !(q.1 == k.val) && !(q.1 + 1 == k.val && q.2.category == 2)) = L') (kk : Ok D q z (pc + 1) L' st M post) : Ok D q z pc L (.int x :: st) M post :=
  fun g B p l e s m args below meth c H locs ls C h1 h2 h3 h4 => lv_istore_n C.1 C.2.1 hd rfl h4 hn (ls_put hL) (fun ls' hl' => kk g B p l e s m args below meth c H locs ls' C h1 h2 h3 hl')
theorem ok_istore {i : Nat} {x : Int32} {L' : List (Nat × Value)} (hd : decode D.2.1 pc = .ok (.istore i, 2)) (hn : i < D.2.2.1) (hL : (i, Value.int x) :: L.filter (fun q => !(q.1 == i) && !(q.1 + 1 == i && q.2.category == 2)) = L') (kk : Ok D q z (pc + 2) L' st M post) : Ok D q z pc L (.int x :: st) M post :=
  fun g B p l e s m args below meth c H locs ls C h1 h2 h3 h4 => lv_istore C.1 C.2.1 hd h4 hn (ls_put hL) (fun ls' hl' => kk g B p l e s m args below meth c H locs ls' C h1 h2 h3 hl')
theorem ok_astore_n {k : Fin 4} {x : Nat} {L' : List (Nat × Value)} (hd : decode D.2.1 pc = .ok (.astore_n k, 1)) (hn : k.val < D.2.2.1) (hL : (k.val, Value.ref x) :: L.filter (fun q => !(q.1 == k.val) && !(q.1 + 1 == k.val && q.2.category == 2)) = L') (kk : Ok D q z (pc + 1) L' st M post) : Ok D q z pc L (.ref x :: st) M post :=
  fun g B p l e s m args below meth c H locs ls C h1 h2 h3 h4 => lv_astore_n C.1 C.2.1 hd rfl h4 hn (ls_put hL) (fun ls' hl' => kk g B p l e s m args below meth c H locs ls' C h1 h2 h3 hl')
theorem ok_iinc {i : Nat} {n : Int} {x v : Int32} {L' : List (Nat × Value)} (hd : decode D.2.1 pc = .ok (.iinc i n, 3)) (j : Nat) (hj : L[j]? = some (i, .int x)) (hv : x + Int32.ofInt n = v) (hn : i < D.2.2.1) (hL : (i, Value.int v) :: L.filter (fun q => !(q.1 == i) && !(q.1 + 1 == i && q.2.category == 2)) = L') (kk : Ok D q z (pc + 3) L' st M post) : Ok D q z pc L st M post :=
  fun g B p l e s m args below meth c H locs ls C h1 h2 h3 h4 => lv_iinc C.1 C.2.1 hd h4 (k := j) (by rw [List.getElem?_map, hj]; rfl) hv hn (ls_put hL) (fun ls' hl' => kk g B p l e s m args below meth c H locs ls' C h1 h2 h3 hl')
theorem Stc.now {D : Md} {g : Gd} {B : Nat} {p : Program} {s : State} {m : MethodId} {args : Array Value} {meth : Method} {c : Code} (C : Cx D g B p s m args meth c) {H : Heap} {locs : List Loc} (hS : va_S (fun q => B ≤ q) s.heap H locs) {U : State} (hU : U.heap = H) (hW : s.WarmedH U.vm) : Stc g B U U.heap := by
  refine C.2.2.2.2.2.2.2.2.2.1.moved hW (fun a h1 h2 => ?_)
  rw [hU]
  exact hS.2.1 a h1 h2
theorem ok_ret {D : Md} {z : Nat × Nat} {pc : Nat} {L : List (Nat × Value)} {M : Mem} {post : Option Value → Mem → Prop} {v : Int32} {ty : FieldType} (hM : 0 < M.1) (hd : decode D.2.1 pc = .ok (.ireturn, 1)) (hr : D.2.2.2.1 = some ty) (hn : narrow ty (.int v) = .int v) (h : post (some (.int v)) M) : Ok D z z pc L [.int v] M post :=
  fun g B p l e s m args below meth c H locs ls C h1 h2 h3 h4 => W_sz h1 h2 hM fun h1 => W.zret C.1 C.2.1 (C.2.2.1.trans hr) hn (fun t ht hW => ⟨⟨some (.int v), M, rfl, h, by rw [ht]; exact h1, by rw [ht]; exact h2⟩, h3.F ht⟩) h3.2.2 hd C.2.2.2.2.2.2.1
theorem ok_retv {D : Md} {z : Nat × Nat} {pc : Nat} {L : List (Nat × Value)} {M : Mem} {post : Option Value → Mem → Prop} (hM : 0 < M.1) (hd : decode D.2.1 pc = .ok (.return_, 1)) (hr : D.2.2.2.1 = none) (h : post none M) : Ok D z z pc L [] M post :=
  fun g B p l e s m args below meth c H locs ls C h1 h2 h3 h4 => W_sz h1 h2 hM fun h1 => W.vret C.1 C.2.1 (C.2.2.1.trans hr) (fun t ht hW => ⟨⟨none, M, rfl, h, by rw [ht]; exact h1, by rw [ht]; exact h2⟩, h3.F ht⟩) h3.2.2 hd C.2.2.2.2.2.2.1
theorem ok_reta {D : Md} {z : Nat × Nat} {pc : Nat} {L : List (Nat × Value)} {M : Mem} {post : Option Value → Mem → Prop} {v : Value} {n : String} (hM : 0 < M.1) (hd : decode D.2.1 pc = .ok (.areturn, 1)) (hr : D.2.2.2.1 = some (.object n)) (hv : v = .null ∨ ∃ a, v = .ref a) (h : post (some v) M) : Ok D z z pc L [v] M post :=
  fun g B p l e s m args below meth c H locs ls C h1 h2 h3 h4 => W_sz h1 h2 hM fun h1 => W.aret (v := sh B v) C.1 C.2.1 (C.2.2.1.trans hr) (Or.inl ⟨n, rfl⟩) (by rcases hv with rfl | ⟨a, rfl⟩; exact Or.inl rfl; exact Or.inr ⟨_, rfl⟩) (fun t ht hW => ⟨⟨some v, M, rfl, h, by rw [ht]; exact h1, by rw [ht]; exact h2⟩, h3.F ht⟩) h3.2.2 hd C.2.2.2.2.2.2.1
/-- a class, as the tables have it -/
def Cl (ci : Nat) (C : String) (T : u_T) (N : Nat) : Prop := cls[ci]? = some (C, T, N) ∧ ci < 12 ∧ (∀ w ∈ u_ws C T N, w ∈ lw_good) ∧ (∀ k, k < N → parseFieldDescriptor (T k).2.2.1 = some (tyOf ci k)) ∧ (∀ a, a < N → ∀ b, b < N → a ≠ b → (T a).2.1 ≠ (T b).2.1)
/-- a field that class own's entry idx names: class ci's slot j; f: it is final -/
def Fl (own : String) (idx ci j : Nat) (f : Bool) : Prop := ∃ (C : String) (T : u_T) (N : Nat), Cl ci C T N ∧ j < N ∧ Cond.fieldLink own idx (T j).1 (T j).2.1 (T j).2.2.1 ∈ lw_good ∧ (T j).2.2.2 = f ∧ (T j).1 = C
theorem slV_I {B : Nat} {M : Mem} {ci o j N : Nat} (hj : j < N) (hr : refS ci j = false) : ((List.range N).map (slV B M ci o))[j]? = some (.int (M.2.2.1 o j)) := by
  rw [List.getElem?_map, List.getElem?_range hj]
  simp [slV, hr]
theorem slV_R {B : Nat} {M : Mem} {ci o j N : Nat} (hj : j < N) (hr : refS ci j = true) : ((List.range N).map (slV B M ci o))[j]? = some (va_rf (rB B (M.2.2.2 o j))) := by
  rw [List.getElem?_map, List.getElem?_range hj]
  simp [slV, hr]
theorem ok_getI {o idx ci j N : Nat} {f : Bool} (hd : decode D.2.1 pc = .ok (.getfield idx, 3)) (hf : Fl D.2.2.2.2.2 idx ci j f) (ho : o < M.1) (hk : M.2.1 o = (ci, N)) (hj : j < N) (hr : refS ci j = false) (kk : Ok D q z (pc + 3) L (.int (M.2.2.1 o j) :: st) M post) : Ok D q z pc L (.ref o :: st) M post := by
  intro g B p l e s m args below meth c H locs ls C h1 h2 h3 h4
  obtain ⟨Cn, T, Nc, ⟨hc, hc2, hin, -, -⟩, hjn, hlk, -, -⟩ := hf
  exact va_get (D := g.1) (cl := cls) C.1 C.2.1 C.2.2.2.2.2.1 hin C.2.2.2.2.1 C.2.2.2.2.2.2.2.2.1 h2 o ((wsOf_get ho).trans (by rw [cellE_o hk hc2])) hc j hjn (C.2.2.2.2.2.1 _ hlk) (fun _ h9 => h9) (slV_I hj hr) hd (kk g B p l e s m args below meth c H locs ls C h1 h2 h3 h4)
theorem ok_getR {o idx ci j N t : Nat} {f : Bool} (hd : decode D.2.1 pc = .ok (.getfield idx, 3)) (hf : Fl D.2.2.2.2.2 idx ci j f) (ho : o < M.1) (hk : M.2.1 o = (ci, N)) (hj : j < N) (hr : refS ci j = true) (ht : M.2.2.2 o j = some t) (kk : Ok D q z (pc + 3) L (.ref t :: st) M post) : Ok D q z pc L (.ref o :: st) M post := by
  intro g B p l e s m args below meth c H locs ls C h1 h2 h3 h4
  obtain ⟨Cn, T, Nc, ⟨hc, hc2, hin, -, -⟩, hjn, hlk, -, -⟩ := hf
  exact va_get (D := g.1) (cl := cls) C.1 C.2.1 C.2.2.2.2.2.1 hin C.2.2.2.2.1 C.2.2.2.2.2.2.2.2.1 h2 o ((wsOf_get ho).trans (by rw [cellE_o hk hc2])) hc j hjn (C.2.2.2.2.2.1 _ hlk) (fun _ h9 => h9) ((slV_R hj hr).trans (by rw [ht]; rfl)) hd (kk g B p l e s m args below meth c H locs ls C h1 h2 h3 h4)
theorem ok_putI {o idx ci j N : Nat} {v : Int32} (hd : decode D.2.1 pc = .ok (.putfield idx, 3)) (hf : Fl D.2.2.2.2.2 idx ci j false) (ho : o < M.1) (hk : M.2.1 o = (ci, N)) (hj : j < N) (hr : refS ci j = false) (hn : narrow (tyOf ci j) (.int v) = .int v) (hft : fits (tyOf ci j) (.int v) = true) (kk : Ok D q z (pc + 3) L st (mI M o j v) post) : Ok D q z pc L (.int v :: .ref o :: st) M post := by
  intro g B p l e s m args below meth c H locs ls C h1 h2 h3 h4
  obtain ⟨Cn, T, Nc, ⟨hc, hc2, hin, hty, hnm⟩, hjn, hlk, hfin, -⟩ := hf
  refine va_put (D := g.1) (cl := cls) (ty := tyOf ci j) (v := .int v) C.1 C.2.1 C.2.2.2.2.2.1 hin (tyOf ci) hty hnm C.2.2.2.2.1 C.2.2.2.2.2.2.2.2.1 h2 (wsOf_D g B M) h3 o ((wsOf_get ho).trans (by rw [cellE_o hk hc2])) hc j hjn (C.2.2.2.2.2.1 _ hlk) (fun _ h9 => h9) hfin (hty j hjn) hn hft (by simpa using hj) hd (fun H1 locs1 hP hD hS => ?_)
  rw [ws_putI hk hc2 hr] at hP
  exact kk g B p l e s m args below meth c H1 locs1 ls C h1 hP hS h4
/-- a final field that holds a reference, in its constructor -/
theorem ok_putF {o idx ci j N t : Nat} (hd : decode D.2.1 pc = .ok (.putfield idx, 3)) (hf : Fl D.2.2.2.2.2 idx ci j true) (hown : D.1.name = "<init>" ∧ (cls[ci]?.map (fun c => c.1)) = some D.2.2.2.2.2) (ho : o < M.1) (hk : M.2.1 o = (ci, N)) (hj : j < N) (hr : refS ci j = true) (hn : narrow (tyOf ci j) (.ref 0) = .ref 0) (hft : ∀ t, narrow (tyOf ci j) (.ref t) = .ref t ∧ fits (tyOf ci j) (.ref t) = true) (kk : Ok D q z (pc + 3) L st (mR M o j (some t)) post) : Ok D q z pc L (.ref t :: .ref o :: st) M post := by
  intro g B p l e s m args below meth c H locs ls C h1 h2 h3 h4
  obtain ⟨Cn, T, Nc, ⟨hc, hc2, hin, hty, hnm⟩, hjn, hlk, hfin, hC⟩ := hf
  have hCn : Cn = D.2.2.2.2.2 := by
    have h9 := hown.2
    rw [hc] at h9
    exact Option.some.inj h9
  refine va_putF (D := g.1) (cl := cls) (ty := tyOf ci j) (v := .ref (B + t)) C.1 C.2.1 C.2.2.2.2.2.1 hin (tyOf ci) hty hnm C.2.2.2.2.1 C.2.2.2.2.2.2.2.2.1 h2 (wsOf_D g B M) h3 o ((wsOf_get ho).trans (by rw [cellE_o hk hc2])) hc j hjn (C.2.2.2.2.2.1 _ hlk) (fun _ h9 => h9) hfin (C.2.2.2.2.2.2.2.1 hown.1) (hC.trans hCn) (hty j hjn) (hft _).1 (hft _).2 (by simpa using hj) hd (fun H1 locs1 hP hD hS => ?_)
  have hP : va_P g.1 cls ((wsOf g B M).set o (B + o, .inr (ci, ((List.range N).map (slV B M ci o)).set j (va_rf (rB B (some t)))))) H1 := hP
  rw [ws_putR hk hc2 hr] at hP
  exact kk g B p l e s m args below meth c H1 locs1 ls C h1 hP hS h4
theorem ok_iaload {o n : Nat} {i : Int32} (hd : decode D.2.1 pc = .ok (.iaload, 1)) (ho : o < M.1) (hk : M.2.1 o = (12, n)) (hi : vp_in i n) (kk : Ok D q z (pc + 1) L (.int (M.2.2.1 o i.toNatClampNeg) :: st) M post) : Ok D q z pc L (.int i :: .ref o :: st) M post :=
  fun g B p l e s m args below meth c H locs ls C h1 h2 h3 h4 => va_iald C.1 C.2.1 C.2.2.2.2.2.2.2.2.1 h2 o 0 ((wsOf_get ho).trans (by rw [cellE_i hk])) rfl hi hd (kk g B p l e s m args below meth c H locs ls C h1 h2 h3 h4)
theorem ok_iastore {o n : Nat} {i x : Int32} (hd : decode D.2.1 pc = .ok (.iastore, 1)) (ho : o < M.1) (hk : M.2.1 o = (12, n)) (hi : vp_in i n) (kk : Ok D q z (pc + 1) L st (mI M o i.toNatClampNeg x) post) : Ok D q z pc L (.int x :: .int i :: .ref o :: st) M post :=
  fun g B p l e s m args below meth c H locs ls C h1 h2 h3 h4 => va_iast C.1 C.2.1 C.2.2.2.2.2.2.2.2.1 h2 (wsOf_D g B M) h3 o 0 ((wsOf_get ho).trans (by rw [cellE_i hk])) rfl hi hd (fun H1 locs1 hP hD hS => by
    rw [ws_ast hk] at hP
    exact kk g B p l e s m args below meth c H1 locs1 ls C h1 hP hS h4)
theorem ok_aaload {o n t y : Nat} {i : Int32} (hd : decode D.2.1 pc = .ok (.aaload, 1)) (ho : o < M.1) (hk : M.2.1 o = (t, n)) (ht : t = 13 ∨ t = 14) (hi : vp_in i n) (hy : M.2.2.2 o i.toNatClampNeg = some y) (kk : Ok D q z (pc + 1) L (.ref y :: st) M post) : Ok D q z pc L (.int i :: .ref o :: st) M post := by
  intro g B p l e s m args below meth c H locs ls C h1 h2 h3 h4
  have e9 : va_rf (rB B (M.2.2.2 o i.toNatClampNeg)) = sh B (.ref y) := by rw [hy]; rfl
  rcases ht with rfl | rfl
  · refine va_aldq C.1 C.2.1 C.2.2.2.2.2.2.2.2.1 h2 o 1 ((wsOf_get ho).trans (by rw [cellE_q hk (by decide)])) rfl hi hd ?_
    rw [e9]
    exact kk g B p l e s m args below meth c H locs ls C h1 h2 h3 h4
  · refine va_aldq C.1 C.2.1 C.2.2.2.2.2.2.2.2.1 h2 o 2 ((wsOf_get ho).trans (by rw [cellE_q hk (by decide)])) rfl hi hd ?_
    rw [e9]
    exact kk g B p l e s m args below meth c H locs ls C h1 h2 h3 h4
theorem ok_aaload2 {o n y : Nat} {i : Int32} (hd : decode D.2.1 pc = .ok (.aaload, 1)) (ho : o < M.1) (hk : M.2.1 o = (15, n)) (hi : vp_in i n) (hy : M.2.2.2 o i.toNatClampNeg = some y) (kk : Ok D q z (pc + 1) L (.ref y :: st) M post) : Ok D q z pc L (.int i :: .ref o :: st) M post := by
  intro g B p l e s m args below meth c H locs ls C h1 h2 h3 h4
  have e9 : va_rf (rB B (M.2.2.2 o i.toNatClampNeg)) = sh B (.ref y) := by rw [hy]; rfl
  have hlt : i.toNatClampNeg < n := Nat.not_le.mp fun q => hi (Or.inr q)
  have hc9 : H[B + o]? = some (vp_cell (g.2.1 15) (n, .inr (.inr (.inr (.inr (fun j => rB B (M.2.2.2 o j))))))) := h2 o (B + o, .inl (g.2.1 15, n, .inr (.inr (.inr (.inr (fun j => rB B (M.2.2.2 o j))))))) ((wsOf_get ho).trans (by rw [cellE_q hk (by decide)]))
  refine W.aald (v := va_rf (rB B (M.2.2.2 o i.toNatClampNeg))) (ty := .array .int) C.1 C.2.1 hc9 ((C.2.2.2.2.2.2.2.2.1.2 3 (g.2.1 15, .array .int) rfl).1 n (fun j => va_rf (rB B (M.2.2.2 o j)))) rfl (fun q => by cases q) (by show ¬ (i < 0 ∨ (arrV _ _ _).slots.size ≤ _); rw [arrV_size]; exact hi) (by show (arrV _ _ _).slots[_]? = _; rw [arrV_read _ _ hlt]) rfl rfl hd ?_
  show W p l e _ s m args below meth c H locs q.1 q.2 _ (F0 m (pc + 1) ls (va_rf (rB B (M.2.2.2 o i.toNatClampNeg)) :: st.map (sh B)))
  rw [e9]
  exact kk g B p l e s m args below meth c H locs ls C h1 h2 h3 h4
theorem ok_aastore {o n t ci N y : Nat} {r : vw_C} {i : Int32} (hd : decode D.2.1 pc = .ok (.aastore, 1)) (ho : o < M.1) (hk : M.2.1 o = (t, n)) (hr : (t = 13 ∧ r = (RX4, TX4, 3)) ∨ (t = 14 ∧ r = (RX6, TX6, 5))) (hi : vp_in i n) (hy : y < M.1) (hky : M.2.1 y = (ci, N)) (hc : cls[ci]? = some r) (hc2 : ci < 12) (kk : Ok D q z (pc + 1) L st (mR M o i.toNatClampNeg (some y)) post) : Ok D q z pc L (.ref y :: .int i :: .ref o :: st) M post := by
  intro g B p l e s m args below meth c H locs ls C h1 h2 h3 h4
  have ht : 12 < t := by rcases hr with ⟨rfl, -⟩ | ⟨rfl, -⟩ <;> decide
  obtain ⟨t0, ht0⟩ : ∃ t0, (tysOf g)[t0]? = some (g.2.1 t, FieldType.object r.1) := by
    rcases hr with ⟨rfl, rfl⟩ | ⟨rfl, rfl⟩
    · exact ⟨1, rfl⟩
    · exact ⟨2, rfl⟩
  refine va_astq (D := g.1) (cl := cls) (r := r) C.1 C.2.1 C.2.2.2.2.2.2.2.2.1 h2 (wsOf_D g B M) h3 o t0 y ci ((wsOf_get ho).trans (by rw [cellE_q hk ht])) ht0 ((wsOf_get hy).trans (by rw [cellE_o hky hc2])) hc hi hd (fun H1 locs1 hP hD hS => ?_)
  have hP : va_P g.1 cls ((wsOf g B M).set o (B + o, .inl (g.2.1 t, n, .inr (.inr (.inr (.inr (va_up (fun j => rB B (M.2.2.2 o j)) i.toNatClampNeg (rB B (some y))))))))) H1 := hP
  rw [ws_astR hk ht] at hP
  exact kk g B p l e s m args below meth c H1 locs1 ls C h1 hP hS h4
end OK1
end
section
/-! ===== calls ===== -/
theorem Hold.blind {g : Gd} {B : Nat} {M : Mem} {as : List Value} : FrameBlind (va_Pc as (Hold g B M)) := by
  intro a U gg mk hh
  obtain ⟨q0, qK, qS, qz, qP⟩ := hh
  refine ⟨q0, va_K.moved (u := U) (U := U.calling gg mk a) (Vm.Alike.refl U.vm) qK, ?_, qz, qP⟩
  obtain ⟨h1, h2, h3, h4, h5, h6, h7, h8, h9, h10⟩ := qS
  have hv : U.vm.Alike (U.calling gg mk a).vm := Vm.Alike.refl U.vm
  refine ⟨fun w hw hn => ?_, h2.moved hv, h3.moved hv, over_moved hv h4, h5.moved hv, h6.moved hv, h7.moved hv, h8.moved hv, h9.moved hv, h10.moved hv⟩
  have := h1 w hw hn
  cases w <;> first | exact va_Nw.same (u := U) rfl rfl this | (simp [isNest] at hn)
theorem ok_after {g : Gd} {B : Nat} {M : Mem} {post2 : Option Value → Mem → Prop} {p : Program} {l : Launch} {e : Env} {R : Room} {s : State} {m : MethodId} {args : Array Value} {below : List Frame} {meth : Method} {c : Code} {H : Heap} {locs : List Loc} {c1 c2 mc ms : Nat} {Q : State → Prop} {pc : Nat} {ls : Array Slot} {st0 rest : List Value} {a : Array Value}
    (hr : va_Run p l e R s m args below meth c H locs c1 c2 mc ms (F0 m pc ls st0) rest (Qx g B post2 a) (fun x => B ≤ x)) (hz : H.size = B + M.1) (hS : va_S (fun x => B ≤ x) s.heap H locs)
    (kk : ∀ (r : Option Value) (M' : Mem) (H1 : Heap) (locs1 : List Loc), post2 r M' → H1.size = B + M'.1 → va_P g.1 cls (wsOf g B M') H1 → va_S (fun x => B ≤ x) s.heap H1 locs1 → W p l e R s m args below meth c H1 locs1 (c1 + mc) (c2 + ms) Q (F0 m (pc + 3) ls ((r.map (sh B)).toList ++ rest))) : W p l e R s m args below meth c H locs c1 c2 Q (F0 m pc ls st0) := by
  intro T hT X
  obtain ⟨v, st₀, t, T', L, h0, X', hL, e1, e2, ⟨⟨r, M', hv, hp, hz1, hP1⟩, hF1, hF2⟩, st⟩ := hr T hT X
  cases hv
  rw [h0] at hF1 hF2
  obtain ⟨t2, a1, b1⟩ := kk r M' T'.heap (locs ++ L) hp (by rw [e1]; exact hz1) (by rw [e1]; exact hP1)
    ⟨Nat.le_trans hS.1 (by rw [e1]; exact hF1), fun x h1 h2 => by rw [e1, hF2 x (Nat.lt_of_lt_of_le h1 hS.1) h2]; exact hS.2.1 x h1 h2, fun x hx => by
      rcases List.mem_append.mp hx with h | h
      · exact hS.2.2 x h
      · exact hL x h⟩ T' rfl X'
  exact ⟨t2, st t2 a1, b1⟩
/-- a method that can be called: its code stands in the tables, its class is set up, its descriptor has n parameters -/
def Cd (D2 : Md) (n : Nat) : Prop := Cond.code D2.1 D2.2.1 D2.2.2.1 D2.2.2.2.1 ∈ lw_good ∧ Cond.initialized D2.1.cls ∈ lw_good ∧ (D2.1.cls ≠ "java/lang/invoke/MethodHandle" ∧ D2.1.cls ≠ "java/lang/invoke/VarHandle" ∧ (parseMethodDescriptor D2.1.desc).map (fun d => d.parameters.length) = some n)
/-- the room of a call -/
def Rm (D D2 : Md) : Prop := D2.2.2.2.2.1.frames + 1 ≤ D.2.2.2.2.1.frames ∧ 8 + (D2.2.2.1 + 11) + D2.2.2.2.2.1.locals ≤ D.2.2.2.2.1.locals
theorem Cd.goodIn {D2 : Md} {n : Nat} (h : Cd D2 n) : GoodIn lw_good (wsD D2) := fun w hw => by
  rcases List.mem_cons.mp hw with rfl | h1
  · exact lw_goodIn _ h.1
  · exact lw_goodIn _ h1
theorem Cd.callB {D D2 : Md} {n idx : Nat} {s : State} {args : Array Value} (h : Cd D2 n) (hts : ∀ w ∈ lw_good, w.before args s = true) (hl : Cond.methodLink D.2.2.2.2.2 idx D2.1 ∈ lw_good) (hR : Rm D D2) : CallB D.2.2.2.2.1 s args D.2.2.2.2.2 idx D2.1 D2.2.1 D2.2.2.1 D2.2.2.2.1 (wsD D2) D2.2.2.2.2.1 D2.2.2.2.2.1.cells D2.2.2.2.2.1.slots n :=
  callB_of (Ts := lw_good) n hts h.goodIn rfl rfl rfl (hts _ h.2.1) (hts _ hl) h.2.2 hR
/-- invokevirtual: class own's entry idx names D2's method, of n parameters, in class ci -/
def CV (own : String) (D2 : Md) (idx ci n : Nat) : Prop := Cd D2 n ∧ Cond.methodLink own idx D2.1 ∈ lw_good ∧ Cond.instanceMethod D2.1 ∈ lw_good ∧ Cond.selects D2.1.cls D2.1 D2.1 ∈ lw_good ∧ ∃ C T N, Cl ci C T N ∧ C = D2.1.cls
def CS (own : String) (D2 : Md) (idx n : Nat) : Prop := Cd D2 n ∧ Cond.methodLink own idx D2.1 ∈ lw_good ∧ Cond.static D2.1 ∈ lw_good
def CI (own : String) (D2 : Md) (idx n : Nat) : Prop := Cd D2 n ∧ Cond.methodLink own idx D2.1 ∈ lw_good ∧ Cond.instanceMethod D2.1 ∈ lw_good ∧ D2.1.name = "<init>" ∧ D2.2.2.2.1 = none
def CSN (own : String) (D2 : Md) (idx n : Nat) (host : String) : Prop := Cd D2 n ∧ Cond.methodLinkNest own idx D2.1 host ∈ lw_tbl ∧ Cond.static D2.1 ∈ lw_good
def CIN (own : String) (D2 : Md) (idx n : Nat) (host : String) : Prop := Cd D2 n ∧ Cond.methodLinkNest own idx D2.1 host ∈ lw_tbl ∧ Cond.instanceMethod D2.1 ∈ lw_good ∧ D2.1.name = "<init>" ∧ D2.2.2.2.1 = none
section OK2
variable {D D2 : Md} {q z : Nat × Nat} {pc : Nat} {L : List (Nat × Value)} {st : List Value} {M : Mem} {post post2 : Option Value → Mem → Prop}
theorem map_rev (B : Nat) (as : List Value) (x : Value) (st : List Value) : (as.reverse ++ x :: st).map (sh B) = (as.map (sh B)).reverse ++ sh B x :: st.map (sh B) := by simp
theorem map_rev0 (B : Nat) (as : List Value) (st : List Value) : (as.reverse ++ st).map (sh B) = (as.map (sh B)).reverse ++ st.map (sh B) := by simp
theorem cat_sum (B : Nat) (st : List Value) : ((st.map (sh B)).map fun v => v.category).sum = (st.map fun v => v.category).sum := by
  rw [List.map_map]
  congr 1
  exact List.map_congr_left fun v _ => sh_cat B v
theorem hold_at {g : Gd} {B : Nat} {p : Program} {s : State} {m : MethodId} {args : Array Value} {meth : Method} {c : Code} {H : Heap} {locs : List Loc} (C : Cx D g B p s m args meth c) (hz : H.size = B + M.1) (hP : va_P g.1 cls (wsOf g B M) H) (hS : va_S (fun x => B ≤ x) s.heap H locs) {as : List Value} : ∀ U : State, U.heap = H → s.WarmedH U.vm → va_Pc (as.map (sh B)) (Hold g B M) (as.map (sh B)).toArray U := fun U hU hW =>
  ⟨rfl, va_K.moved hW.alike C.2.2.2.2.2.2.2.2.1, Stc.now C hS hU hW, by rw [hU]; exact hz, by rw [hU]; exact hP⟩
theorem ok_callV {idx ci n N o : Nat} {as : List Value} (hd : decode D.2.1 pc = .ok (.invokevirtual idx, 3)) (hC : CV D.2.2.2.2.2 D2 idx ci n) (hn : as.length = n) (ho : o < M.1) (hk : M.2.1 o = (ci, N)) (hst : (st.map fun v => v.category).sum ≤ 8) (hR : Rm D D2) (hr : q.1 + D2.2.2.2.2.1.cells ≤ D.2.2.2.2.1.cells ∧ q.2 + D2.2.2.2.2.1.slots ≤ D.2.2.2.2.1.slots)
    (hc : Rn D2 (D2.2.2.2.2.1.cells, D2.2.2.2.2.1.slots) (.ref o :: as) M post2) (hcz : ∀ r M', post2 r M' → M'.1 = M.1 + D2.2.2.2.2.1.cells) (kk : ∀ r M', post2 r M' → Ok D (q.1 + D2.2.2.2.2.1.cells, q.2 + D2.2.2.2.2.1.slots) z (pc + 3) L (r.toList ++ st) M' post) : Ok D q z pc L (as.reverse ++ .ref o :: st) M post := by
  intro g B p l e s m args below meth c H locs ls C h1 h2 h3 h4
  refine W_sz h1 h2 (by omega) fun hz => ?_
  obtain ⟨hCd, hw1, hw2, hw3, Cn, T, Nc, hCl, hCn⟩ := hC
  have hts := C.2.2.2.2.2.1
  rw [map_rev]
  refine ok_after (M := M) (va_runV (own := D.2.2.2.2.2) (Ts := lw_good) (C := D2.1.cls) (g := F0 m pc ls ((as.map (sh B)).reverse ++ sh B (.ref o) :: st.map (sh B))) (As := as.map (sh B)) (b := B + o) ⟨C.1, C.2.1, C.2.2.2.1, C.2.2.2.2.1, hts⟩ (hc l g B) ⟨hCd.callB hts hw1 hR, hts _ hw2, hts _ hw3⟩ ⟨Hold.blind, ?_, hold_at (as := .ref o :: as) C hz h2 h3⟩ rfl (by rw [List.length_map]; exact hn) h4.1 rfl (lv_room (by rw [cat_sum]; exact hst)) hd hr) hz h3 (fun r M' H1 locs1 hp hz1 hP1 hS1 => ?_)
  · rw [← hCn]
    exact va_recv (q := (Cn, T, Nc)) C.2.2.2.2.2.2.2.2.1 h2 hCl.1 ((wsOf_get ho).trans (by rw [cellE_o hk hCl.2.1]))
  · have h9 := kk r M' hp g B p l e s m args below meth c H1 locs1 ls C (by show s.heap.size + (q.1 + _) = _; rw [hcz r M' hp]; omega) hP1 hS1 h4
    cases r with
    | none => exact h9
    | some v => exact h9
theorem ok_callS {idx n : Nat} {as : List Value} (hd : decode D.2.1 pc = .ok (.invokestatic idx, 3)) (hC : CS D.2.2.2.2.2 D2 idx n) (hn : as.length = n) (hM : 0 < M.1) (hst : (st.map fun v => v.category).sum ≤ 8) (hR : Rm D D2) (hr : q.1 + D2.2.2.2.2.1.cells ≤ D.2.2.2.2.1.cells ∧ q.2 + D2.2.2.2.2.1.slots ≤ D.2.2.2.2.1.slots)
    (hc : Rn D2 (D2.2.2.2.2.1.cells, D2.2.2.2.2.1.slots) as M post2) (hcz : ∀ r M', post2 r M' → M'.1 = M.1 + D2.2.2.2.2.1.cells) (kk : ∀ r M', post2 r M' → Ok D (q.1 + D2.2.2.2.2.1.cells, q.2 + D2.2.2.2.2.1.slots) z (pc + 3) L (r.toList ++ st) M' post) : Ok D q z pc L (as.reverse ++ st) M post := by
  intro g B p l e s m args below meth c H locs ls C h1 h2 h3 h4
  refine W_sz h1 h2 hM fun hz => ?_
  obtain ⟨hCd, hw1, hw2⟩ := hC
  have hts := C.2.2.2.2.2.1
  rw [map_rev0]
  refine ok_after (M := M) (va_runS (own := D.2.2.2.2.2) (Ts := lw_good) (g := F0 m pc ls ((as.map (sh B)).reverse ++ st.map (sh B))) (As := as.map (sh B)) ⟨C.1, C.2.1, C.2.2.2.1, C.2.2.2.2.1, hts⟩ (hc l g B) ⟨hCd.callB hts hw1 hR, hts _ hw2⟩ ⟨Hold.blind, hold_at C hz h2 h3⟩ rfl (by rw [List.length_map]; exact hn) h4.1 rfl (lv_room (by rw [cat_sum]; exact hst)) hd hr) hz h3 (fun r M' H1 locs1 hp hz1 hP1 hS1 => ?_)
  have h9 := kk r M' hp g B p l e s m args below meth c H1 locs1 ls C (by show s.heap.size + (q.1 + _) = _; rw [hcz r M' hp]; omega) hP1 hS1 h4
  cases r with
  | none => exact h9
  | some v => exact h9
theorem ok_callI {idx n o : Nat} {as : List Value} (hd : decode D.2.1 pc = .ok (.invokespecial idx, 3)) (hC : CI D.2.2.2.2.2 D2 idx n) (hn : as.length = n) (hM : 0 < M.1) (hst : (st.map fun v => v.category).sum ≤ 8) (hR : Rm D D2) (hr : q.1 + D2.2.2.2.2.1.cells ≤ D.2.2.2.2.1.cells ∧ q.2 + D2.2.2.2.2.1.slots ≤ D.2.2.2.2.1.slots)
    (hc : Rn D2 (D2.2.2.2.2.1.cells, D2.2.2.2.2.1.slots) (.ref o :: as) M post2) (hcz : ∀ r M', post2 r M' → M'.1 = M.1 + D2.2.2.2.2.1.cells) (kk : ∀ r M', post2 r M' → Ok D (q.1 + D2.2.2.2.2.1.cells, q.2 + D2.2.2.2.2.1.slots) z (pc + 3) L (r.toList ++ st) M' post) : Ok D q z pc L (as.reverse ++ .ref o :: st) M post := by
  intro g B p l e s m args below meth c H locs ls C h1 h2 h3 h4
  refine W_sz h1 h2 hM fun hz => ?_
  obtain ⟨hCd, hw1, hw2, hnm, hno⟩ := hC
  have hts := C.2.2.2.2.2.1
  have hcb := hCd.callB (idx := idx) hts hw1 hR
  rw [hno] at hcb
  rw [map_rev]
  refine ok_after (M := M) (va_runI (own := D.2.2.2.2.2) (Ts := lw_good) (g := F0 m pc ls ((as.map (sh B)).reverse ++ sh B (.ref o) :: st.map (sh B))) (As := as.map (sh B)) (b := B + o) ⟨C.1, C.2.1, C.2.2.2.1, C.2.2.2.2.1, hts⟩ (hc l g B) ⟨hcb, hnm, hts _ hw2⟩ ⟨Hold.blind, hold_at (as := .ref o :: as) C hz h2 h3⟩ rfl (by rw [List.length_map]; exact hn) h4.1 rfl (lv_room (by rw [cat_sum]; exact hst)) hd hr) hz h3 (fun r M' H1 locs1 hp hz1 hP1 hS1 => ?_)
  have h9 := kk r M' hp g B p l e s m args below meth c H1 locs1 ls C (by show s.heap.size + (q.1 + _) = _; rw [hcz r M' hp]; omega) hP1 hS1 h4
  cases r with
  | none => exact h9
  | some v => exact h9
theorem Cd.callN {D D2 : Md} {n idx : Nat} {host : String} {s : State} {args : Array Value} (h : Cd D2 n) (hts : ∀ w ∈ lw_good, w.before args s = true) (hN : va_Nw (.methodLinkNest D.2.2.2.2.2 idx D2.1 host) s) (hR : Rm D D2) : va_CN D.2.2.2.2.1 s args D.2.2.2.2.2 idx D2.1 host D2.2.1 D2.2.2.1 D2.2.2.2.1 (wsD D2) D2.2.2.2.2.1 D2.2.2.2.2.1.cells D2.2.2.2.2.1.slots n :=
  va_cnB (Ts := lw_good) n hts h.goodIn rfl rfl rfl hN (hts _ h.2.1) h.2.2 hR
theorem ok_callSN {idx n : Nat} {host : String} {as : List Value} (hd : decode D.2.1 pc = .ok (.invokestatic idx, 3)) (hC : CSN D.2.2.2.2.2 D2 idx n host) (hn : as.length = n) (hM : 0 < M.1) (hst : (st.map fun v => v.category).sum ≤ 8) (hR : Rm D D2) (hr : q.1 + D2.2.2.2.2.1.cells ≤ D.2.2.2.2.1.cells ∧ q.2 + D2.2.2.2.2.1.slots ≤ D.2.2.2.2.1.slots)
    (hc : Rn D2 (D2.2.2.2.2.1.cells, D2.2.2.2.2.1.slots) as M post2) (hcz : ∀ r M', post2 r M' → M'.1 = M.1 + D2.2.2.2.2.1.cells) (kk : ∀ r M', post2 r M' → Ok D (q.1 + D2.2.2.2.2.1.cells, q.2 + D2.2.2.2.2.1.slots) z (pc + 3) L (r.toList ++ st) M' post) : Ok D q z pc L (as.reverse ++ st) M post := by
  intro g B p l e s m args below meth c H locs ls C h1 h2 h3 h4
  refine W_sz h1 h2 hM fun hz => ?_
  obtain ⟨hCd, hw1, hw2⟩ := hC
  have hts := C.2.2.2.2.2.1
  have hN := C.2.2.2.2.2.2.2.2.2.1.1 _ hw1 rfl
  rw [map_rev0]
  refine ok_after (M := M) (va_runSN (own := D.2.2.2.2.2) (Ts := lw_good) (g := F0 m pc ls ((as.map (sh B)).reverse ++ st.map (sh B))) (As := as.map (sh B)) ⟨C.1, C.2.1, C.2.2.2.1, C.2.2.2.2.1, hts⟩ (hc l g B) ⟨hCd.callN hts hN hR, hts _ hw2, trivial⟩ ⟨Hold.blind, hold_at C hz h2 h3⟩ rfl (by rw [List.length_map]; exact hn) h4.1 rfl (lv_room (by rw [cat_sum]; exact hst)) hd hr) hz h3 (fun r M' H1 locs1 hp hz1 hP1 hS1 => ?_)
  have h9 := kk r M' hp g B p l e s m args below meth c H1 locs1 ls C (by show s.heap.size + (q.1 + _) = _; rw [hcz r M' hp]; omega) hP1 hS1 h4
  cases r with
  | none => exact h9
  | some v => exact h9
theorem ok_callIN {idx n o : Nat} {host : String} {as : List Value} (hd : decode D.2.1 pc = .ok (.invokespecial idx, 3)) (hC : CIN D.2.2.2.2.2 D2 idx n host) (hn : as.length = n) (hM : 0 < M.1) (hst : (st.map fun v => v.category).sum ≤ 8) (hR : Rm D D2) (hr : q.1 + D2.2.2.2.2.1.cells ≤ D.2.2.2.2.1.cells ∧ q.2 + D2.2.2.2.2.1.slots ≤ D.2.2.2.2.1.slots)
    (hc : Rn D2 (D2.2.2.2.2.1.cells, D2.2.2.2.2.1.slots) (.ref o :: as) M post2) (hcz : ∀ r M', post2 r M' → M'.1 = M.1 + D2.2.2.2.2.1.cells) (kk : ∀ r M', post2 r M' → Ok D (q.1 + D2.2.2.2.2.1.cells, q.2 + D2.2.2.2.2.1.slots) z (pc + 3) L (r.toList ++ st) M' post) : Ok D q z pc L (as.reverse ++ .ref o :: st) M post := by
  intro g B p l e s m args below meth c H locs ls C h1 h2 h3 h4
  refine W_sz h1 h2 hM fun hz => ?_
  obtain ⟨hCd, hw1, hw2, hnm, hno⟩ := hC
  have hts := C.2.2.2.2.2.1
  have hN := C.2.2.2.2.2.2.2.2.2.1.1 _ hw1 rfl
  have hcb := hCd.callN hts hN hR
  rw [hno] at hcb
  rw [map_rev]
  refine ok_after (M := M) (va_runIN (own := D.2.2.2.2.2) (Ts := lw_good) (g := F0 m pc ls ((as.map (sh B)).reverse ++ sh B (.ref o) :: st.map (sh B))) (As := as.map (sh B)) (b := B + o) ⟨C.1, C.2.1, C.2.2.2.1, C.2.2.2.2.1, hts⟩ (hc l g B) ⟨hcb, hnm, hts _ hw2⟩ ⟨Hold.blind, hold_at (as := .ref o :: as) C hz h2 h3⟩ rfl (by rw [List.length_map]; exact hn) h4.1 rfl (lv_room (by rw [cat_sum]; exact hst)) hd hr) hz h3 (fun r M' H1 locs1 hp hz1 hP1 hS1 => ?_)
  have h9 := kk r M' hp g B p l e s m args below meth c H1 locs1 ls C (by show s.heap.size + (q.1 + _) = _; rw [hcz r M' hp]; omega) hP1 hS1 h4
  cases r with
  | none => exact h9
  | some v => exact h9
end OK2
end
section
/-! ===== new cells, Math, arraycopy ===== -/
def mC (M : Mem) (o : Nat) (f : Nat → Int32) : Mem := (M.1, M.2.1, fun k j => if k = o then f j else M.2.2.1 k j, M.2.2.2)
theorem cellE_C {g : Gd} {B : Nat} {M : Mem} {o : Nat} {f : Nat → Int32} {a : Nat} (h : a ≠ o) : cellE g B (mC M o f) a = cellE g B M a := by
  have e1 : ∀ b, (mC M o f).2.2.1 a b = M.2.2.1 a b := fun b => if_neg h
  have e2 : (mC M o f).2.2.1 a = M.2.2.1 a := funext e1
  have e3 : slV B (mC M o f) (M.2.1 a).1 a = slV B M (M.2.1 a).1 a := funext fun b => by
    show (if refS (M.2.1 a).1 b = true then va_rf (rB B (M.2.2.2 a b)) else .int ((mC M o f).2.2.1 a b)) = _
    rw [e1]; rfl
  unfold cellE
  rw [show (mC M o f).2.1 = M.2.1 from rfl, e3, e2]
  rfl
theorem ws_cpy {g : Gd} {B : Nat} {M : Mem} {o N : Nat} {f : Nat → Int32} (hk : M.2.1 o = (12, N)) : (wsOf g B M).set o (B + o, .inl (g.2.1 12, N, .inl f)) = wsOf g B (mC M o f) := by
  refine wsOf_set rfl (fun a h => cellE_C h) ?_
  rw [cellE_i (M := mC M o f) (k := o) hk]
  congr 4
  funext b
  exact if_pos rfl
theorem cellE_new {g : Gd} {B : Nat} {M : Mem} {d : Kd} {a : Nat} (h : a < M.1) : cellE g B (mNew M d) a = cellE g B M a := by
  have hne : a ≠ M.1 := Nat.ne_of_lt h
  have e0 : (mNew M d).2.1 a = M.2.1 a := if_neg hne
  have e1 : ∀ b, (mNew M d).2.2.1 a b = M.2.2.1 a b := fun b => if_neg hne
  have e2 : (mNew M d).2.2.1 a = M.2.2.1 a := funext e1
  have e4 : ∀ b, (mNew M d).2.2.2 a b = M.2.2.2 a b := fun b => if_neg hne
  have e5 : (fun b => rB B ((mNew M d).2.2.2 a b)) = fun b => rB B (M.2.2.2 a b) := funext fun b => by rw [e4]
  have e3 : slV B (mNew M d) (M.2.1 a).1 a = slV B M (M.2.1 a).1 a := funext fun b => by
    show (if refS (M.2.1 a).1 b = true then va_rf (rB B ((mNew M d).2.2.2 a b)) else .int ((mNew M d).2.2.1 a b)) = _
    rw [e1, e4]; rfl
  unfold cellE
  rw [e0, e3, e2, e5]
theorem kd_new {M : Mem} {d : Kd} : (mNew M d).2.1 M.1 = d := if_pos rfl
section OK3
variable {D : Md} {q z : Nat × Nat} {pc : Nat} {L : List (Nat × Value)} {st : List Value} {M : Mem} {post : Option Value → Mem → Prop}
theorem ok_new {idx ci N : Nat} {Cn : String} {T : u_T} (hd : decode D.2.1 pc = .ok (.new idx, 3)) (hCl : Cl ci Cn T N) (w1 : Cond.classLink D.2.2.2.2.2 idx Cn ∈ lw_good) (w2 : Cond.instantiable Cn N ∈ lw_good) (w3 : Cond.initialized Cn ∈ lw_good) (hdf : ∀ j, j < N → defaultValue (tyOf ci j) = if refS ci j = true then .null else .int 0) (hr : q.1 + 1 ≤ D.2.2.2.2.1.cells ∧ q.2 + N ≤ D.2.2.2.2.1.slots)
    (kk : Ok D (q.1 + 1, q.2 + N) z (pc + 3) L (.ref M.1 :: st) (mNew M (ci, N)) post) : Ok D q z pc L st M post := by
  intro g B p l e s m args below meth c H locs ls C h1 h2 h3 h4
  obtain ⟨hc, hc2, hin, hty, hnm⟩ := hCl
  have hts := C.2.2.2.2.2.1
  refine va_new (D := g.1) (cl := cls) (ci := ci) (fs := (List.range N).map (slV B (mNew M (ci, N)) ci M.1)) C.1 C.2.1 hts hin (tyOf ci) hty C.2.2.2.2.1 (hts _ w1) (hts _ w2) (hts _ w3) C.2.2.2.2.2.2.2.2.1 h2 (wsOf_D g B M) h3 (fun x h => Nat.le_trans C.2.2.2.2.2.2.2.2.2.2 h) hc (fun j hj => ?_) hr.1 hr.2 hd (fun a0 H1 hP hD hS => ?_)
  · rw [hdf j hj]
    have e9 : vp_V ((List.range N).map (slV B (mNew M (ci, N)) ci M.1)) j = slV B (mNew M (ci, N)) ci M.1 j := by
      simp [vp_V, hj]
    rw [e9]
    unfold slV
    rw [show (mNew M (ci, N)).2.2.2 M.1 j = none from if_pos rfl, show (mNew M (ci, N)).2.2.1 M.1 j = 0 from if_pos rfl]
    rfl
  · refine W_nw (M := M) (by omega) hP hD fun ha => ?_
    subst ha
    rw [wsOf_push (M' := mNew M (ci, N)) rfl (fun a h => cellE_new h) (cellE_o kd_new hc2)] at hP
    exact kk g B p l e s m args below meth c H1 locs ls C (by show s.heap.size + (q.1 + 1) = B + (M.1 + 1); omega) hP hS h4
theorem ok_newa {n : Int32} {N : Nat} (hd : decode D.2.1 pc = .ok (.newarray .int, 2)) (hn : ¬ n < 0) (hN : n.toNatClampNeg = N) (hb : N * 4 ≤ 536870912) (w1 : Cond.arrayClass .int ∈ lw_good) (hr : q.1 + 1 ≤ D.2.2.2.2.1.cells ∧ q.2 + N ≤ D.2.2.2.2.1.slots)
    (kk : Ok D (q.1 + 1, q.2 + N) z (pc + 2) L (.ref M.1 :: st) (mNew M (12, N)) post) : Ok D q z pc L (.int n :: st) M post := by
  intro g B p l e s m args below meth c H locs ls C h1 h2 h3 h4
  refine va_newa (atype := .int) (ty := .int) (a0 := (N, .inl (fun _ => 0))) C.1 C.2.1 (C.2.2.2.2.2.1 _ w1) rfl C.2.2.2.2.2.2.2.2.1 h2 (wsOf_D g B M) h3 (fun x h => Nat.le_trans C.2.2.2.2.2.2.2.2.2.2 h) (fun _ => rfl) hn hN hb hr.1 hr.2 hd (fun a0 cA H1 hK hP hD hS => ?_)
  have hcA : cA = g.2.1 12 := by
    have e1 : s.vm.findClass ("[" ++ FieldType.int.toString) = some cA := (hK.2 4 (cA, .int) rfl).2
    have e2 : s.vm.findClass ("[" ++ FieldType.int.toString) = some (g.2.1 12) := (hK.2 0 (g.2.1 12, .int) rfl).2
    exact Option.some.inj (e1.symm.trans e2)
  subst hcA
  refine W_nw (M := M) (by omega) hP hD fun ha => ?_
  subst ha
  rw [wsOf_push (M' := mNew M (12, N)) rfl (fun a h => cellE_new h) ((cellE_i kd_new).trans (by
    congr 4
    funext b
    exact if_pos rfl))] at hP
  exact kk g B p l e s m args below meth c H1 locs ls C (by show s.heap.size + (q.1 + 1) = B + (M.1 + 1); omega) hP hS h4
theorem ok_newq {n : Int32} {N idx t : Nat} {Cn : String} (hd : decode D.2.1 pc = .ok (.anewarray idx, 3)) (ht : (t = 13 ∧ Cn = RX4) ∨ (t = 14 ∧ Cn = RX6)) (hn : ¬ n < 0) (hN : n.toNatClampNeg = N) (hb : N * 4 ≤ 536870912) (w1 : Cond.classLink D.2.2.2.2.2 idx Cn ∈ lw_good) (hr : q.1 + 1 ≤ D.2.2.2.2.1.cells ∧ q.2 + N ≤ D.2.2.2.2.1.slots)
    (kk : Ok D (q.1 + 1, q.2 + N) z (pc + 3) L (.ref M.1 :: st) (mNew M (t, N)) post) : Ok D q z pc L (.int n :: st) M post := by
  intro g B p l e s m args below meth c H locs ls C h1 h2 h3 h4
  have hAO : va_AO Cn s := by
    rcases ht with ⟨-, rfl⟩ | ⟨-, rfl⟩
    · exact C.2.2.2.2.2.2.2.2.2.1.2.1
    · exact C.2.2.2.2.2.2.2.2.2.1.2.2.1
  refine va_newq C.1 C.2.1 C.2.2.2.2.1 (C.2.2.2.2.2.1 _ w1) hAO C.2.2.2.2.2.2.2.2.1 h2 (wsOf_D g B M) h3 (fun x h => Nat.le_trans C.2.2.2.2.2.2.2.2.2.2 h) hn hN hb hr.1 hr.2 hd (fun a0 cA H1 hK hP hD hS => ?_)
  have hcA : cA = g.2.1 t := by
    obtain ⟨_, _, _, _, _, e1⟩ : va_RA s cA (.object Cn) := (hK.2 4 (cA, .object Cn) rfl).2
    rcases ht with ⟨rfl, rfl⟩ | ⟨rfl, rfl⟩
    · obtain ⟨_, _, _, _, _, e2⟩ : va_RA s (g.2.1 13) (.object RX4) := (hK.2 1 (g.2.1 13, .object RX4) rfl).2
      exact Option.some.inj (e1.symm.trans e2)
    · obtain ⟨_, _, _, _, _, e2⟩ : va_RA s (g.2.1 14) (.object RX6) := (hK.2 2 (g.2.1 14, .object RX6) rfl).2
      exact Option.some.inj (e1.symm.trans e2)
  subst hcA
  have ht2 : 12 < t := by rcases ht with ⟨rfl, -⟩ | ⟨rfl, -⟩ <;> decide
  refine W_nw (M := M) (by omega) hP hD fun ha => ?_
  subst ha
  rw [wsOf_push (M' := mNew M (t, N)) rfl (fun a h => cellE_new h) ((cellE_q kd_new ht2).trans (by
    congr 7
    funext b
    rw [show (mNew M (t, N)).2.2.2 M.1 b = none from if_pos rfl]
    rfl))] at hP
  exact kk g B p l e s m args below meth c H1 locs ls C (by show s.heap.size + (q.1 + 1) = B + (M.1 + 1); omega) hP hS h4
/-- n rows of K ints behind their outer array -/
def mGrid (M : Mem) (N K : Nat) : Mem := (M.1 + 1 + N, fun k => if k < M.1 then M.2.1 k else if k = M.1 then (15, N) else (12, K), fun k j => if k < M.1 then M.2.2.1 k j else 0, fun k j => if k < M.1 then M.2.2.2 k j else if k = M.1 ∧ j < N then some (M.1 + 1 + j) else none)
theorem gr_outer (c : ClassId) (N h0 : Nat) : ∀ i : Nat, Jvm.Free.Multi.outerC c N h0 i = arrV c N (fun j => va_rf (if j < i then some (h0 + 1 + j) else none))
  | 0 => by
    show ({ cls := c, slots := Array.replicate N .null, vm := .none } : Cell) = _
    rw [arrV_new]
    refine congrArg (arrV c N) (funext fun j => ?_)
    simp [va_rf]
  | i + 1 => by
    show (Jvm.Free.Multi.outerC c N h0 i).setSlot i (.ref (h0 + 1 + i)) = _
    rw [gr_outer c N h0 i, arrV_store]
    refine congrArg (arrV c N) (funext fun j => ?_)
    by_cases e : j = i
    · subst e
      simp [updV, va_rf]
    · by_cases h : j < i
      · simp [updV, e, h, Nat.lt_succ_of_lt h]
      · simp [updV, e, h, show ¬ j < i + 1 by omega]
theorem ok_grid {n k : Int32} {N K idx : Nat} (hd : decode D.2.1 pc = .ok (.multianewarray idx 2, 4)) (hn : ¬ n < 0) (hk : ¬ k < 0) (hN : n.toNatClampNeg = N) (hK : k.toNatClampNeg = K) (hb1 : N * 4 ≤ 536870912) (hb2 : K * 4 ≤ 536870912) (hb3 : K ≤ 536870912) (hM : 0 < M.1) (w1 : Cond.classLink D.2.2.2.2.2 idx ("[" ++ (FieldType.array .int).toString) ∈ lw_good) (w2 : Cond.arrayClass .int ∈ lw_good) (hr : q.1 + (1 + N) ≤ D.2.2.2.2.1.cells ∧ q.2 + (N + N * K) ≤ D.2.2.2.2.1.slots)
    (kk : Ok D (q.1 + 1 + N, q.2 + N + N * K) z (pc + 4) L (.ref M.1 :: st) (mGrid M N K) post) : Ok D q z pc L (.int k :: .int n :: st) M post := by
  intro g B p l e s m args below meth c H locs ls C h1 h2 h3 h4
  subst hN
  subst hK
  refine W_sz h1 h2 hM fun hz => ?_
  intro T hT X
  obtain ⟨vm₁, cA, comp, -, fA, fC, -, -, X', step⟩ := X.multianewarray2F C.1 C.2.2.2.2.1 (C.2.2.2.2.2.1 _ w1) (over_moved (Vm.Alike.refl s.vm) C.2.2.2.2.2.2.2.2.2.1.2.2.2.1) (C.2.2.2.2.2.1 _ w2) (g := F0 m pc ls (.int k :: .int n :: st.map (sh B))) rfl (by rw [C.2.1]; exact hd) rfl hn hk hb1 hb2 hb3 rfl rfl hr.1 hr.2
  have hcA : cA = g.2.1 15 := by
    have e2 : s.vm.findClass ("[" ++ (FieldType.array .int).toString) = some (g.2.1 15) := (C.2.2.2.2.2.2.2.2.1.2 3 (g.2.1 15, .array .int) rfl).2
    exact Option.some.inj (fA.symm.trans e2)
  have hcC : comp = g.2.1 12 := by
    have e2 : s.vm.findClass ("[" ++ FieldType.int.toString) = some (g.2.1 12) := (C.2.2.2.2.2.2.2.2.1.2 0 (g.2.1 12, .int) rfl).2
    have e3 : s.vm.findClass ("[" ++ FieldType.int.toString) = some comp := fC
    exact Option.some.inj (e3.symm.trans e2)
  subst hcA
  subst hcC
  generalize hF : Jvm.Free.Multi.fill (T.setVm vm₁) (g.2.1 15) (g.2.1 12) n.toNatClampNeg k.toNatClampNeg (defaultValue .int) n.toNatClampNeg = F at X' step
  have hTh : (T.setVm vm₁).heap = H := hT
  obtain ⟨f1, f2, -, -⟩ := Jvm.Free.Multi.fill_facts (T.setVm vm₁) (g.2.1 15) (g.2.1 12) n.toNatClampNeg k.toNatClampNeg (defaultValue .int) n.toNatClampNeg
  rw [hF, hTh] at f1 f2
  have hold : ∀ x : Nat, x < H.size → F.heap[x]? = H[x]? := fun x hx => by
    have := Jvm.Free.Multi.fill_old (T.setVm vm₁) (g.2.1 15) (g.2.1 12) n.toNatClampNeg k.toNatClampNeg (defaultValue .int) (a := x) (by rw [hTh]; exact hx) n.toNatClampNeg
    rw [hF, hTh] at this
    exact this
  have hrow : ∀ j : Nat, j < n.toNatClampNeg → F.heap[H.size + 1 + j]? = some (arrV (g.2.1 12) k.toNatClampNeg (fun _ => .int 0)) := fun j hj => by
    have := Jvm.Free.Multi.fill_inner (T.setVm vm₁) (g.2.1 15) (g.2.1 12) n.toNatClampNeg k.toNatClampNeg (defaultValue .int) n.toNatClampNeg j hj
    rw [hF, hTh] at this
    rw [this]
    congr 1
    exact arrV_new _ _ _
  rw [gr_outer] at f2
  have hP : va_P g.1 cls (wsOf g B (mGrid M n.toNatClampNeg k.toNatClampNeg)) F.heap := by
    intro a x hx
    obtain ⟨ha, rfl⟩ := wsOf_got hx
    have ha : a < M.1 + 1 + n.toNatClampNeg := ha
    by_cases hl : a < M.1
    · have e0 : cellE g B (mGrid M n.toNatClampNeg k.toNatClampNeg) a = cellE g B M a := by
        have e1 : (mGrid M n.toNatClampNeg k.toNatClampNeg).2.1 a = M.2.1 a := if_pos hl
        have e2 : ∀ b, (mGrid M n.toNatClampNeg k.toNatClampNeg).2.2.1 a b = M.2.2.1 a b := fun b => if_pos hl
        have e3 : (mGrid M n.toNatClampNeg k.toNatClampNeg).2.2.1 a = M.2.2.1 a := funext e2
        have e4 : ∀ b, (mGrid M n.toNatClampNeg k.toNatClampNeg).2.2.2 a b = M.2.2.2 a b := fun b => if_pos hl
        have e5 : (fun b => rB B ((mGrid M n.toNatClampNeg k.toNatClampNeg).2.2.2 a b)) = fun b => rB B (M.2.2.2 a b) := funext fun b => by rw [e4]
        have e6 : slV B (mGrid M n.toNatClampNeg k.toNatClampNeg) (M.2.1 a).1 a = slV B M (M.2.1 a).1 a := funext fun b => by
          show (if refS (M.2.1 a).1 b = true then va_rf (rB B ((mGrid M n.toNatClampNeg k.toNatClampNeg).2.2.2 a b)) else .int ((mGrid M n.toNatClampNeg k.toNatClampNeg).2.2.1 a b)) = _
          rw [e2, e4]; rfl
        unfold cellE
        rw [e1, e6, e3, e5]
      rw [e0]
      exact (h2 a _ (wsOf_get hl)).kept (hold _ (by show B + a < H.size; omega))
    · by_cases he : a = M.1
      · subst he
        have e1 : (mGrid M n.toNatClampNeg k.toNatClampNeg).2.1 M.1 = (15, n.toNatClampNeg) := by simp [mGrid]
        rw [cellE_q e1 (by decide)]
        show F.heap[B + M.1]? = some (vp_cell _ _)
        rw [← hz, f2, vp_cell_q]
        congr 2
        funext j
        congr 1
        simp only [mGrid, rB]
        by_cases hj : j < n.toNatClampNeg
        · simp [hj, hz]; omega
        · simp [hj]
      · obtain ⟨i, hi, rfl⟩ : ∃ i, i < n.toNatClampNeg ∧ a = M.1 + 1 + i := ⟨a - M.1 - 1, by omega, by omega⟩
        have e1 : (mGrid M n.toNatClampNeg k.toNatClampNeg).2.1 (M.1 + 1 + i) = (12, k.toNatClampNeg) := by
          simp only [mGrid]
          rw [if_neg (by omega), if_neg (by omega)]
        rw [cellE_i e1]
        show F.heap[B + (M.1 + 1 + i)]? = some (vp_cell _ _)
        rw [show B + (M.1 + 1 + i) = H.size + 1 + i by omega, hrow i hi, vp_cell_i]
        congr 2
        funext j
        congr 1
        exact (if_neg (by omega)).symm
  obtain ⟨t, a1, b1⟩ := kk g B p l e s m args below meth c F.heap locs ls C (by show s.heap.size + (q.1 + 1 + n.toNatClampNeg) = B + (M.1 + 1 + n.toNatClampNeg); omega) hP ⟨by rw [f1]; have := h3.1; omega, fun x hx1 hx2 => (hold x (Nat.lt_of_lt_of_le hx1 h3.1)).trans (h3.2.1 x hx1 hx2), h3.2.2⟩ h4 F rfl X'
  refine ⟨t, step t ?_, b1⟩
  have e9 : T.heap.size = B + M.1 := by rw [hT]; exact hz
  rw [e9]
  exact a1
/-- a static function of Math that class own's entry idx names -/
def Mt (own : String) (idx : Nat) (y : MethodName) (cc : ByteArray) (n : Nat) : Prop := Cond.methodLink own idx y ∈ lw_good ∧ Cond.static y ∈ lw_good ∧ Cond.initialized "java/lang/Math" ∈ lw_good ∧ Cond.code y cc n (some .int) ∈ lw_good
theorem ok_max {idx : Nat} {x y : Int32} (hd : decode D.2.1 pc = .ok (.invokestatic idx, 3)) (hw : Mt D.2.2.2.2.2 idx Lib.Math.max.name Lib.Math.max.code 2) (hr : 1 ≤ D.2.2.2.2.1.frames ∧ (st.map fun v => v.category).sum + 13 ≤ D.2.2.2.2.1.locals ∧ q.1 ≤ D.2.2.2.2.1.cells ∧ q.2 ≤ D.2.2.2.2.1.slots) (kk : Ok D q z (pc + 3) L (.int (if x < y then y else x) :: st) M post) : Ok D q z pc L (.int y :: .int x :: st) M post :=
  fun g B p l e s m args below meth c H locs ls C h1 h2 h3 h4 => va_mmax C.1 C.2.1 (C.2.2.2.1.trans h4.1.symm) C.2.2.2.2.1 (C.2.2.2.2.2.1 _ hw.1) (C.2.2.2.2.2.1 _ hw.2.1) (C.2.2.2.2.2.1 _ hw.2.2.1) (C.2.2.2.2.2.1 _ hw.2.2.2) hr.1 (by rw [cat_sum]; exact hr.2.1) hr.2.2.1 hr.2.2.2 hd (kk g B p l e s m args below meth c H locs ls C h1 h2 h3 h4)
theorem ok_min {idx : Nat} {x y : Int32} (hd : decode D.2.1 pc = .ok (.invokestatic idx, 3)) (hw : Mt D.2.2.2.2.2 idx Lib.Math.min.name Lib.Math.min.code 2) (hr : 1 ≤ D.2.2.2.2.1.frames ∧ (st.map fun v => v.category).sum + 13 ≤ D.2.2.2.2.1.locals ∧ q.1 ≤ D.2.2.2.2.1.cells ∧ q.2 ≤ D.2.2.2.2.1.slots) (kk : Ok D q z (pc + 3) L (.int (if y < x then y else x) :: st) M post) : Ok D q z pc L (.int y :: .int x :: st) M post :=
  fun g B p l e s m args below meth c H locs ls C h1 h2 h3 h4 => va_mmin C.1 C.2.1 (C.2.2.2.1.trans h4.1.symm) C.2.2.2.2.1 (C.2.2.2.2.2.1 _ hw.1) (C.2.2.2.2.2.1 _ hw.2.1) (C.2.2.2.2.2.1 _ hw.2.2.1) (C.2.2.2.2.2.1 _ hw.2.2.2) hr.1 (by rw [cat_sum]; exact hr.2.1) hr.2.2.1 hr.2.2.2 hd (kk g B p l e s m args below meth c H locs ls C h1 h2 h3 h4)
theorem ok_abs {idx : Nat} {x : Int32} (hd : decode D.2.1 pc = .ok (.invokestatic idx, 3)) (hw : Mt D.2.2.2.2.2 idx Lib.Math.abs.name Lib.Math.abs.code 1) (hr : 1 ≤ D.2.2.2.2.1.frames ∧ (st.map fun v => v.category).sum + 13 ≤ D.2.2.2.2.1.locals ∧ q.1 ≤ D.2.2.2.2.1.cells ∧ q.2 ≤ D.2.2.2.2.1.slots) (kk : Ok D q z (pc + 3) L (.int (if 0 ≤ x then x else 0 - x) :: st) M post) : Ok D q z pc L (.int x :: st) M post :=
  fun g B p l e s m args below meth c H locs ls C h1 h2 h3 h4 => va_mabs C.1 C.2.1 (C.2.2.2.1.trans h4.1.symm) C.2.2.2.2.1 (C.2.2.2.2.2.1 _ hw.1) (C.2.2.2.2.2.1 _ hw.2.1) (C.2.2.2.2.2.1 _ hw.2.2.1) (C.2.2.2.2.2.1 _ hw.2.2.2) hr.1 (by rw [cat_sum]; exact hr.2.1) hr.2.2.1 hr.2.2.2 hd (kk g B p l e s m args below meth c H locs ls C h1 h2 h3 h4)
theorem ok_objInit {idx o : Nat} (hd : decode D.2.1 pc = .ok (.invokespecial idx, 3)) (w1 : Cond.methodLink D.2.2.2.2.2 idx objectInit ∈ lw_good) (w2 : Cond.instanceMethod objectInit ∈ lw_good) (w3 : Cond.code objectInit ⟨#[0xb1]⟩ 1 none ∈ lw_good) (hr : 1 ≤ D.2.2.2.2.1.frames ∧ (st.map fun v => v.category).sum + 12 ≤ D.2.2.2.2.1.locals) (kk : Ok D q z (pc + 3) L st M post) : Ok D q z pc L (.ref o :: st) M post :=
  fun g B p l e s m args below meth c H locs ls C h1 h2 h3 h4 => W.objInit (g := F0 m pc ls (.ref (B + o) :: st.map (sh B))) (rest := st.map (sh B)) C.1 C.2.1 C.2.2.2.2.1 (C.2.2.2.2.2.1 _ w1) (C.2.2.2.2.2.1 _ w2) (C.2.2.2.2.2.1 _ w3) rfl (h4.1.trans C.2.2.2.1.symm) rfl hd hr.1 (by rw [cat_sum]; simpa [JFrame.monitorRoom] using hr.2) (kk g B p l e s m args below meth c H locs ls C h1 h2 h3 h4)
theorem ok_copy {idx o1 o2 n1 n2 : Nat} {sp dp n : Int32} (hd : decode D.2.1 pc = .ok (.invokestatic idx, 3)) (w1 : Cond.methodLink D.2.2.2.2.2 idx arraycopyName ∈ lw_good) (w2 : Cond.native arraycopyName ∈ lw_good) (w3 : Cond.static arraycopyName ∈ lw_good) (w4 : Cond.initialized "java/lang/System" ∈ lw_good) (ho1 : o1 < M.1) (hk1 : M.2.1 o1 = (12, n1)) (ho2 : o2 < M.1) (hk2 : M.2.1 o2 = (12, n2)) (g1 : ¬ sp < 0) (g2 : ¬ dp < 0) (g3 : ¬ n < 0) (g4 : sp.toNatClampNeg + n.toNatClampNeg ≤ n1) (g5 : dp.toNatClampNeg + n.toNatClampNeg ≤ n2) (hr : 1 ≤ D.2.2.2.2.1.frames ∧ (st.map fun v => v.category).sum + (nativeFrameWords "java/lang/System" "arraycopy" 5 + 11) ≤ D.2.2.2.2.1.locals)
    (kk : Ok D q z (pc + 3) L st (mC M o2 (va_cpy (M.2.2.1 o1) (M.2.2.1 o2) sp.toNatClampNeg dp.toNatClampNeg n.toNatClampNeg)) post) : Ok D q z pc L (.int n :: .int dp :: .ref o2 :: .int sp :: .ref o1 :: st) M post := by
  intro g B p l e s m args below meth c H locs ls C h1 h2 h3 h4
  refine va_copyi (ty := .int) C.1 C.2.1 (C.2.2.2.1.trans h4.1.symm) C.2.2.2.2.1 (C.2.2.2.2.2.1 _ w1) (C.2.2.2.2.2.1 _ w2) (C.2.2.2.2.2.1 _ w3) (C.2.2.2.2.2.1 _ w4) C.2.2.2.2.2.2.2.2.1 h2 (wsOf_D g B M) h3 o1 o2 0 0 ((wsOf_get ho1).trans (by rw [cellE_i hk1])) ((wsOf_get ho2).trans (by rw [cellE_i hk2])) rfl rfl rfl g1 g2 g3 g4 g5 (fun _ _ => rfl) hr.1 (by rw [cat_sum]; exact hr.2) hd (fun H1 locs1 hP hD hS => ?_)
  rw [ws_cpy hk2] at hP
  exact kk g B p l e s m args below meth c H1 locs1 ls C h1 hP hS h4
end OK3
end
section
/-! ===== the cells as they stand once all is made: their kinds and references, which nobody changes but in the array of what is to be undone ===== -/
def kdL : List Kd := [(10, 9), (6, 5), (12, 4), (12, 40), (12, 40), (2, 4), (8, 8), (12, 12), (15, 8), (12, 12), (12, 12), (12, 12), (12, 12), (12, 12), (12, 12), (12, 12), (12, 12), (15, 8), (12, 12), (12, 12), (12, 12), (12, 12), (12, 12), (12, 12), (12, 12), (12, 12), (5, 3), (15, 8), (12, 12), (12, 12), (12, 12), (12, 12), (12, 12), (12, 12), (12, 12), (12, 12), (12, 8), (15, 12), (12, 4), (12, 4), (12, 4), (12, 4), (12, 4), (12, 4), (12, 4), (12, 4), (12, 4), (12, 4), (12, 4), (12, 4), (3, 2), (15, 9), (12, 144), (12, 144), (12, 144), (12, 144), (12, 144), (12, 144), (12, 144), (12, 144), (12, 144), (7, 3), (12, 144), (15, 4), (12, 48), (12, 48), (12, 48), (12, 48), (9, 6), (12, 60), (12, 20), (12, 20), (1, 2), (14, 16), (6, 5), (12, 4), (12, 40), (12, 40), (6, 5), (12, 4), (12, 40), (12, 40), (6, 5), (12, 4), (12, 40), (12, 40), (6, 5), (12, 4), (12, 40), (12, 40), (6, 5), (12, 4), (12, 40), (12, 40), (6, 5), (12, 4), (12, 40), (12, 40), (6, 5), (12, 4), (12, 40), (12, 40), (6, 5), (12, 4), (12, 40), (12, 40), (6, 5), (12, 4), (12, 40), (12, 40), (6, 5), (12, 4), (12, 40), (12, 40), (6, 5), (12, 4), (12, 40), (12, 40), (6, 5), (12, 4), (12, 40), (12, 40), (6, 5), (12, 4), (12, 40), (12, 40), (6, 5), (12, 4), (12, 40), (12, 40), (6, 5), (12, 4), (12, 40), (12, 40), (6, 5), (12, 4), (12, 40), (12, 40), (0, 4), (12, 20), (12, 20), (12, 20), (13, 2), (4, 3), (6, 5), (12, 4), (12, 40), (12, 40), (4, 3), (6, 5), (12, 4), (12, 40), (12, 40), (11, 24), (12, 1634), (12, 2), (12, 60), (12, 20), (12, 20), (12, 20), (12, 52), (12, 12), (12, 160), (12, 160), (12, 160), (12, 160), (12, 160), (12, 40), (12, 40)]
def KD (k : Nat) : Kd := kdL.getD k (0, 0)
def rfL : List (List (Option Nat)) := [[some 1, some 5, some 68, some 72, some 138, some 142], [some 2, some 3, some 4], [], [], [], [some 6, some 26, some 50, some 61], [some 7, some 8, some 17], [], [some 9, some 10, some 11, some 12, some 13, some 14, some 15, some 16], [], [], [], [], [], [], [], [], [some 18, some 19, some 20, some 21, some 22, some 23, some 24, some 25], [], [], [], [], [], [], [], [], [some 27, some 36, some 37], [some 28, some 29, some 30, some 31, some 32, some 33, some 34, some 35], [], [], [], [], [], [], [], [], [], [some 38, some 39, some 40, some 41, some 42, some 43, some 44, some 45, some 46, some 47, some 48, some 49], [], [], [], [], [], [], [], [], [], [], [], [], [some 51], [some 52, some 53, some 54, some 55, some 56, some 57, some 58, some 59, some 60], [], [], [], [], [], [], [], [], [], [some 62, some 63], [], [some 64, some 65, some 66, some 67], [], [], [], [], [some 69, some 70, some 71], [], [], [], [some 73], [], [some 75, some 76, some 77], [], [], [], [some 79, some 80, some 81], [], [], [], [some 83, some 84, some 85], [], [], [], [some 87, some 88, some 89], [], [], [], [some 91, some 92, some 93], [], [], [], [some 95, some 96, some 97], [], [], [], [some 99, some 100, some 101], [], [], [], [some 103, some 104, some 105], [], [], [], [some 107, some 108, some 109], [], [], [], [some 111, some 112, some 113], [], [], [], [some 115, some 116, some 117], [], [], [], [some 119, some 120, some 121], [], [], [], [some 123, some 124, some 125], [], [], [], [some 127, some 128, some 129], [], [], [], [some 131, some 132, some 133], [], [], [], [some 135, some 136, some 137], [], [], [], [some 139, some 140, some 141], [], [], [], [some 143, some 148], [some 144], [some 145, some 146, some 147], [], [], [], [some 149], [some 150, some 151, some 152], [], [], [], [some 154, none, none, none, some 155, some 156, none, none, some 157, some 158, some 159, none, some 160, some 161, some 162, some 163, some 164, some 165, some 166, none, none, some 167, some 168], [], [], [], [], [], [], [], [], [], [], [], [], [], [], []]
def RF (k j : Nat) : Option Nat := (rfL.getD k []).getD j none
/-- the whole numbers, and which News the array of what is to be undone holds at each place -/
abbrev Mm : Type := (Nat → Nat → Int32) × (Nat → Nat)
def RFP (P : Nat → Nat) (k j : Nat) : Option Nat := if k = 73 then (if j < 16 then some (P j) else none) else RF k j
def St (S : Mm) : Mem := (169, KD, S.1, RFP S.2)
def wr (S : Mm) (k j : Nat) (v : Int32) : Mm := (u2 S.1 k j v, S.2)
def wp (S : Mm) (j y : Nat) : Mm := (S.1, fun i => if i = j then y else S.2 i)
def NW (o : Nat) : Bool := decide (o ∈ [1, 74, 78, 82, 86, 90, 94, 98, 102, 106, 110, 114, 118, 122, 126, 130, 134, 144, 149])
abbrev inb (i : Int32) (n : Nat) : Prop := ¬ (i < 0 ∨ n ≤ i.toNatClampNeg)
theorem inb_lt {i : Int32} {n : Nat} (h : inb i n) : i.toNatClampNeg < n := Nat.not_le.mp fun q => h (Or.inr q)
theorem it_pos {c : Prop} [Decidable c] {α : Type} {a b x : α} (hc : c) (h : (if c then a else b) = x) : a = x := by rw [if_pos hc] at h; exact h
theorem it_neg {c : Prop} [Decidable c] {α : Type} {a b x : α} (hc : ¬ c) (h : (if c then a else b) = x) : b = x := by rw [if_neg hc] at h; exact h
theorem it_some {c : Prop} [Decidable c] {α : Type} {a : Option α} {x : α} (h : (if c then a else none) = some x) : c ∧ a = some x := by
  by_cases hc : c
  · rw [if_pos hc] at h; exact ⟨hc, h⟩
  · rw [if_neg hc] at h; cases h
theorem it_bind {α β : Type} {o : Option α} {f : α → Option β} {x : β} (h : o.bind f = some x) : ∃ a, o = some a ∧ f a = some x := Option.bind_eq_some_iff.mp h
/-- a whole number's place; a reference's; an array; an array of rows -/
def PI (o ci j : Nat) : Prop := o < 169 ∧ refS ci j = false ∧ ∃ n, KD o = (ci, n) ∧ j < n
def PR (o ci j t : Nat) : Prop := o < 169 ∧ refS ci j = true ∧ (∃ n, KD o = (ci, n) ∧ j < n) ∧ o ≠ 73 ∧ RF o j = some t
def PA (o n : Nat) : Prop := o < 169 ∧ KD o = (12, n)
def PG (o n t : Nat) : Prop := o < 169 ∧ KD o = (15, n) ∧ o ≠ 73 ∧ ∀ i, i < n → RF o i = some (t + i)
def PO (o ci : Nat) : Prop := o < 169 ∧ ∃ n, KD o = (ci, n)

section OKS
variable {D D2 : Md} {z : Nat × Nat} {pc : Nat} {L : List (Nat × Value)} {st : List Value} {S S' : Mm} {post : Option Value → Mem → Prop}
theorem okS_getI {o idx ci j : Nat} {f : Bool} (hd : decode D.2.1 pc = .ok (.getfield idx, 3)) (hf : Fl D.2.2.2.2.2 idx ci j f) (hp : PI o ci j) (kk : Ok D (0, 0) z (pc + 3) L (.int (S.1 o j) :: st) (St S) post) : Ok D (0, 0) z pc L (.ref o :: st) (St S) post := by
  obtain ⟨h1, h2, n, h3, h4⟩ := hp
  exact ok_getI hd hf h1 h3 h4 h2 kk
theorem okS_getR {o idx ci j t : Nat} {f : Bool} (hd : decode D.2.1 pc = .ok (.getfield idx, 3)) (hf : Fl D.2.2.2.2.2 idx ci j f) (hp : PR o ci j t) (kk : Ok D (0, 0) z (pc + 3) L (.ref t :: st) (St S) post) : Ok D (0, 0) z pc L (.ref o :: st) (St S) post := by
  obtain ⟨h1, h2, ⟨n, h3, h4⟩, h5, h6⟩ := hp
  exact ok_getR hd hf h1 h3 h4 h2 (show RFP S.2 o j = some t by unfold RFP; rw [if_neg h5]; exact h6) kk
theorem okS_putI {o idx ci j : Nat} {v : Int32} (hd : decode D.2.1 pc = .ok (.putfield idx, 3)) (hf : Fl D.2.2.2.2.2 idx ci j false) (hp : PI o ci j) (hn : narrow (tyOf ci j) (.int v) = .int v ∧ fits (tyOf ci j) (.int v) = true) (kk : Ok D (0, 0) z (pc + 3) L st (St (wr S o j v)) post) : Ok D (0, 0) z pc L (.int v :: .ref o :: st) (St S) post := by
  obtain ⟨h1, h2, n, h3, h4⟩ := hp
  exact ok_putI hd hf h1 h3 h4 h2 hn.1 hn.2 kk
theorem okS_iaload {o n : Nat} {i : Int32} (hd : decode D.2.1 pc = .ok (.iaload, 1)) (hp : PA o n) (hi : inb i n) (kk : Ok D (0, 0) z (pc + 1) L (.int (S.1 o i.toNatClampNeg) :: st) (St S) post) : Ok D (0, 0) z pc L (.int i :: .ref o :: st) (St S) post := ok_iaload hd hp.1 hp.2 hi kk
theorem okS_iastore {o n : Nat} {i x : Int32} (hd : decode D.2.1 pc = .ok (.iastore, 1)) (hp : PA o n) (hi : inb i n) (kk : Ok D (0, 0) z (pc + 1) L st (St (wr S o i.toNatClampNeg x)) post) : Ok D (0, 0) z pc L (.int x :: .int i :: .ref o :: st) (St S) post := ok_iastore hd hp.1 hp.2 hi kk
theorem okS_row {o n t : Nat} {i : Int32} (hd : decode D.2.1 pc = .ok (.aaload, 1)) (hp : PG o n t) (hi : inb i n) (kk : Ok D (0, 0) z (pc + 1) L (.ref (t + i.toNatClampNeg) :: st) (St S) post) : Ok D (0, 0) z pc L (.int i :: .ref o :: st) (St S) post :=
  ok_aaload2 hd hp.1 hp.2.1 hi (show RFP S.2 o _ = _ by unfold RFP; rw [if_neg hp.2.2.1]; exact hp.2.2.2 _ (inb_lt hi)) kk
theorem okS_ahead {i : Int32} (hd : decode D.2.1 pc = .ok (.aaload, 1)) (hi : inb i 16) (kk : Ok D (0, 0) z (pc + 1) L (.ref (S.2 i.toNatClampNeg) :: st) (St S) post) : Ok D (0, 0) z pc L (.int i :: .ref 73 :: st) (St S) post :=
  ok_aaload hd (show 73 < 169 by decide) (show KD 73 = (14, 16) by rfl) (Or.inr rfl) hi (show RFP S.2 73 _ = _ by unfold RFP; rw [if_pos rfl, if_pos (inb_lt hi)]) kk
theorem NW_kd {o : Nat} (h : NW o = true) : o < 169 ∧ KD o = (6, 5) := by
  have h : o ∈ [1, 74, 78, 82, 86, 90, 94, 98, 102, 106, 110, 114, 118, 122, 126, 130, 134, 144, 149] := of_decide_eq_true h
  simp only [List.mem_cons, List.not_mem_nil, or_false] at h
  rcases h with rfl | rfl | rfl | rfl | rfl | rfl | rfl | rfl | rfl | rfl | rfl | rfl | rfl | rfl | rfl | rfl | rfl | rfl | rfl <;> exact ⟨by decide, rfl⟩
theorem mR_ahead {j y : Nat} (hj : j < 16) : mR (St S) 73 j (some y) = St (wp S j y) := by
  unfold mR St wp
  congr 3
  funext a b
  simp only [u2, RFP]
  by_cases ha : a = 73
  · subst ha
    by_cases hb : b = j
    · subst hb; simp [hj]
    · simp [hb]
  · simp [ha]
theorem okS_aheadSet {i : Int32} {y : Nat} (hd : decode D.2.1 pc = .ok (.aastore, 1)) (hi : inb i 16) (hy : NW y = true) (kk : Ok D (0, 0) z (pc + 1) L st (St (wp S i.toNatClampNeg y)) post) : Ok D (0, 0) z pc L (.ref y :: .int i :: .ref 73 :: st) (St S) post :=
  ok_aastore hd (show 73 < 169 by decide) (show KD 73 = (14, 16) by rfl) (Or.inr ⟨rfl, rfl⟩) hi (NW_kd hy).1 (NW_kd hy).2 rfl (by decide) (by rw [mR_ahead (inb_lt hi)]; exact kk)
theorem okS_image {i : Int32} {t : Nat} (hd : decode D.2.1 pc = .ok (.aaload, 1)) (hi : inb i 2) (ht : RF 142 i.toNatClampNeg = some t) (kk : Ok D (0, 0) z (pc + 1) L (.ref t :: st) (St S) post) : Ok D (0, 0) z pc L (.int i :: .ref 142 :: st) (St S) post :=
  ok_aaload hd (show 142 < 169 by decide) (show KD 142 = (13, 2) by rfl) (Or.inl rfl) hi (show RFP S.2 142 _ = _ by unfold RFP; rw [if_neg (by decide)]; exact ht) kk
/-- what a method answers and leaves -/
abbrev An (r : Option Value) (S' : Mm) : Option Value → Mem → Prop := fun r' M' => r' = r ∧ M' = St S'
/-- a contract over the memory as it stands: nothing new is made -/
def Rs (D : Md) (as : List Value) (S : Mm) (r : Option Value) (S' : Mm) : Prop := Rn D (0, 0) as (St S) (An r S')
theorem rs_of {as : List Value} {r : Option Value} (hy : plainName D.1.cls = true) (hown : D.1.cls = D.2.2.2.2.2) (hn : (lg_sl as).length ≤ D.2.2.1) (h : Ok D (0, 0) (0, 0) 0 (lv_args 0 as) [] (St S) (An r S')) : Rs D as S r S' := rn_of hy hown hn h
theorem okS_ret {v : Int32} {ty : FieldType} (hd : decode D.2.1 pc = .ok (.ireturn, 1)) (hr : D.2.2.2.1 = some ty) (hn : narrow ty (.int v) = .int v) (h : post (some (.int v)) (St S)) : Ok D (0, 0) (0, 0) pc L [.int v] (St S) post := ok_ret (show 0 < 169 by decide) hd hr hn h
theorem okS_retv (hd : decode D.2.1 pc = .ok (.return_, 1)) (hr : D.2.2.2.1 = none) (h : post none (St S)) : Ok D (0, 0) (0, 0) pc L [] (St S) post := ok_retv (show 0 < 169 by decide) hd hr h
theorem okS_reta {v : Value} {n : String} (hd : decode D.2.1 pc = .ok (.areturn, 1)) (hr : D.2.2.2.1 = some (.object n)) (hv : v = .null ∨ ∃ a, v = .ref a) (h : post (some v) (St S)) : Ok D (0, 0) (0, 0) pc L [v] (St S) post := ok_reta (show 0 < 169 by decide) hd hr hv h
/-- the room of a call of a method that makes nothing -/
def R0 (D D2 : Md) : Prop := Rm D D2 ∧ D2.2.2.2.2.1.cells = 0 ∧ D2.2.2.2.2.1.slots = 0
theorem okS_V {idx ci n o : Nat} {as : List Value} {r : Option Value} (hd : decode D.2.1 pc = .ok (.invokevirtual idx, 3)) (hC : CV D.2.2.2.2.2 D2 idx ci n) (hn : as.length = n) (hp : PO o ci) (hst : (st.map fun v => v.category).sum ≤ 8) (hR : R0 D D2) (hc : Rs D2 (.ref o :: as) S r S') (kk : Ok D (0, 0) z (pc + 3) L (r.toList ++ st) (St S') post) : Ok D (0, 0) z pc L (as.reverse ++ .ref o :: st) (St S) post := by
  obtain ⟨hR1, hR2, hR3⟩ := hR
  obtain ⟨h1, N, h2⟩ := hp
  refine ok_callV (q := (0, 0)) (N := N) hd hC hn h1 h2 hst hR1 ?_ (post2 := An r S') ?_ ?_ ?_
  · rw [hR2, hR3]; exact ⟨Nat.zero_le _, Nat.zero_le _⟩
  · rw [hR2, hR3]; exact hc
  · rintro r' M' ⟨-, rfl⟩; rw [hR2]; rfl
  · rintro r' M' ⟨rfl, rfl⟩
    rw [hR2, hR3]
    exact kk
theorem okS_S {idx n : Nat} {as : List Value} {r : Option Value} (hd : decode D.2.1 pc = .ok (.invokestatic idx, 3)) (hC : CS D.2.2.2.2.2 D2 idx n) (hn : as.length = n) (hst : (st.map fun v => v.category).sum ≤ 8) (hR : R0 D D2) (hc : Rs D2 as S r S') (kk : Ok D (0, 0) z (pc + 3) L (r.toList ++ st) (St S') post) : Ok D (0, 0) z pc L (as.reverse ++ st) (St S) post := by
  obtain ⟨hR1, hR2, hR3⟩ := hR
  refine ok_callS (q := (0, 0)) hd hC hn (show 0 < 169 by decide) hst hR1 ?_ (post2 := An r S') ?_ ?_ ?_
  · rw [hR2, hR3]; exact ⟨Nat.zero_le _, Nat.zero_le _⟩
  · rw [hR2, hR3]; exact hc
  · rintro r' M' ⟨-, rfl⟩; rw [hR2]; rfl
  · rintro r' M' ⟨rfl, rfl⟩
    rw [hR2, hR3]
    exact kk
theorem okS_SN {idx n : Nat} {host : String} {as : List Value} {r : Option Value} (hd : decode D.2.1 pc = .ok (.invokestatic idx, 3)) (hC : CSN D.2.2.2.2.2 D2 idx n host) (hn : as.length = n) (hst : (st.map fun v => v.category).sum ≤ 8) (hR : R0 D D2) (hc : Rs D2 as S r S') (kk : Ok D (0, 0) z (pc + 3) L (r.toList ++ st) (St S') post) : Ok D (0, 0) z pc L (as.reverse ++ st) (St S) post := by
  obtain ⟨hR1, hR2, hR3⟩ := hR
  refine ok_callSN (q := (0, 0)) hd hC hn (show 0 < 169 by decide) hst hR1 ?_ (post2 := An r S') ?_ ?_ ?_
  · rw [hR2, hR3]; exact ⟨Nat.zero_le _, Nat.zero_le _⟩
  · rw [hR2, hR3]; exact hc
  · rintro r' M' ⟨-, rfl⟩; rw [hR2]; rfl
  · rintro r' M' ⟨rfl, rfl⟩
    rw [hR2, hR3]
    exact kk
end OKS
theorem po_0 : PO 0 10 := ⟨by decide, 9, rfl⟩
theorem pr_0_0 : PR 0 10 0 1 := ⟨by decide, rfl, ⟨9, rfl, by decide⟩, by decide, rfl⟩
theorem pr_0_1 : PR 0 10 1 5 := ⟨by decide, rfl, ⟨9, rfl, by decide⟩, by decide, rfl⟩
theorem pr_0_2 : PR 0 10 2 68 := ⟨by decide, rfl, ⟨9, rfl, by decide⟩, by decide, rfl⟩
theorem pr_0_3 : PR 0 10 3 72 := ⟨by decide, rfl, ⟨9, rfl, by decide⟩, by decide, rfl⟩
theorem pr_0_4 : PR 0 10 4 138 := ⟨by decide, rfl, ⟨9, rfl, by decide⟩, by decide, rfl⟩
theorem pr_0_5 : PR 0 10 5 142 := ⟨by decide, rfl, ⟨9, rfl, by decide⟩, by decide, rfl⟩
theorem pi_0_6 : PI 0 10 6 := ⟨by decide, rfl, 9, rfl, by decide⟩
theorem pi_0_7 : PI 0 10 7 := ⟨by decide, rfl, 9, rfl, by decide⟩
theorem pi_0_8 : PI 0 10 8 := ⟨by decide, rfl, 9, rfl, by decide⟩
theorem po_1 : PO 1 6 := ⟨by decide, 5, rfl⟩
theorem pr_1_0 : PR 1 6 0 2 := ⟨by decide, rfl, ⟨5, rfl, by decide⟩, by decide, rfl⟩
theorem pr_1_1 : PR 1 6 1 3 := ⟨by decide, rfl, ⟨5, rfl, by decide⟩, by decide, rfl⟩
theorem pr_1_2 : PR 1 6 2 4 := ⟨by decide, rfl, ⟨5, rfl, by decide⟩, by decide, rfl⟩
theorem pi_1_3 : PI 1 6 3 := ⟨by decide, rfl, 5, rfl, by decide⟩
theorem pi_1_4 : PI 1 6 4 := ⟨by decide, rfl, 5, rfl, by decide⟩
theorem pa_2 : PA 2 4 := ⟨by decide, rfl⟩
theorem pa_3 : PA 3 40 := ⟨by decide, rfl⟩
theorem pa_4 : PA 4 40 := ⟨by decide, rfl⟩
theorem po_5 : PO 5 2 := ⟨by decide, 4, rfl⟩
theorem pr_5_0 : PR 5 2 0 6 := ⟨by decide, rfl, ⟨4, rfl, by decide⟩, by decide, rfl⟩
theorem pr_5_1 : PR 5 2 1 26 := ⟨by decide, rfl, ⟨4, rfl, by decide⟩, by decide, rfl⟩
theorem pr_5_2 : PR 5 2 2 50 := ⟨by decide, rfl, ⟨4, rfl, by decide⟩, by decide, rfl⟩
theorem pr_5_3 : PR 5 2 3 61 := ⟨by decide, rfl, ⟨4, rfl, by decide⟩, by decide, rfl⟩
theorem po_6 : PO 6 8 := ⟨by decide, 8, rfl⟩
theorem pr_6_0 : PR 6 8 0 7 := ⟨by decide, rfl, ⟨8, rfl, by decide⟩, by decide, rfl⟩
theorem pr_6_1 : PR 6 8 1 8 := ⟨by decide, rfl, ⟨8, rfl, by decide⟩, by decide, rfl⟩
theorem pr_6_2 : PR 6 8 2 17 := ⟨by decide, rfl, ⟨8, rfl, by decide⟩, by decide, rfl⟩
theorem pi_6_3 : PI 6 8 3 := ⟨by decide, rfl, 8, rfl, by decide⟩
theorem pi_6_4 : PI 6 8 4 := ⟨by decide, rfl, 8, rfl, by decide⟩
theorem pi_6_5 : PI 6 8 5 := ⟨by decide, rfl, 8, rfl, by decide⟩
theorem pi_6_6 : PI 6 8 6 := ⟨by decide, rfl, 8, rfl, by decide⟩
theorem pi_6_7 : PI 6 8 7 := ⟨by decide, rfl, 8, rfl, by decide⟩
theorem pa_7 : PA 7 12 := ⟨by decide, rfl⟩
theorem pg_8 : PG 8 8 9 := ⟨by decide, rfl, by decide, by decide⟩
theorem pq_8 : ∀ i, i < 8 → PA (9 + i) 12 := by unfold PA; decide
theorem pa_9 : PA 9 12 := ⟨by decide, rfl⟩
theorem pa_10 : PA 10 12 := ⟨by decide, rfl⟩
theorem pa_11 : PA 11 12 := ⟨by decide, rfl⟩
theorem pa_12 : PA 12 12 := ⟨by decide, rfl⟩
theorem pa_13 : PA 13 12 := ⟨by decide, rfl⟩
theorem pa_14 : PA 14 12 := ⟨by decide, rfl⟩
theorem pa_15 : PA 15 12 := ⟨by decide, rfl⟩
theorem pa_16 : PA 16 12 := ⟨by decide, rfl⟩
theorem pg_17 : PG 17 8 18 := ⟨by decide, rfl, by decide, by decide⟩
theorem pq_17 : ∀ i, i < 8 → PA (18 + i) 12 := by unfold PA; decide
theorem pa_18 : PA 18 12 := ⟨by decide, rfl⟩
theorem pa_19 : PA 19 12 := ⟨by decide, rfl⟩
theorem pa_20 : PA 20 12 := ⟨by decide, rfl⟩
theorem pa_21 : PA 21 12 := ⟨by decide, rfl⟩
theorem pa_22 : PA 22 12 := ⟨by decide, rfl⟩
theorem pa_23 : PA 23 12 := ⟨by decide, rfl⟩
theorem pa_24 : PA 24 12 := ⟨by decide, rfl⟩
theorem pa_25 : PA 25 12 := ⟨by decide, rfl⟩
theorem po_26 : PO 26 5 := ⟨by decide, 3, rfl⟩
theorem pr_26_0 : PR 26 5 0 27 := ⟨by decide, rfl, ⟨3, rfl, by decide⟩, by decide, rfl⟩
theorem pr_26_1 : PR 26 5 1 36 := ⟨by decide, rfl, ⟨3, rfl, by decide⟩, by decide, rfl⟩
theorem pr_26_2 : PR 26 5 2 37 := ⟨by decide, rfl, ⟨3, rfl, by decide⟩, by decide, rfl⟩
theorem pg_27 : PG 27 8 28 := ⟨by decide, rfl, by decide, by decide⟩
theorem pq_27 : ∀ i, i < 8 → PA (28 + i) 12 := by unfold PA; decide
theorem pa_28 : PA 28 12 := ⟨by decide, rfl⟩
theorem pa_29 : PA 29 12 := ⟨by decide, rfl⟩
theorem pa_30 : PA 30 12 := ⟨by decide, rfl⟩
theorem pa_31 : PA 31 12 := ⟨by decide, rfl⟩
theorem pa_32 : PA 32 12 := ⟨by decide, rfl⟩
theorem pa_33 : PA 33 12 := ⟨by decide, rfl⟩
theorem pa_34 : PA 34 12 := ⟨by decide, rfl⟩
theorem pa_35 : PA 35 12 := ⟨by decide, rfl⟩
theorem pa_36 : PA 36 8 := ⟨by decide, rfl⟩
theorem pg_37 : PG 37 12 38 := ⟨by decide, rfl, by decide, by decide⟩
theorem pq_37 : ∀ i, i < 12 → PA (38 + i) 4 := by unfold PA; decide
theorem pa_38 : PA 38 4 := ⟨by decide, rfl⟩
theorem pa_39 : PA 39 4 := ⟨by decide, rfl⟩
theorem pa_40 : PA 40 4 := ⟨by decide, rfl⟩
theorem pa_41 : PA 41 4 := ⟨by decide, rfl⟩
theorem pa_42 : PA 42 4 := ⟨by decide, rfl⟩
theorem pa_43 : PA 43 4 := ⟨by decide, rfl⟩
theorem pa_44 : PA 44 4 := ⟨by decide, rfl⟩
theorem pa_45 : PA 45 4 := ⟨by decide, rfl⟩
theorem pa_46 : PA 46 4 := ⟨by decide, rfl⟩
theorem pa_47 : PA 47 4 := ⟨by decide, rfl⟩
theorem pa_48 : PA 48 4 := ⟨by decide, rfl⟩
theorem pa_49 : PA 49 4 := ⟨by decide, rfl⟩
theorem po_50 : PO 50 3 := ⟨by decide, 2, rfl⟩
theorem pr_50_0 : PR 50 3 0 51 := ⟨by decide, rfl, ⟨2, rfl, by decide⟩, by decide, rfl⟩
theorem pi_50_1 : PI 50 3 1 := ⟨by decide, rfl, 2, rfl, by decide⟩
theorem pg_51 : PG 51 9 52 := ⟨by decide, rfl, by decide, by decide⟩
theorem pq_51 : ∀ i, i < 9 → PA (52 + i) 144 := by unfold PA; decide
theorem pa_52 : PA 52 144 := ⟨by decide, rfl⟩
theorem pa_53 : PA 53 144 := ⟨by decide, rfl⟩
theorem pa_54 : PA 54 144 := ⟨by decide, rfl⟩
theorem pa_55 : PA 55 144 := ⟨by decide, rfl⟩
theorem pa_56 : PA 56 144 := ⟨by decide, rfl⟩
theorem pa_57 : PA 57 144 := ⟨by decide, rfl⟩
theorem pa_58 : PA 58 144 := ⟨by decide, rfl⟩
theorem pa_59 : PA 59 144 := ⟨by decide, rfl⟩
theorem pa_60 : PA 60 144 := ⟨by decide, rfl⟩
theorem po_61 : PO 61 7 := ⟨by decide, 3, rfl⟩
theorem pr_61_0 : PR 61 7 0 62 := ⟨by decide, rfl, ⟨3, rfl, by decide⟩, by decide, rfl⟩
theorem pr_61_1 : PR 61 7 1 63 := ⟨by decide, rfl, ⟨3, rfl, by decide⟩, by decide, rfl⟩
theorem pi_61_2 : PI 61 7 2 := ⟨by decide, rfl, 3, rfl, by decide⟩
theorem pa_62 : PA 62 144 := ⟨by decide, rfl⟩
theorem pg_63 : PG 63 4 64 := ⟨by decide, rfl, by decide, by decide⟩
theorem pq_63 : ∀ i, i < 4 → PA (64 + i) 48 := by unfold PA; decide
theorem pa_64 : PA 64 48 := ⟨by decide, rfl⟩
theorem pa_65 : PA 65 48 := ⟨by decide, rfl⟩
theorem pa_66 : PA 66 48 := ⟨by decide, rfl⟩
theorem pa_67 : PA 67 48 := ⟨by decide, rfl⟩
theorem po_68 : PO 68 9 := ⟨by decide, 6, rfl⟩
theorem pr_68_0 : PR 68 9 0 69 := ⟨by decide, rfl, ⟨6, rfl, by decide⟩, by decide, rfl⟩
theorem pr_68_1 : PR 68 9 1 70 := ⟨by decide, rfl, ⟨6, rfl, by decide⟩, by decide, rfl⟩
theorem pr_68_2 : PR 68 9 2 71 := ⟨by decide, rfl, ⟨6, rfl, by decide⟩, by decide, rfl⟩
theorem pi_68_3 : PI 68 9 3 := ⟨by decide, rfl, 6, rfl, by decide⟩
theorem pi_68_4 : PI 68 9 4 := ⟨by decide, rfl, 6, rfl, by decide⟩
theorem pi_68_5 : PI 68 9 5 := ⟨by decide, rfl, 6, rfl, by decide⟩
theorem pa_69 : PA 69 60 := ⟨by decide, rfl⟩
theorem pa_70 : PA 70 20 := ⟨by decide, rfl⟩
theorem pa_71 : PA 71 20 := ⟨by decide, rfl⟩
theorem po_72 : PO 72 1 := ⟨by decide, 2, rfl⟩
theorem pr_72_0 : PR 72 1 0 73 := ⟨by decide, rfl, ⟨2, rfl, by decide⟩, by decide, rfl⟩
theorem pi_72_1 : PI 72 1 1 := ⟨by decide, rfl, 2, rfl, by decide⟩
theorem po_74 : PO 74 6 := ⟨by decide, 5, rfl⟩
theorem pr_74_0 : PR 74 6 0 75 := ⟨by decide, rfl, ⟨5, rfl, by decide⟩, by decide, rfl⟩
theorem pr_74_1 : PR 74 6 1 76 := ⟨by decide, rfl, ⟨5, rfl, by decide⟩, by decide, rfl⟩
theorem pr_74_2 : PR 74 6 2 77 := ⟨by decide, rfl, ⟨5, rfl, by decide⟩, by decide, rfl⟩
theorem pi_74_3 : PI 74 6 3 := ⟨by decide, rfl, 5, rfl, by decide⟩
theorem pi_74_4 : PI 74 6 4 := ⟨by decide, rfl, 5, rfl, by decide⟩
theorem pa_75 : PA 75 4 := ⟨by decide, rfl⟩
theorem pa_76 : PA 76 40 := ⟨by decide, rfl⟩
theorem pa_77 : PA 77 40 := ⟨by decide, rfl⟩
theorem po_78 : PO 78 6 := ⟨by decide, 5, rfl⟩
theorem pr_78_0 : PR 78 6 0 79 := ⟨by decide, rfl, ⟨5, rfl, by decide⟩, by decide, rfl⟩
theorem pr_78_1 : PR 78 6 1 80 := ⟨by decide, rfl, ⟨5, rfl, by decide⟩, by decide, rfl⟩
theorem pr_78_2 : PR 78 6 2 81 := ⟨by decide, rfl, ⟨5, rfl, by decide⟩, by decide, rfl⟩
theorem pi_78_3 : PI 78 6 3 := ⟨by decide, rfl, 5, rfl, by decide⟩
theorem pi_78_4 : PI 78 6 4 := ⟨by decide, rfl, 5, rfl, by decide⟩
theorem pa_79 : PA 79 4 := ⟨by decide, rfl⟩
theorem pa_80 : PA 80 40 := ⟨by decide, rfl⟩
theorem pa_81 : PA 81 40 := ⟨by decide, rfl⟩
theorem po_82 : PO 82 6 := ⟨by decide, 5, rfl⟩
theorem pr_82_0 : PR 82 6 0 83 := ⟨by decide, rfl, ⟨5, rfl, by decide⟩, by decide, rfl⟩
theorem pr_82_1 : PR 82 6 1 84 := ⟨by decide, rfl, ⟨5, rfl, by decide⟩, by decide, rfl⟩
theorem pr_82_2 : PR 82 6 2 85 := ⟨by decide, rfl, ⟨5, rfl, by decide⟩, by decide, rfl⟩
theorem pi_82_3 : PI 82 6 3 := ⟨by decide, rfl, 5, rfl, by decide⟩
theorem pi_82_4 : PI 82 6 4 := ⟨by decide, rfl, 5, rfl, by decide⟩
theorem pa_83 : PA 83 4 := ⟨by decide, rfl⟩
theorem pa_84 : PA 84 40 := ⟨by decide, rfl⟩
theorem pa_85 : PA 85 40 := ⟨by decide, rfl⟩
theorem po_86 : PO 86 6 := ⟨by decide, 5, rfl⟩
theorem pr_86_0 : PR 86 6 0 87 := ⟨by decide, rfl, ⟨5, rfl, by decide⟩, by decide, rfl⟩
theorem pr_86_1 : PR 86 6 1 88 := ⟨by decide, rfl, ⟨5, rfl, by decide⟩, by decide, rfl⟩
theorem pr_86_2 : PR 86 6 2 89 := ⟨by decide, rfl, ⟨5, rfl, by decide⟩, by decide, rfl⟩
theorem pi_86_3 : PI 86 6 3 := ⟨by decide, rfl, 5, rfl, by decide⟩
theorem pi_86_4 : PI 86 6 4 := ⟨by decide, rfl, 5, rfl, by decide⟩
theorem pa_87 : PA 87 4 := ⟨by decide, rfl⟩
theorem pa_88 : PA 88 40 := ⟨by decide, rfl⟩
theorem pa_89 : PA 89 40 := ⟨by decide, rfl⟩
theorem po_90 : PO 90 6 := ⟨by decide, 5, rfl⟩
theorem pr_90_0 : PR 90 6 0 91 := ⟨by decide, rfl, ⟨5, rfl, by decide⟩, by decide, rfl⟩
theorem pr_90_1 : PR 90 6 1 92 := ⟨by decide, rfl, ⟨5, rfl, by decide⟩, by decide, rfl⟩
theorem pr_90_2 : PR 90 6 2 93 := ⟨by decide, rfl, ⟨5, rfl, by decide⟩, by decide, rfl⟩
theorem pi_90_3 : PI 90 6 3 := ⟨by decide, rfl, 5, rfl, by decide⟩
theorem pi_90_4 : PI 90 6 4 := ⟨by decide, rfl, 5, rfl, by decide⟩
theorem pa_91 : PA 91 4 := ⟨by decide, rfl⟩
theorem pa_92 : PA 92 40 := ⟨by decide, rfl⟩
theorem pa_93 : PA 93 40 := ⟨by decide, rfl⟩
theorem po_94 : PO 94 6 := ⟨by decide, 5, rfl⟩
theorem pr_94_0 : PR 94 6 0 95 := ⟨by decide, rfl, ⟨5, rfl, by decide⟩, by decide, rfl⟩
theorem pr_94_1 : PR 94 6 1 96 := ⟨by decide, rfl, ⟨5, rfl, by decide⟩, by decide, rfl⟩
theorem pr_94_2 : PR 94 6 2 97 := ⟨by decide, rfl, ⟨5, rfl, by decide⟩, by decide, rfl⟩
theorem pi_94_3 : PI 94 6 3 := ⟨by decide, rfl, 5, rfl, by decide⟩
theorem pi_94_4 : PI 94 6 4 := ⟨by decide, rfl, 5, rfl, by decide⟩
theorem pa_95 : PA 95 4 := ⟨by decide, rfl⟩
theorem pa_96 : PA 96 40 := ⟨by decide, rfl⟩
theorem pa_97 : PA 97 40 := ⟨by decide, rfl⟩
theorem po_98 : PO 98 6 := ⟨by decide, 5, rfl⟩
theorem pr_98_0 : PR 98 6 0 99 := ⟨by decide, rfl, ⟨5, rfl, by decide⟩, by decide, rfl⟩
theorem pr_98_1 : PR 98 6 1 100 := ⟨by decide, rfl, ⟨5, rfl, by decide⟩, by decide, rfl⟩
theorem pr_98_2 : PR 98 6 2 101 := ⟨by decide, rfl, ⟨5, rfl, by decide⟩, by decide, rfl⟩
theorem pi_98_3 : PI 98 6 3 := ⟨by decide, rfl, 5, rfl, by decide⟩
theorem pi_98_4 : PI 98 6 4 := ⟨by decide, rfl, 5, rfl, by decide⟩
theorem pa_99 : PA 99 4 := ⟨by decide, rfl⟩
theorem pa_100 : PA 100 40 := ⟨by decide, rfl⟩
theorem pa_101 : PA 101 40 := ⟨by decide, rfl⟩
theorem po_102 : PO 102 6 := ⟨by decide, 5, rfl⟩
theorem pr_102_0 : PR 102 6 0 103 := ⟨by decide, rfl, ⟨5, rfl, by decide⟩, by decide, rfl⟩
theorem pr_102_1 : PR 102 6 1 104 := ⟨by decide, rfl, ⟨5, rfl, by decide⟩, by decide, rfl⟩
theorem pr_102_2 : PR 102 6 2 105 := ⟨by decide, rfl, ⟨5, rfl, by decide⟩, by decide, rfl⟩
theorem pi_102_3 : PI 102 6 3 := ⟨by decide, rfl, 5, rfl, by decide⟩
theorem pi_102_4 : PI 102 6 4 := ⟨by decide, rfl, 5, rfl, by decide⟩
theorem pa_103 : PA 103 4 := ⟨by decide, rfl⟩
theorem pa_104 : PA 104 40 := ⟨by decide, rfl⟩
theorem pa_105 : PA 105 40 := ⟨by decide, rfl⟩
theorem po_106 : PO 106 6 := ⟨by decide, 5, rfl⟩
theorem pr_106_0 : PR 106 6 0 107 := ⟨by decide, rfl, ⟨5, rfl, by decide⟩, by decide, rfl⟩
theorem pr_106_1 : PR 106 6 1 108 := ⟨by decide, rfl, ⟨5, rfl, by decide⟩, by decide, rfl⟩
theorem pr_106_2 : PR 106 6 2 109 := ⟨by decide, rfl, ⟨5, rfl, by decide⟩, by decide, rfl⟩
theorem pi_106_3 : PI 106 6 3 := ⟨by decide, rfl, 5, rfl, by decide⟩
theorem pi_106_4 : PI 106 6 4 := ⟨by decide, rfl, 5, rfl, by decide⟩
theorem pa_107 : PA 107 4 := ⟨by decide, rfl⟩
theorem pa_108 : PA 108 40 := ⟨by decide, rfl⟩
theorem pa_109 : PA 109 40 := ⟨by decide, rfl⟩
theorem po_110 : PO 110 6 := ⟨by decide, 5, rfl⟩
theorem pr_110_0 : PR 110 6 0 111 := ⟨by decide, rfl, ⟨5, rfl, by decide⟩, by decide, rfl⟩
theorem pr_110_1 : PR 110 6 1 112 := ⟨by decide, rfl, ⟨5, rfl, by decide⟩, by decide, rfl⟩
theorem pr_110_2 : PR 110 6 2 113 := ⟨by decide, rfl, ⟨5, rfl, by decide⟩, by decide, rfl⟩
theorem pi_110_3 : PI 110 6 3 := ⟨by decide, rfl, 5, rfl, by decide⟩
theorem pi_110_4 : PI 110 6 4 := ⟨by decide, rfl, 5, rfl, by decide⟩
theorem pa_111 : PA 111 4 := ⟨by decide, rfl⟩
theorem pa_112 : PA 112 40 := ⟨by decide, rfl⟩
theorem pa_113 : PA 113 40 := ⟨by decide, rfl⟩
theorem po_114 : PO 114 6 := ⟨by decide, 5, rfl⟩
theorem pr_114_0 : PR 114 6 0 115 := ⟨by decide, rfl, ⟨5, rfl, by decide⟩, by decide, rfl⟩
theorem pr_114_1 : PR 114 6 1 116 := ⟨by decide, rfl, ⟨5, rfl, by decide⟩, by decide, rfl⟩
theorem pr_114_2 : PR 114 6 2 117 := ⟨by decide, rfl, ⟨5, rfl, by decide⟩, by decide, rfl⟩
theorem pi_114_3 : PI 114 6 3 := ⟨by decide, rfl, 5, rfl, by decide⟩
theorem pi_114_4 : PI 114 6 4 := ⟨by decide, rfl, 5, rfl, by decide⟩
theorem pa_115 : PA 115 4 := ⟨by decide, rfl⟩
theorem pa_116 : PA 116 40 := ⟨by decide, rfl⟩
theorem pa_117 : PA 117 40 := ⟨by decide, rfl⟩
theorem po_118 : PO 118 6 := ⟨by decide, 5, rfl⟩
theorem pr_118_0 : PR 118 6 0 119 := ⟨by decide, rfl, ⟨5, rfl, by decide⟩, by decide, rfl⟩
theorem pr_118_1 : PR 118 6 1 120 := ⟨by decide, rfl, ⟨5, rfl, by decide⟩, by decide, rfl⟩
theorem pr_118_2 : PR 118 6 2 121 := ⟨by decide, rfl, ⟨5, rfl, by decide⟩, by decide, rfl⟩
theorem pi_118_3 : PI 118 6 3 := ⟨by decide, rfl, 5, rfl, by decide⟩
theorem pi_118_4 : PI 118 6 4 := ⟨by decide, rfl, 5, rfl, by decide⟩
theorem pa_119 : PA 119 4 := ⟨by decide, rfl⟩
theorem pa_120 : PA 120 40 := ⟨by decide, rfl⟩
theorem pa_121 : PA 121 40 := ⟨by decide, rfl⟩
theorem po_122 : PO 122 6 := ⟨by decide, 5, rfl⟩
theorem pr_122_0 : PR 122 6 0 123 := ⟨by decide, rfl, ⟨5, rfl, by decide⟩, by decide, rfl⟩
theorem pr_122_1 : PR 122 6 1 124 := ⟨by decide, rfl, ⟨5, rfl, by decide⟩, by decide, rfl⟩
theorem pr_122_2 : PR 122 6 2 125 := ⟨by decide, rfl, ⟨5, rfl, by decide⟩, by decide, rfl⟩
theorem pi_122_3 : PI 122 6 3 := ⟨by decide, rfl, 5, rfl, by decide⟩
theorem pi_122_4 : PI 122 6 4 := ⟨by decide, rfl, 5, rfl, by decide⟩
theorem pa_123 : PA 123 4 := ⟨by decide, rfl⟩
theorem pa_124 : PA 124 40 := ⟨by decide, rfl⟩
theorem pa_125 : PA 125 40 := ⟨by decide, rfl⟩
theorem po_126 : PO 126 6 := ⟨by decide, 5, rfl⟩
theorem pr_126_0 : PR 126 6 0 127 := ⟨by decide, rfl, ⟨5, rfl, by decide⟩, by decide, rfl⟩
theorem pr_126_1 : PR 126 6 1 128 := ⟨by decide, rfl, ⟨5, rfl, by decide⟩, by decide, rfl⟩
theorem pr_126_2 : PR 126 6 2 129 := ⟨by decide, rfl, ⟨5, rfl, by decide⟩, by decide, rfl⟩
theorem pi_126_3 : PI 126 6 3 := ⟨by decide, rfl, 5, rfl, by decide⟩
theorem pi_126_4 : PI 126 6 4 := ⟨by decide, rfl, 5, rfl, by decide⟩
theorem pa_127 : PA 127 4 := ⟨by decide, rfl⟩
theorem pa_128 : PA 128 40 := ⟨by decide, rfl⟩
theorem pa_129 : PA 129 40 := ⟨by decide, rfl⟩
theorem po_130 : PO 130 6 := ⟨by decide, 5, rfl⟩
theorem pr_130_0 : PR 130 6 0 131 := ⟨by decide, rfl, ⟨5, rfl, by decide⟩, by decide, rfl⟩
theorem pr_130_1 : PR 130 6 1 132 := ⟨by decide, rfl, ⟨5, rfl, by decide⟩, by decide, rfl⟩
theorem pr_130_2 : PR 130 6 2 133 := ⟨by decide, rfl, ⟨5, rfl, by decide⟩, by decide, rfl⟩
theorem pi_130_3 : PI 130 6 3 := ⟨by decide, rfl, 5, rfl, by decide⟩
theorem pi_130_4 : PI 130 6 4 := ⟨by decide, rfl, 5, rfl, by decide⟩
theorem pa_131 : PA 131 4 := ⟨by decide, rfl⟩
theorem pa_132 : PA 132 40 := ⟨by decide, rfl⟩
theorem pa_133 : PA 133 40 := ⟨by decide, rfl⟩
theorem po_134 : PO 134 6 := ⟨by decide, 5, rfl⟩
theorem pr_134_0 : PR 134 6 0 135 := ⟨by decide, rfl, ⟨5, rfl, by decide⟩, by decide, rfl⟩
theorem pr_134_1 : PR 134 6 1 136 := ⟨by decide, rfl, ⟨5, rfl, by decide⟩, by decide, rfl⟩
theorem pr_134_2 : PR 134 6 2 137 := ⟨by decide, rfl, ⟨5, rfl, by decide⟩, by decide, rfl⟩
theorem pi_134_3 : PI 134 6 3 := ⟨by decide, rfl, 5, rfl, by decide⟩
theorem pi_134_4 : PI 134 6 4 := ⟨by decide, rfl, 5, rfl, by decide⟩
theorem pa_135 : PA 135 4 := ⟨by decide, rfl⟩
theorem pa_136 : PA 136 40 := ⟨by decide, rfl⟩
theorem pa_137 : PA 137 40 := ⟨by decide, rfl⟩
theorem po_138 : PO 138 0 := ⟨by decide, 4, rfl⟩
theorem pr_138_0 : PR 138 0 0 139 := ⟨by decide, rfl, ⟨4, rfl, by decide⟩, by decide, rfl⟩
theorem pr_138_1 : PR 138 0 1 140 := ⟨by decide, rfl, ⟨4, rfl, by decide⟩, by decide, rfl⟩
theorem pr_138_2 : PR 138 0 2 141 := ⟨by decide, rfl, ⟨4, rfl, by decide⟩, by decide, rfl⟩
theorem pi_138_3 : PI 138 0 3 := ⟨by decide, rfl, 4, rfl, by decide⟩
theorem pa_139 : PA 139 20 := ⟨by decide, rfl⟩
theorem pa_140 : PA 140 20 := ⟨by decide, rfl⟩
theorem pa_141 : PA 141 20 := ⟨by decide, rfl⟩
theorem po_143 : PO 143 4 := ⟨by decide, 3, rfl⟩
theorem pr_143_0 : PR 143 4 0 144 := ⟨by decide, rfl, ⟨3, rfl, by decide⟩, by decide, rfl⟩
theorem pi_143_1 : PI 143 4 1 := ⟨by decide, rfl, 3, rfl, by decide⟩
theorem pi_143_2 : PI 143 4 2 := ⟨by decide, rfl, 3, rfl, by decide⟩
theorem po_144 : PO 144 6 := ⟨by decide, 5, rfl⟩
theorem pr_144_0 : PR 144 6 0 145 := ⟨by decide, rfl, ⟨5, rfl, by decide⟩, by decide, rfl⟩
theorem pr_144_1 : PR 144 6 1 146 := ⟨by decide, rfl, ⟨5, rfl, by decide⟩, by decide, rfl⟩
theorem pr_144_2 : PR 144 6 2 147 := ⟨by decide, rfl, ⟨5, rfl, by decide⟩, by decide, rfl⟩
theorem pi_144_3 : PI 144 6 3 := ⟨by decide, rfl, 5, rfl, by decide⟩
theorem pi_144_4 : PI 144 6 4 := ⟨by decide, rfl, 5, rfl, by decide⟩
theorem pa_145 : PA 145 4 := ⟨by decide, rfl⟩
theorem pa_146 : PA 146 40 := ⟨by decide, rfl⟩
theorem pa_147 : PA 147 40 := ⟨by decide, rfl⟩
theorem po_148 : PO 148 4 := ⟨by decide, 3, rfl⟩
theorem pr_148_0 : PR 148 4 0 149 := ⟨by decide, rfl, ⟨3, rfl, by decide⟩, by decide, rfl⟩
theorem pi_148_1 : PI 148 4 1 := ⟨by decide, rfl, 3, rfl, by decide⟩
theorem pi_148_2 : PI 148 4 2 := ⟨by decide, rfl, 3, rfl, by decide⟩
theorem po_149 : PO 149 6 := ⟨by decide, 5, rfl⟩
theorem pr_149_0 : PR 149 6 0 150 := ⟨by decide, rfl, ⟨5, rfl, by decide⟩, by decide, rfl⟩
theorem pr_149_1 : PR 149 6 1 151 := ⟨by decide, rfl, ⟨5, rfl, by decide⟩, by decide, rfl⟩
theorem pr_149_2 : PR 149 6 2 152 := ⟨by decide, rfl, ⟨5, rfl, by decide⟩, by decide, rfl⟩
theorem pi_149_3 : PI 149 6 3 := ⟨by decide, rfl, 5, rfl, by decide⟩
theorem pi_149_4 : PI 149 6 4 := ⟨by decide, rfl, 5, rfl, by decide⟩
theorem pa_150 : PA 150 4 := ⟨by decide, rfl⟩
theorem pa_151 : PA 151 40 := ⟨by decide, rfl⟩
theorem pa_152 : PA 152 40 := ⟨by decide, rfl⟩
theorem po_153 : PO 153 11 := ⟨by decide, 24, rfl⟩
theorem pr_153_0 : PR 153 11 0 154 := ⟨by decide, rfl, ⟨24, rfl, by decide⟩, by decide, rfl⟩
theorem pi_153_1 : PI 153 11 1 := ⟨by decide, rfl, 24, rfl, by decide⟩
theorem pi_153_2 : PI 153 11 2 := ⟨by decide, rfl, 24, rfl, by decide⟩
theorem pi_153_3 : PI 153 11 3 := ⟨by decide, rfl, 24, rfl, by decide⟩
theorem pr_153_4 : PR 153 11 4 155 := ⟨by decide, rfl, ⟨24, rfl, by decide⟩, by decide, rfl⟩
theorem pr_153_5 : PR 153 11 5 156 := ⟨by decide, rfl, ⟨24, rfl, by decide⟩, by decide, rfl⟩
theorem pi_153_6 : PI 153 11 6 := ⟨by decide, rfl, 24, rfl, by decide⟩
theorem pi_153_7 : PI 153 11 7 := ⟨by decide, rfl, 24, rfl, by decide⟩
theorem pr_153_8 : PR 153 11 8 157 := ⟨by decide, rfl, ⟨24, rfl, by decide⟩, by decide, rfl⟩
theorem pr_153_9 : PR 153 11 9 158 := ⟨by decide, rfl, ⟨24, rfl, by decide⟩, by decide, rfl⟩
theorem pr_153_10 : PR 153 11 10 159 := ⟨by decide, rfl, ⟨24, rfl, by decide⟩, by decide, rfl⟩
theorem pi_153_11 : PI 153 11 11 := ⟨by decide, rfl, 24, rfl, by decide⟩
theorem pr_153_12 : PR 153 11 12 160 := ⟨by decide, rfl, ⟨24, rfl, by decide⟩, by decide, rfl⟩
theorem pr_153_13 : PR 153 11 13 161 := ⟨by decide, rfl, ⟨24, rfl, by decide⟩, by decide, rfl⟩
theorem pr_153_14 : PR 153 11 14 162 := ⟨by decide, rfl, ⟨24, rfl, by decide⟩, by decide, rfl⟩
theorem pr_153_15 : PR 153 11 15 163 := ⟨by decide, rfl, ⟨24, rfl, by decide⟩, by decide, rfl⟩
theorem pr_153_16 : PR 153 11 16 164 := ⟨by decide, rfl, ⟨24, rfl, by decide⟩, by decide, rfl⟩
theorem pr_153_17 : PR 153 11 17 165 := ⟨by decide, rfl, ⟨24, rfl, by decide⟩, by decide, rfl⟩
theorem pr_153_18 : PR 153 11 18 166 := ⟨by decide, rfl, ⟨24, rfl, by decide⟩, by decide, rfl⟩
theorem pi_153_19 : PI 153 11 19 := ⟨by decide, rfl, 24, rfl, by decide⟩
theorem pi_153_20 : PI 153 11 20 := ⟨by decide, rfl, 24, rfl, by decide⟩
theorem pr_153_21 : PR 153 11 21 167 := ⟨by decide, rfl, ⟨24, rfl, by decide⟩, by decide, rfl⟩
theorem pr_153_22 : PR 153 11 22 168 := ⟨by decide, rfl, ⟨24, rfl, by decide⟩, by decide, rfl⟩
theorem pi_153_23 : PI 153 11 23 := ⟨by decide, rfl, 24, rfl, by decide⟩
theorem pa_154 : PA 154 1634 := ⟨by decide, rfl⟩
theorem pa_155 : PA 155 2 := ⟨by decide, rfl⟩
theorem pa_156 : PA 156 60 := ⟨by decide, rfl⟩
theorem pa_157 : PA 157 20 := ⟨by decide, rfl⟩
theorem pa_158 : PA 158 20 := ⟨by decide, rfl⟩
theorem pa_159 : PA 159 20 := ⟨by decide, rfl⟩
theorem pa_160 : PA 160 52 := ⟨by decide, rfl⟩
theorem pa_161 : PA 161 12 := ⟨by decide, rfl⟩
theorem pa_162 : PA 162 160 := ⟨by decide, rfl⟩
theorem pa_163 : PA 163 160 := ⟨by decide, rfl⟩
theorem pa_164 : PA 164 160 := ⟨by decide, rfl⟩
theorem pa_165 : PA 165 160 := ⟨by decide, rfl⟩
theorem pa_166 : PA 166 160 := ⟨by decide, rfl⟩
theorem pa_167 : PA 167 40 := ⟨by decide, rfl⟩
theorem pa_168 : PA 168 40 := ⟨by decide, rfl⟩
end
section
theorem wd_0 : Cond.selects "FlaringWords$Text" ⟨"FlaringWords$Text", "readPiece", "(II)I"⟩ ⟨"FlaringWords$Text", "readPiece", "(II)I"⟩ ∈ lw_good := lw_in (List.mem_of_getElem? (i := 0) (by decide +kernel)) (by decide +kernel)
theorem wd_1 : Cond.selects "FlaringWords$Text" ⟨"FlaringWords$Text", "letterAt", "(I)I"⟩ ⟨"FlaringWords$Text", "letterAt", "(I)I"⟩ ∈ lw_good := lw_in (List.mem_of_getElem? (i := 1) (by decide +kernel)) (by decide +kernel)
theorem wd_2 : Cond.selects "FlaringWords$Text" ⟨"FlaringWords$Text", "hasTwoFigures", "()Z"⟩ ⟨"FlaringWords$Text", "hasTwoFigures", "()Z"⟩ ∈ lw_good := lw_in (List.mem_of_getElem? (i := 2) (by decide +kernel)) (by decide +kernel)
theorem wd_3 : Cond.selects "FlaringWords$Text" ⟨"FlaringWords$Text", "passes", "(C)Z"⟩ ⟨"FlaringWords$Text", "passes", "(C)Z"⟩ ∈ lw_good := lw_in (List.mem_of_getElem? (i := 3) (by decide +kernel)) (by decide +kernel)
theorem wd_4 : Cond.selects "FlaringWords$Text" ⟨"FlaringWords$Text", "readWords", "()I"⟩ ⟨"FlaringWords$Text", "readWords", "()I"⟩ ∈ lw_good := lw_in (List.mem_of_getElem? (i := 4) (by decide +kernel)) (by decide +kernel)
theorem wd_5 : Cond.selects "FlaringWords" ⟨"FlaringWords", "aheadOfDeed", "()V"⟩ ⟨"FlaringWords", "aheadOfDeed", "()V"⟩ ∈ lw_good := lw_in (List.mem_of_getElem? (i := 5) (by decide +kernel)) (by decide +kernel)
theorem wd_6 : Cond.selects "FlaringWords$Deeds" ⟨"FlaringWords$Deeds", "dropOldest", "()V"⟩ ⟨"FlaringWords$Deeds", "dropOldest", "()V"⟩ ∈ lw_good := lw_in (List.mem_of_getElem? (i := 6) (by decide +kernel)) (by decide +kernel)
theorem wd_7 : Cond.selects "FlaringWords" ⟨"FlaringWords", "found", "()LFlaringWords$Findings;"⟩ ⟨"FlaringWords", "found", "()LFlaringWords$Findings;"⟩ ∈ lw_good := lw_in (List.mem_of_getElem? (i := 7) (by decide +kernel)) (by decide +kernel)
theorem wd_8 : Cond.selects "FlaringWords$Tally" ⟨"FlaringWords$Tally", "countWord", "(LFlaringWords$News;I)V"⟩ ⟨"FlaringWords$Tally", "countWord", "(LFlaringWords$News;I)V"⟩ ∈ lw_good := lw_in (List.mem_of_getElem? (i := 8) (by decide +kernel)) (by decide +kernel)
theorem wd_9 : Cond.selects "FlaringWords$Levels" ⟨"FlaringWords$Levels", "costRests", "(LFlaringWords$Tally;I)V"⟩ ⟨"FlaringWords$Levels", "costRests", "(LFlaringWords$Tally;I)V"⟩ ∈ lw_good := lw_in (List.mem_of_getElem? (i := 9) (by decide +kernel)) (by decide +kernel)
theorem wd_10 : Cond.selects "FlaringWords$Levels" ⟨"FlaringWords$Levels", "leastFrom", "(LFlaringWords$Tally;II)I"⟩ ⟨"FlaringWords$Levels", "leastFrom", "(LFlaringWords$Tally;II)I"⟩ ∈ lw_good := lw_in (List.mem_of_getElem? (i := 10) (by decide +kernel)) (by decide +kernel)
theorem wd_11 : Cond.selects "FlaringWords$Levels" ⟨"FlaringWords$Levels", "costFrom", "(LFlaringWords$Tally;III)I"⟩ ⟨"FlaringWords$Levels", "costFrom", "(LFlaringWords$Tally;III)I"⟩ ∈ lw_good := lw_in (List.mem_of_getElem? (i := 11) (by decide +kernel)) (by decide +kernel)
theorem wd_12 : Cond.selects "FlaringWords$Levels" ⟨"FlaringWords$Levels", "walk", "(LFlaringWords$Tally;I)V"⟩ ⟨"FlaringWords$Levels", "walk", "(LFlaringWords$Tally;I)V"⟩ ∈ lw_good := lw_in (List.mem_of_getElem? (i := 12) (by decide +kernel)) (by decide +kernel)
theorem wd_13 : Cond.selects "FlaringWords$Flares" ⟨"FlaringWords$Flares", "findAt", "(LFlaringWords$Levels;III)V"⟩ ⟨"FlaringWords$Flares", "findAt", "(LFlaringWords$Levels;III)V"⟩ ∈ lw_good := lw_in (List.mem_of_getElem? (i := 13) (by decide +kernel)) (by decide +kernel)
theorem wd_14 : Cond.selects "FlaringWords$Flares" ⟨"FlaringWords$Flares", "add", "(IIII)V"⟩ ⟨"FlaringWords$Flares", "add", "(IIII)V"⟩ ∈ lw_good := lw_in (List.mem_of_getElem? (i := 14) (by decide +kernel)) (by decide +kernel)
theorem wd_15 : Cond.selects "FlaringWords$Flares" ⟨"FlaringWords$Flares", "around", "(I)I"⟩ ⟨"FlaringWords$Flares", "around", "(I)I"⟩ ∈ lw_good := lw_in (List.mem_of_getElem? (i := 15) (by decide +kernel)) (by decide +kernel)
theorem wd_16 : Cond.selects "FlaringWords$Flares" ⟨"FlaringWords$Flares", "weightOf", "(LFlaringWords$Tally;I)I"⟩ ⟨"FlaringWords$Flares", "weightOf", "(LFlaringWords$Tally;I)I"⟩ ∈ lw_good := lw_in (List.mem_of_getElem? (i := 16) (by decide +kernel)) (by decide +kernel)
theorem wd_17 : Cond.selects "FlaringWords$Flares" ⟨"FlaringWords$Flares", "peakOf", "(LFlaringWords$Tally;I)I"⟩ ⟨"FlaringWords$Flares", "peakOf", "(LFlaringWords$Tally;I)I"⟩ ∈ lw_good := lw_in (List.mem_of_getElem? (i := 17) (by decide +kernel)) (by decide +kernel)
theorem wd_18 : Cond.selects "FlaringWords$Flares" ⟨"FlaringWords$Flares", "fadeOf", "(LFlaringWords$Tally;I)I"⟩ ⟨"FlaringWords$Flares", "fadeOf", "(LFlaringWords$Tally;I)I"⟩ ∈ lw_good := lw_in (List.mem_of_getElem? (i := 18) (by decide +kernel)) (by decide +kernel)
theorem wd_19 : Cond.selects "FlaringWords$Stories" ⟨"FlaringWords$Stories", "tieBy", "(LFlaringWords$Flares;II)V"⟩ ⟨"FlaringWords$Stories", "tieBy", "(LFlaringWords$Flares;II)V"⟩ ∈ lw_good := lw_in (List.mem_of_getElem? (i := 19) (by decide +kernel)) (by decide +kernel)
theorem wd_20 : Cond.selects "FlaringWords$Stories" ⟨"FlaringWords$Stories", "joined", "(III)I"⟩ ⟨"FlaringWords$Stories", "joined", "(III)I"⟩ ∈ lw_good := lw_in (List.mem_of_getElem? (i := 20) (by decide +kernel)) (by decide +kernel)
theorem wd_21 : Cond.selects "FlaringWords$Stories" ⟨"FlaringWords$Stories", "numberHeaps", "(LFlaringWords$Flares;)V"⟩ ⟨"FlaringWords$Stories", "numberHeaps", "(LFlaringWords$Flares;)V"⟩ ∈ lw_good := lw_in (List.mem_of_getElem? (i := 21) (by decide +kernel)) (by decide +kernel)
theorem wd_22 : Cond.selects "FlaringWords$Stories" ⟨"FlaringWords$Stories", "begun", "(LFlaringWords$Flares;I)I"⟩ ⟨"FlaringWords$Stories", "begun", "(LFlaringWords$Flares;I)I"⟩ ∈ lw_good := lw_in (List.mem_of_getElem? (i := 22) (by decide +kernel)) (by decide +kernel)
theorem wd_23 : Cond.selects "FlaringWords$Stories" ⟨"FlaringWords$Stories", "grow", "(ILFlaringWords$Flares;I)V"⟩ ⟨"FlaringWords$Stories", "grow", "(ILFlaringWords$Flares;I)V"⟩ ∈ lw_good := lw_in (List.mem_of_getElem? (i := 23) (by decide +kernel)) (by decide +kernel)
theorem wd_24 : Cond.selects "FlaringWords$Findings" ⟨"FlaringWords$Findings", "isAbove", "(III)Z"⟩ ⟨"FlaringWords$Findings", "isAbove", "(III)Z"⟩ ∈ lw_good := lw_in (List.mem_of_getElem? (i := 24) (by decide +kernel)) (by decide +kernel)
theorem wd_25 : Cond.selects "FlaringWords" ⟨"FlaringWords", "comes", "(II)V"⟩ ⟨"FlaringWords", "comes", "(II)V"⟩ ∈ lw_good := lw_in (List.mem_of_getElem? (i := 25) (by decide +kernel)) (by decide +kernel)
theorem wd_26 : Cond.selects "FlaringWords" ⟨"FlaringWords", "draw", "(I)I"⟩ ⟨"FlaringWords", "draw", "(I)I"⟩ ∈ lw_good := lw_in (List.mem_of_getElem? (i := 26) (by decide +kernel)) (by decide +kernel)
theorem wd_27 : Cond.selects "FlaringWords" ⟨"FlaringWords", "imageOf", "(I)LFlaringWords$Image;"⟩ ⟨"FlaringWords", "imageOf", "(I)LFlaringWords$Image;"⟩ ∈ lw_good := lw_in (List.mem_of_getElem? (i := 27) (by decide +kernel)) (by decide +kernel)
theorem wd_28 : Cond.selects "FlaringWordsModel" ⟨"FlaringWordsModel", "readText", "()I"⟩ ⟨"FlaringWordsModel", "readText", "()I"⟩ ∈ lw_good := lw_in (List.mem_of_getElem? (i := 28) (by decide +kernel)) (by decide +kernel)
theorem wd_29 : Cond.selects "FlaringWordsModel" ⟨"FlaringWordsModel", "faultOf", "(I)I"⟩ ⟨"FlaringWordsModel", "faultOf", "(I)I"⟩ ∈ lw_good := lw_in (List.mem_of_getElem? (i := 29) (by decide +kernel)) (by decide +kernel)
theorem wd_30 : Cond.selects "FlaringWordsModel" ⟨"FlaringWordsModel", "dayAt", "(I)I"⟩ ⟨"FlaringWordsModel", "dayAt", "(I)I"⟩ ∈ lw_good := lw_in (List.mem_of_getElem? (i := 30) (by decide +kernel)) (by decide +kernel)
theorem wd_31 : Cond.selects "FlaringWordsModel" ⟨"FlaringWordsModel", "goOn", "(I)V"⟩ ⟨"FlaringWordsModel", "goOn", "(I)V"⟩ ∈ lw_good := lw_in (List.mem_of_getElem? (i := 31) (by decide +kernel)) (by decide +kernel)
theorem wd_32 : Cond.selects "FlaringWordsModel" ⟨"FlaringWordsModel", "remember", "()V"⟩ ⟨"FlaringWordsModel", "remember", "()V"⟩ ∈ lw_good := lw_in (List.mem_of_getElem? (i := 32) (by decide +kernel)) (by decide +kernel)
theorem wd_33 : Cond.selects "FlaringWordsModel" ⟨"FlaringWordsModel", "copyRow", "(II)V"⟩ ⟨"FlaringWordsModel", "copyRow", "(II)V"⟩ ∈ lw_good := lw_in (List.mem_of_getElem? (i := 33) (by decide +kernel)) (by decide +kernel)
theorem wd_34 : Cond.selects "FlaringWordsModel" ⟨"FlaringWordsModel", "add", "(II)V"⟩ ⟨"FlaringWordsModel", "add", "(II)V"⟩ ∈ lw_good := lw_in (List.mem_of_getElem? (i := 34) (by decide +kernel)) (by decide +kernel)
theorem wd_35 : Cond.selects "FlaringWordsModel" ⟨"FlaringWordsModel", "flaresNow", "()I"⟩ ⟨"FlaringWordsModel", "flaresNow", "()I"⟩ ∈ lw_good := lw_in (List.mem_of_getElem? (i := 35) (by decide +kernel)) (by decide +kernel)
theorem wd_36 : Cond.selects "FlaringWordsModel" ⟨"FlaringWordsModel", "layFlares", "()V"⟩ ⟨"FlaringWordsModel", "layFlares", "()V"⟩ ∈ lw_good := lw_in (List.mem_of_getElem? (i := 36) (by decide +kernel)) (by decide +kernel)
theorem wd_37 : Cond.selects "FlaringWordsModel" ⟨"FlaringWordsModel", "layLevels", "(I)V"⟩ ⟨"FlaringWordsModel", "layLevels", "(I)V"⟩ ∈ lw_good := lw_in (List.mem_of_getElem? (i := 37) (by decide +kernel)) (by decide +kernel)
theorem wd_38 : Cond.selects "FlaringWordsModel" ⟨"FlaringWordsModel", "bestLevel", "(III)I"⟩ ⟨"FlaringWordsModel", "bestLevel", "(III)I"⟩ ∈ lw_good := lw_in (List.mem_of_getElem? (i := 38) (by decide +kernel)) (by decide +kernel)
theorem wd_39 : Cond.selects "FlaringWordsModel" ⟨"FlaringWordsModel", "through", "(IIII)I"⟩ ⟨"FlaringWordsModel", "through", "(IIII)I"⟩ ∈ lw_good := lw_in (List.mem_of_getElem? (i := 39) (by decide +kernel)) (by decide +kernel)
theorem wd_40 : Cond.selects "FlaringWordsModel" ⟨"FlaringWordsModel", "unlikely", "(III)I"⟩ ⟨"FlaringWordsModel", "unlikely", "(III)I"⟩ ∈ lw_good := lw_in (List.mem_of_getElem? (i := 40) (by decide +kernel)) (by decide +kernel)
theorem wd_41 : Cond.selects "FlaringWordsModel" ⟨"FlaringWordsModel", "count", "(II)I"⟩ ⟨"FlaringWordsModel", "count", "(II)I"⟩ ∈ lw_good := lw_in (List.mem_of_getElem? (i := 41) (by decide +kernel)) (by decide +kernel)
theorem wd_42 : Cond.selects "FlaringWordsModel" ⟨"FlaringWordsModel", "wanted", "(III)I"⟩ ⟨"FlaringWordsModel", "wanted", "(III)I"⟩ ∈ lw_good := lw_in (List.mem_of_getElem? (i := 42) (by decide +kernel)) (by decide +kernel)
theorem wd_43 : Cond.selects "FlaringWordsModel" ⟨"FlaringWordsModel", "addFlares", "(II)V"⟩ ⟨"FlaringWordsModel", "addFlares", "(II)V"⟩ ∈ lw_good := lw_in (List.mem_of_getElem? (i := 43) (by decide +kernel)) (by decide +kernel)
theorem wd_44 : Cond.selects "FlaringWordsModel" ⟨"FlaringWordsModel", "stories", "()I"⟩ ⟨"FlaringWordsModel", "stories", "()I"⟩ ∈ lw_good := lw_in (List.mem_of_getElem? (i := 44) (by decide +kernel)) (by decide +kernel)
theorem wd_45 : Cond.selects "FlaringWordsModel" ⟨"FlaringWordsModel", "layHeaps", "()V"⟩ ⟨"FlaringWordsModel", "layHeaps", "()V"⟩ ∈ lw_good := lw_in (List.mem_of_getElem? (i := 45) (by decide +kernel)) (by decide +kernel)
theorem wd_46 : Cond.selects "FlaringWordsModel" ⟨"FlaringWordsModel", "areTied", "(II)Z"⟩ ⟨"FlaringWordsModel", "areTied", "(II)Z"⟩ ∈ lw_good := lw_in (List.mem_of_getElem? (i := 46) (by decide +kernel)) (by decide +kernel)
theorem wd_47 : Cond.selects "FlaringWordsModel" ⟨"FlaringWordsModel", "isIn", "(II)Z"⟩ ⟨"FlaringWordsModel", "isIn", "(II)Z"⟩ ∈ lw_good := lw_in (List.mem_of_getElem? (i := 47) (by decide +kernel)) (by decide +kernel)
theorem wd_48 : Cond.selects "FlaringWordsModel" ⟨"FlaringWordsModel", "begins", "(I)Z"⟩ ⟨"FlaringWordsModel", "begins", "(I)Z"⟩ ∈ lw_good := lw_in (List.mem_of_getElem? (i := 48) (by decide +kernel)) (by decide +kernel)
theorem wd_49 : Cond.selects "FlaringWordsModel" ⟨"FlaringWordsModel", "toldMore", "(I)I"⟩ ⟨"FlaringWordsModel", "toldMore", "(I)I"⟩ ∈ lw_good := lw_in (List.mem_of_getElem? (i := 49) (by decide +kernel)) (by decide +kernel)
theorem wd_50 : Cond.selects "FlaringWordsModel" ⟨"FlaringWordsModel", "wrong", "()I"⟩ ⟨"FlaringWordsModel", "wrong", "()I"⟩ ∈ lw_good := lw_in (List.mem_of_getElem? (i := 50) (by decide +kernel)) (by decide +kernel)
theorem wd_51 : Cond.selects "FlaringWordsModel" ⟨"FlaringWordsModel", "isDay", "(I)Z"⟩ ⟨"FlaringWordsModel", "isDay", "(I)Z"⟩ ∈ lw_good := lw_in (List.mem_of_getElem? (i := 51) (by decide +kernel)) (by decide +kernel)
theorem wd_52 : Cond.selects "FlaringWordsModel" ⟨"FlaringWordsModel", "levelOf", "(II)I"⟩ ⟨"FlaringWordsModel", "levelOf", "(II)I"⟩ ∈ lw_good := lw_in (List.mem_of_getElem? (i := 52) (by decide +kernel)) (by decide +kernel)
theorem wd_53 : Cond.selects "FlaringWordsModel" ⟨"FlaringWordsModel", "isPiece", "(I)Z"⟩ ⟨"FlaringWordsModel", "isPiece", "(I)Z"⟩ ∈ lw_good := lw_in (List.mem_of_getElem? (i := 53) (by decide +kernel)) (by decide +kernel)
theorem wd_54 : Cond.selects "FlaringWordsModel" ⟨"FlaringWordsModel", "hot", "(I)I"⟩ ⟨"FlaringWordsModel", "hot", "(I)I"⟩ ∈ lw_good := lw_in (List.mem_of_getElem? (i := 54) (by decide +kernel)) (by decide +kernel)
theorem wd_55 : Cond.selects "FlaringWordsModel" ⟨"FlaringWordsModel", "topOf", "(I)I"⟩ ⟨"FlaringWordsModel", "topOf", "(I)I"⟩ ∈ lw_good := lw_in (List.mem_of_getElem? (i := 55) (by decide +kernel)) (by decide +kernel)
theorem wd_56 : Cond.selects "FlaringWordsModel" ⟨"FlaringWordsModel", "within", "(I)I"⟩ ⟨"FlaringWordsModel", "within", "(I)I"⟩ ∈ lw_good := lw_in (List.mem_of_getElem? (i := 56) (by decide +kernel)) (by decide +kernel)
theorem wd_57 : Cond.selects "FlaringWordsModel" ⟨"FlaringWordsModel", "weight", "(I)I"⟩ ⟨"FlaringWordsModel", "weight", "(I)I"⟩ ∈ lw_good := lw_in (List.mem_of_getElem? (i := 57) (by decide +kernel)) (by decide +kernel)
theorem wd_58 : Cond.selects "FlaringWordsModel" ⟨"FlaringWordsModel", "peak", "(I)I"⟩ ⟨"FlaringWordsModel", "peak", "(I)I"⟩ ∈ lw_good := lw_in (List.mem_of_getElem? (i := 58) (by decide +kernel)) (by decide +kernel)
theorem wd_59 : Cond.selects "FlaringWordsModel" ⟨"FlaringWordsModel", "storyOf", "(I)I"⟩ ⟨"FlaringWordsModel", "storyOf", "(I)I"⟩ ∈ lw_good := lw_in (List.mem_of_getElem? (i := 59) (by decide +kernel)) (by decide +kernel)
theorem wd_60 : Cond.selects "FlaringWordsModel" ⟨"FlaringWordsModel", "draw", "(I)I"⟩ ⟨"FlaringWordsModel", "draw", "(I)I"⟩ ∈ lw_good := lw_in (List.mem_of_getElem? (i := 60) (by decide +kernel)) (by decide +kernel)
theorem wd_61 : (Jvm.Cond.initialized "FlaringWordsLaw") ∈ lw_good := lw_in (List.mem_of_getElem? (i := 61) (by decide +kernel)) (by decide +kernel)
theorem wd_62 : (Jvm.Cond.initialized "FlaringWords") ∈ lw_good := lw_in (List.mem_of_getElem? (i := 62) (by decide +kernel)) (by decide +kernel)
theorem wd_63 : (Jvm.Cond.initialized "FlaringWords$News") ∈ lw_good := lw_in (List.mem_of_getElem? (i := 63) (by decide +kernel)) (by decide +kernel)
theorem wd_64 : (Jvm.Cond.initialized "FlaringWords$Findings") ∈ lw_good := lw_in (List.mem_of_getElem? (i := 64) (by decide +kernel)) (by decide +kernel)
theorem wd_65 : (Jvm.Cond.initialized "FlaringWords$Tally") ∈ lw_good := lw_in (List.mem_of_getElem? (i := 65) (by decide +kernel)) (by decide +kernel)
theorem wd_66 : (Jvm.Cond.initialized "FlaringWords$Levels") ∈ lw_good := lw_in (List.mem_of_getElem? (i := 66) (by decide +kernel)) (by decide +kernel)
theorem wd_67 : (Jvm.Cond.initialized "FlaringWords$Flares") ∈ lw_good := lw_in (List.mem_of_getElem? (i := 67) (by decide +kernel)) (by decide +kernel)
theorem wd_68 : (Jvm.Cond.initialized "FlaringWords$Stories") ∈ lw_good := lw_in (List.mem_of_getElem? (i := 68) (by decide +kernel)) (by decide +kernel)
theorem wd_69 : (Jvm.Cond.initialized "FlaringWords$Text") ∈ lw_good := lw_in (List.mem_of_getElem? (i := 69) (by decide +kernel)) (by decide +kernel)
theorem wd_70 : (Jvm.Cond.initialized "FlaringWords$Deeds") ∈ lw_good := lw_in (List.mem_of_getElem? (i := 70) (by decide +kernel)) (by decide +kernel)
theorem wd_71 : (Jvm.Cond.initialized "FlaringWords$Book") ∈ lw_good := lw_in (List.mem_of_getElem? (i := 71) (by decide +kernel)) (by decide +kernel)
theorem wd_72 : (Jvm.Cond.initialized "FlaringWords$Image") ∈ lw_good := lw_in (List.mem_of_getElem? (i := 72) (by decide +kernel)) (by decide +kernel)
theorem wd_73 : (Jvm.Cond.initialized "FlaringWordsModel") ∈ lw_good := lw_in (List.mem_of_getElem? (i := 73) (by decide +kernel)) (by decide +kernel)
theorem wd_74 : (Jvm.Cond.initialized "java/lang/System") ∈ lw_good := lw_in (List.mem_of_getElem? (i := 74) (by decide +kernel)) (by decide +kernel)
theorem wd_75 : (Jvm.Cond.initialized "java/lang/Math") ∈ lw_good := lw_in (List.mem_of_getElem? (i := 75) (by decide +kernel)) (by decide +kernel)
theorem wd_76 : (Jvm.Cond.classLink "FlaringWordsLaw" (7 : Nat) "FlaringWords") ∈ lw_good := lw_in (List.mem_of_getElem? (i := 76) (by decide +kernel)) (by decide +kernel)
theorem wd_77 : (Jvm.Cond.instantiable "FlaringWords" (9 : Nat)) ∈ lw_good := lw_in (List.mem_of_getElem? (i := 77) (by decide +kernel)) (by decide +kernel)
theorem wd_80 : (Jvm.Cond.code ({ cls := "FlaringWords", name := "<init>", desc := "()V" } : Jvm.MethodName) prog_1_method_1_code (2 : Nat) (Option.none : Option Jvm.ClassFile.FieldType)) ∈ lw_good := lw_in (List.mem_of_getElem? (i := 80) (by decide +kernel)) (by decide +kernel)
theorem wd_81 : (Jvm.Cond.methodLink "FlaringWords" (1 : Nat) ({ cls := "java/lang/Object", name := "<init>", desc := "()V" } : Jvm.MethodName)) ∈ lw_good := lw_in (List.mem_of_getElem? (i := 81) (by decide +kernel)) (by decide +kernel)
theorem wd_82 : (Jvm.Cond.instanceMethod ({ cls := "java/lang/Object", name := "<init>", desc := "()V" } : Jvm.MethodName)) ∈ lw_good := lw_in (List.mem_of_getElem? (i := 82) (by decide +kernel)) (by decide +kernel)
theorem wd_83 : (Jvm.Cond.code ({ cls := "java/lang/Object", name := "<init>", desc := "()V" } : Jvm.MethodName) object_method_1_code (1 : Nat) (Option.none : Option Jvm.ClassFile.FieldType)) ∈ lw_good := lw_in (List.mem_of_getElem? (i := 83) (by decide +kernel)) (by decide +kernel)
theorem wd_84 : (Jvm.Cond.classLink "FlaringWords" (7 : Nat) "FlaringWords$News") ∈ lw_good := lw_in (List.mem_of_getElem? (i := 84) (by decide +kernel)) (by decide +kernel)
theorem wd_85 : (Jvm.Cond.instantiable "FlaringWords$News" (5 : Nat)) ∈ lw_good := lw_in (List.mem_of_getElem? (i := 85) (by decide +kernel)) (by decide +kernel)
theorem wd_87 : (Jvm.Cond.instanceMethod ({ cls := "FlaringWords$News", name := "<init>", desc := "()V" } : Jvm.MethodName)) ∈ lw_good := lw_in (List.mem_of_getElem? (i := 87) (by decide +kernel)) (by decide +kernel)
theorem wd_88 : (Jvm.Cond.code ({ cls := "FlaringWords$News", name := "<init>", desc := "()V" } : Jvm.MethodName) prog_8_method_1_code (1 : Nat) (Option.none : Option Jvm.ClassFile.FieldType)) ∈ lw_good := lw_in (List.mem_of_getElem? (i := 88) (by decide +kernel)) (by decide +kernel)
theorem wd_89 : (Jvm.Cond.methodLink "FlaringWords$News" (3 : Nat) ({ cls := "java/lang/Object", name := "<init>", desc := "()V" } : Jvm.MethodName)) ∈ lw_good := lw_in (List.mem_of_getElem? (i := 89) (by decide +kernel)) (by decide +kernel)
theorem wd_90 : (Jvm.Cond.fieldLink "FlaringWords$News" (9 : Nat) "FlaringWords$News" "AT_FIRST" "[I") ∈ lw_good := lw_in (List.mem_of_getElem? (i := 90) (by decide +kernel)) (by decide +kernel)
theorem wd_92 : (Jvm.Cond.methodLink "FlaringWords$News" (15 : Nat) ({ cls := "[I", name := "clone", desc := "()Ljava/lang/Object;" } : Jvm.MethodName)) ∈ lw_good := lw_in (List.mem_of_getElem? (i := 92) (by decide +kernel)) (by decide +kernel)
theorem wd_93 : (Jvm.Cond.sameMethod "[I" "java/lang/Object" "clone" "()Ljava/lang/Object;") ∈ lw_good := lw_in (List.mem_of_getElem? (i := 93) (by decide +kernel)) (by decide +kernel)
theorem wd_94 : (Jvm.Cond.native ({ cls := "java/lang/Object", name := "clone", desc := "()Ljava/lang/Object;" } : Jvm.MethodName)) ∈ lw_good := lw_in (List.mem_of_getElem? (i := 94) (by decide +kernel)) (by decide +kernel)
theorem wd_95 : (Jvm.Cond.instanceMethod ({ cls := "java/lang/Object", name := "clone", desc := "()Ljava/lang/Object;" } : Jvm.MethodName)) ∈ lw_good := lw_in (List.mem_of_getElem? (i := 95) (by decide +kernel)) (by decide +kernel)
theorem wd_96 : (Jvm.Cond.selects "[I" ({ cls := "[I", name := "clone", desc := "()Ljava/lang/Object;" } : Jvm.MethodName) ({ cls := "java/lang/Object", name := "clone", desc := "()Ljava/lang/Object;" } : Jvm.MethodName)) ∈ lw_good := lw_in (List.mem_of_getElem? (i := 96) (by decide +kernel)) (by decide +kernel)
theorem wd_98 : (Jvm.Cond.classLink "FlaringWords$News" (16 : Nat) "[I") ∈ lw_good := lw_in (List.mem_of_getElem? (i := 98) (by decide +kernel)) (by decide +kernel)
theorem wd_99 : (Jvm.Cond.fieldLink "FlaringWords$News" (20 : Nat) "FlaringWords$News" "terms" "[I") ∈ lw_good := lw_in (List.mem_of_getElem? (i := 99) (by decide +kernel)) (by decide +kernel)
theorem wd_100 : (Jvm.Cond.fieldLink "FlaringWords$News" (23 : Nat) "FlaringWords$News" "dayOfPiece" "[I") ∈ lw_good := lw_in (List.mem_of_getElem? (i := 100) (by decide +kernel)) (by decide +kernel)
theorem wd_101 : (Jvm.Cond.fieldLink "FlaringWords$News" (26 : Nat) "FlaringWords$News" "setOfPiece" "[I") ∈ lw_good := lw_in (List.mem_of_getElem? (i := 101) (by decide +kernel)) (by decide +kernel)
theorem wd_102 : (Jvm.Cond.fieldLink "FlaringWords$News" (29 : Nat) "FlaringWords$News" "dayCount" "I") ∈ lw_good := lw_in (List.mem_of_getElem? (i := 102) (by decide +kernel)) (by decide +kernel)
theorem wd_103 : (Jvm.Cond.fieldLink "FlaringWords$News" (33 : Nat) "FlaringWords$News" "count" "I") ∈ lw_good := lw_in (List.mem_of_getElem? (i := 103) (by decide +kernel)) (by decide +kernel)
theorem wd_104 : (Jvm.Cond.laysFinal "FlaringWords$News" "FlaringWords$News" "terms" "[I") ∈ lw_good := lw_in (List.mem_of_getElem? (i := 104) (by decide +kernel)) (by decide +kernel)
theorem wd_106 : (Jvm.Cond.laysFinal "FlaringWords$News" "FlaringWords$News" "dayOfPiece" "[I") ∈ lw_good := lw_in (List.mem_of_getElem? (i := 106) (by decide +kernel)) (by decide +kernel)
theorem wd_108 : (Jvm.Cond.laysFinal "FlaringWords$News" "FlaringWords$News" "setOfPiece" "[I") ∈ lw_good := lw_in (List.mem_of_getElem? (i := 108) (by decide +kernel)) (by decide +kernel)
theorem wd_110 : (Jvm.Cond.lays "FlaringWords$News" "FlaringWords$News" "dayCount" "I") ∈ lw_good := lw_in (List.mem_of_getElem? (i := 110) (by decide +kernel)) (by decide +kernel)
theorem wd_112 : (Jvm.Cond.lays "FlaringWords$News" "FlaringWords$News" "count" "I") ∈ lw_good := lw_in (List.mem_of_getElem? (i := 112) (by decide +kernel)) (by decide +kernel)
theorem wd_115 : (Jvm.Cond.arrayClass Jvm.ClassFile.FieldType.int) ∈ lw_good := lw_in (List.mem_of_getElem? (i := 115) (by decide +kernel)) (by decide +kernel)
theorem wd_116 : (Jvm.Cond.classLink "FlaringWords" (16 : Nat) "FlaringWords$Findings") ∈ lw_good := lw_in (List.mem_of_getElem? (i := 116) (by decide +kernel)) (by decide +kernel)
theorem wd_117 : (Jvm.Cond.instantiable "FlaringWords$Findings" (4 : Nat)) ∈ lw_good := lw_in (List.mem_of_getElem? (i := 117) (by decide +kernel)) (by decide +kernel)
theorem wd_119 : (Jvm.Cond.instanceMethod ({ cls := "FlaringWords$Findings", name := "<init>", desc := "()V" } : Jvm.MethodName)) ∈ lw_good := lw_in (List.mem_of_getElem? (i := 119) (by decide +kernel)) (by decide +kernel)
theorem wd_120 : (Jvm.Cond.code ({ cls := "FlaringWords$Findings", name := "<init>", desc := "()V" } : Jvm.MethodName) prog_4_method_1_code (1 : Nat) (Option.none : Option Jvm.ClassFile.FieldType)) ∈ lw_good := lw_in (List.mem_of_getElem? (i := 120) (by decide +kernel)) (by decide +kernel)
theorem wd_121 : (Jvm.Cond.methodLink "FlaringWords$Findings" (3 : Nat) ({ cls := "java/lang/Object", name := "<init>", desc := "()V" } : Jvm.MethodName)) ∈ lw_good := lw_in (List.mem_of_getElem? (i := 121) (by decide +kernel)) (by decide +kernel)
theorem wd_122 : (Jvm.Cond.classLink "FlaringWords$Findings" (9 : Nat) "FlaringWords$Tally") ∈ lw_good := lw_in (List.mem_of_getElem? (i := 122) (by decide +kernel)) (by decide +kernel)
theorem wd_123 : (Jvm.Cond.instantiable "FlaringWords$Tally" (8 : Nat)) ∈ lw_good := lw_in (List.mem_of_getElem? (i := 123) (by decide +kernel)) (by decide +kernel)
theorem wd_125 : (Jvm.Cond.instanceMethod ({ cls := "FlaringWords$Tally", name := "<init>", desc := "()V" } : Jvm.MethodName)) ∈ lw_good := lw_in (List.mem_of_getElem? (i := 125) (by decide +kernel)) (by decide +kernel)
theorem wd_126 : (Jvm.Cond.code ({ cls := "FlaringWords$Tally", name := "<init>", desc := "()V" } : Jvm.MethodName) prog_10_method_1_code (1 : Nat) (Option.none : Option Jvm.ClassFile.FieldType)) ∈ lw_good := lw_in (List.mem_of_getElem? (i := 126) (by decide +kernel)) (by decide +kernel)
theorem wd_127 : (Jvm.Cond.methodLink "FlaringWords$Tally" (3 : Nat) ({ cls := "java/lang/Object", name := "<init>", desc := "()V" } : Jvm.MethodName)) ∈ lw_good := lw_in (List.mem_of_getElem? (i := 127) (by decide +kernel)) (by decide +kernel)
theorem wd_128 : (Jvm.Cond.classLink "FlaringWords$Tally" (15 : Nat) "[[I") ∈ lw_good := lw_in (List.mem_of_getElem? (i := 128) (by decide +kernel)) (by decide +kernel)
theorem wd_130 : (Jvm.Cond.fieldLink "FlaringWords$Tally" (9 : Nat) "FlaringWords$Tally" "allOnDay" "[I") ∈ lw_good := lw_in (List.mem_of_getElem? (i := 130) (by decide +kernel)) (by decide +kernel)
theorem wd_131 : (Jvm.Cond.fieldLink "FlaringWords$Tally" (17 : Nat) "FlaringWords$Tally" "counts" "[[I") ∈ lw_good := lw_in (List.mem_of_getElem? (i := 131) (by decide +kernel)) (by decide +kernel)
theorem wd_132 : (Jvm.Cond.fieldLink "FlaringWords$Tally" (20 : Nat) "FlaringWords$Tally" "usual" "[[I") ∈ lw_good := lw_in (List.mem_of_getElem? (i := 132) (by decide +kernel)) (by decide +kernel)
theorem wd_133 : (Jvm.Cond.fieldLink "FlaringWords$Tally" (23 : Nat) "FlaringWords$Tally" "dayCount" "I") ∈ lw_good := lw_in (List.mem_of_getElem? (i := 133) (by decide +kernel)) (by decide +kernel)
theorem wd_134 : (Jvm.Cond.fieldLink "FlaringWords$Tally" (27 : Nat) "FlaringWords$Tally" "highest" "I") ∈ lw_good := lw_in (List.mem_of_getElem? (i := 134) (by decide +kernel)) (by decide +kernel)
theorem wd_135 : (Jvm.Cond.fieldLink "FlaringWords$Tally" (30 : Nat) "FlaringWords$Tally" "base" "I") ∈ lw_good := lw_in (List.mem_of_getElem? (i := 135) (by decide +kernel)) (by decide +kernel)
theorem wd_136 : (Jvm.Cond.fieldLink "FlaringWords$Tally" (33 : Nat) "FlaringWords$Tally" "step" "I") ∈ lw_good := lw_in (List.mem_of_getElem? (i := 136) (by decide +kernel)) (by decide +kernel)
theorem wd_137 : (Jvm.Cond.fieldLink "FlaringWords$Tally" (36 : Nat) "FlaringWords$Tally" "rise" "I") ∈ lw_good := lw_in (List.mem_of_getElem? (i := 137) (by decide +kernel)) (by decide +kernel)
theorem wd_138 : (Jvm.Cond.laysFinal "FlaringWords$Tally" "FlaringWords$Tally" "allOnDay" "[I") ∈ lw_good := lw_in (List.mem_of_getElem? (i := 138) (by decide +kernel)) (by decide +kernel)
theorem wd_140 : (Jvm.Cond.laysFinal "FlaringWords$Tally" "FlaringWords$Tally" "counts" "[[I") ∈ lw_good := lw_in (List.mem_of_getElem? (i := 140) (by decide +kernel)) (by decide +kernel)
theorem wd_142 : (Jvm.Cond.laysFinal "FlaringWords$Tally" "FlaringWords$Tally" "usual" "[[I") ∈ lw_good := lw_in (List.mem_of_getElem? (i := 142) (by decide +kernel)) (by decide +kernel)
theorem wd_144 : (Jvm.Cond.lays "FlaringWords$Tally" "FlaringWords$Tally" "dayCount" "I") ∈ lw_good := lw_in (List.mem_of_getElem? (i := 144) (by decide +kernel)) (by decide +kernel)
theorem wd_146 : (Jvm.Cond.lays "FlaringWords$Tally" "FlaringWords$Tally" "highest" "I") ∈ lw_good := lw_in (List.mem_of_getElem? (i := 146) (by decide +kernel)) (by decide +kernel)
theorem wd_148 : (Jvm.Cond.lays "FlaringWords$Tally" "FlaringWords$Tally" "base" "I") ∈ lw_good := lw_in (List.mem_of_getElem? (i := 148) (by decide +kernel)) (by decide +kernel)
theorem wd_150 : (Jvm.Cond.lays "FlaringWords$Tally" "FlaringWords$Tally" "step" "I") ∈ lw_good := lw_in (List.mem_of_getElem? (i := 150) (by decide +kernel)) (by decide +kernel)
theorem wd_152 : (Jvm.Cond.lays "FlaringWords$Tally" "FlaringWords$Tally" "rise" "I") ∈ lw_good := lw_in (List.mem_of_getElem? (i := 152) (by decide +kernel)) (by decide +kernel)
theorem wd_155 : (Jvm.Cond.classLink "FlaringWords$Findings" (18 : Nat) "FlaringWords$Levels") ∈ lw_good := lw_in (List.mem_of_getElem? (i := 155) (by decide +kernel)) (by decide +kernel)
theorem wd_156 : (Jvm.Cond.instantiable "FlaringWords$Levels" (3 : Nat)) ∈ lw_good := lw_in (List.mem_of_getElem? (i := 156) (by decide +kernel)) (by decide +kernel)
theorem wd_158 : (Jvm.Cond.instanceMethod ({ cls := "FlaringWords$Levels", name := "<init>", desc := "()V" } : Jvm.MethodName)) ∈ lw_good := lw_in (List.mem_of_getElem? (i := 158) (by decide +kernel)) (by decide +kernel)
theorem wd_159 : (Jvm.Cond.code ({ cls := "FlaringWords$Levels", name := "<init>", desc := "()V" } : Jvm.MethodName) prog_7_method_1_code (1 : Nat) (Option.none : Option Jvm.ClassFile.FieldType)) ∈ lw_good := lw_in (List.mem_of_getElem? (i := 159) (by decide +kernel)) (by decide +kernel)
theorem wd_160 : (Jvm.Cond.methodLink "FlaringWords$Levels" (3 : Nat) ({ cls := "java/lang/Object", name := "<init>", desc := "()V" } : Jvm.MethodName)) ∈ lw_good := lw_in (List.mem_of_getElem? (i := 160) (by decide +kernel)) (by decide +kernel)
theorem wd_161 : (Jvm.Cond.classLink "FlaringWords$Levels" (9 : Nat) "[[I") ∈ lw_good := lw_in (List.mem_of_getElem? (i := 161) (by decide +kernel)) (by decide +kernel)
theorem wd_162 : (Jvm.Cond.fieldLink "FlaringWords$Levels" (11 : Nat) "FlaringWords$Levels" "found" "[[I") ∈ lw_good := lw_in (List.mem_of_getElem? (i := 162) (by decide +kernel)) (by decide +kernel)
theorem wd_163 : (Jvm.Cond.fieldLink "FlaringWords$Levels" (16 : Nat) "FlaringWords$Levels" "costs" "[I") ∈ lw_good := lw_in (List.mem_of_getElem? (i := 163) (by decide +kernel)) (by decide +kernel)
theorem wd_164 : (Jvm.Cond.fieldLink "FlaringWords$Levels" (20 : Nat) "FlaringWords$Levels" "rest" "[[I") ∈ lw_good := lw_in (List.mem_of_getElem? (i := 164) (by decide +kernel)) (by decide +kernel)
theorem wd_165 : (Jvm.Cond.laysFinal "FlaringWords$Levels" "FlaringWords$Levels" "found" "[[I") ∈ lw_good := lw_in (List.mem_of_getElem? (i := 165) (by decide +kernel)) (by decide +kernel)
theorem wd_167 : (Jvm.Cond.laysFinal "FlaringWords$Levels" "FlaringWords$Levels" "costs" "[I") ∈ lw_good := lw_in (List.mem_of_getElem? (i := 167) (by decide +kernel)) (by decide +kernel)
theorem wd_169 : (Jvm.Cond.laysFinal "FlaringWords$Levels" "FlaringWords$Levels" "rest" "[[I") ∈ lw_good := lw_in (List.mem_of_getElem? (i := 169) (by decide +kernel)) (by decide +kernel)
theorem wd_172 : (Jvm.Cond.classLink "FlaringWords$Findings" (25 : Nat) "FlaringWords$Flares") ∈ lw_good := lw_in (List.mem_of_getElem? (i := 172) (by decide +kernel)) (by decide +kernel)
theorem wd_173 : (Jvm.Cond.instantiable "FlaringWords$Flares" (2 : Nat)) ∈ lw_good := lw_in (List.mem_of_getElem? (i := 173) (by decide +kernel)) (by decide +kernel)
theorem wd_175 : (Jvm.Cond.instanceMethod ({ cls := "FlaringWords$Flares", name := "<init>", desc := "()V" } : Jvm.MethodName)) ∈ lw_good := lw_in (List.mem_of_getElem? (i := 175) (by decide +kernel)) (by decide +kernel)
theorem wd_176 : (Jvm.Cond.code ({ cls := "FlaringWords$Flares", name := "<init>", desc := "()V" } : Jvm.MethodName) prog_5_method_1_code (1 : Nat) (Option.none : Option Jvm.ClassFile.FieldType)) ∈ lw_good := lw_in (List.mem_of_getElem? (i := 176) (by decide +kernel)) (by decide +kernel)
theorem wd_177 : (Jvm.Cond.methodLink "FlaringWords$Flares" (3 : Nat) ({ cls := "java/lang/Object", name := "<init>", desc := "()V" } : Jvm.MethodName)) ∈ lw_good := lw_in (List.mem_of_getElem? (i := 177) (by decide +kernel)) (by decide +kernel)
theorem wd_178 : (Jvm.Cond.classLink "FlaringWords$Flares" (11 : Nat) "[[I") ∈ lw_good := lw_in (List.mem_of_getElem? (i := 178) (by decide +kernel)) (by decide +kernel)
theorem wd_179 : (Jvm.Cond.fieldLink "FlaringWords$Flares" (13 : Nat) "FlaringWords$Flares" "facts" "[[I") ∈ lw_good := lw_in (List.mem_of_getElem? (i := 179) (by decide +kernel)) (by decide +kernel)
theorem wd_180 : (Jvm.Cond.fieldLink "FlaringWords$Flares" (16 : Nat) "FlaringWords$Flares" "number" "I") ∈ lw_good := lw_in (List.mem_of_getElem? (i := 180) (by decide +kernel)) (by decide +kernel)
theorem wd_181 : (Jvm.Cond.laysFinal "FlaringWords$Flares" "FlaringWords$Flares" "facts" "[[I") ∈ lw_good := lw_in (List.mem_of_getElem? (i := 181) (by decide +kernel)) (by decide +kernel)
theorem wd_183 : (Jvm.Cond.lays "FlaringWords$Flares" "FlaringWords$Flares" "number" "I") ∈ lw_good := lw_in (List.mem_of_getElem? (i := 183) (by decide +kernel)) (by decide +kernel)
theorem wd_186 : (Jvm.Cond.classLink "FlaringWords$Findings" (32 : Nat) "FlaringWords$Stories") ∈ lw_good := lw_in (List.mem_of_getElem? (i := 186) (by decide +kernel)) (by decide +kernel)
theorem wd_187 : (Jvm.Cond.instantiable "FlaringWords$Stories" (3 : Nat)) ∈ lw_good := lw_in (List.mem_of_getElem? (i := 187) (by decide +kernel)) (by decide +kernel)
theorem wd_189 : (Jvm.Cond.instanceMethod ({ cls := "FlaringWords$Stories", name := "<init>", desc := "()V" } : Jvm.MethodName)) ∈ lw_good := lw_in (List.mem_of_getElem? (i := 189) (by decide +kernel)) (by decide +kernel)
theorem wd_190 : (Jvm.Cond.code ({ cls := "FlaringWords$Stories", name := "<init>", desc := "()V" } : Jvm.MethodName) prog_9_method_1_code (1 : Nat) (Option.none : Option Jvm.ClassFile.FieldType)) ∈ lw_good := lw_in (List.mem_of_getElem? (i := 190) (by decide +kernel)) (by decide +kernel)
theorem wd_191 : (Jvm.Cond.methodLink "FlaringWords$Stories" (3 : Nat) ({ cls := "java/lang/Object", name := "<init>", desc := "()V" } : Jvm.MethodName)) ∈ lw_good := lw_in (List.mem_of_getElem? (i := 191) (by decide +kernel)) (by decide +kernel)
theorem wd_192 : (Jvm.Cond.classLink "FlaringWords$Stories" (17 : Nat) "[[I") ∈ lw_good := lw_in (List.mem_of_getElem? (i := 192) (by decide +kernel)) (by decide +kernel)
theorem wd_193 : (Jvm.Cond.fieldLink "FlaringWords$Stories" (11 : Nat) "FlaringWords$Stories" "heaps" "[I") ∈ lw_good := lw_in (List.mem_of_getElem? (i := 193) (by decide +kernel)) (by decide +kernel)
theorem wd_194 : (Jvm.Cond.fieldLink "FlaringWords$Stories" (19 : Nat) "FlaringWords$Stories" "facts" "[[I") ∈ lw_good := lw_in (List.mem_of_getElem? (i := 194) (by decide +kernel)) (by decide +kernel)
theorem wd_195 : (Jvm.Cond.fieldLink "FlaringWords$Stories" (22 : Nat) "FlaringWords$Stories" "number" "I") ∈ lw_good := lw_in (List.mem_of_getElem? (i := 195) (by decide +kernel)) (by decide +kernel)
theorem wd_196 : (Jvm.Cond.laysFinal "FlaringWords$Stories" "FlaringWords$Stories" "heaps" "[I") ∈ lw_good := lw_in (List.mem_of_getElem? (i := 196) (by decide +kernel)) (by decide +kernel)
theorem wd_198 : (Jvm.Cond.laysFinal "FlaringWords$Stories" "FlaringWords$Stories" "facts" "[[I") ∈ lw_good := lw_in (List.mem_of_getElem? (i := 198) (by decide +kernel)) (by decide +kernel)
theorem wd_200 : (Jvm.Cond.lays "FlaringWords$Stories" "FlaringWords$Stories" "number" "I") ∈ lw_good := lw_in (List.mem_of_getElem? (i := 200) (by decide +kernel)) (by decide +kernel)
theorem wd_203 : (Jvm.Cond.fieldLink "FlaringWords$Findings" (12 : Nat) "FlaringWords$Findings" "tally" "LFlaringWords$Tally;") ∈ lw_good := lw_in (List.mem_of_getElem? (i := 203) (by decide +kernel)) (by decide +kernel)
theorem wd_204 : (Jvm.Cond.fieldLink "FlaringWords" (165 : Nat) "FlaringWords$Findings" "tally" "LFlaringWords$Tally;") ∈ lw_good := lw_in (List.mem_of_getElem? (i := 204) (by decide +kernel)) (by decide +kernel)
theorem wd_205 : (Jvm.Cond.fieldLink "FlaringWords$Findings" (21 : Nat) "FlaringWords$Findings" "levels" "LFlaringWords$Levels;") ∈ lw_good := lw_in (List.mem_of_getElem? (i := 205) (by decide +kernel)) (by decide +kernel)
theorem wd_206 : (Jvm.Cond.fieldLink "FlaringWords" (143 : Nat) "FlaringWords$Findings" "levels" "LFlaringWords$Levels;") ∈ lw_good := lw_in (List.mem_of_getElem? (i := 206) (by decide +kernel)) (by decide +kernel)
theorem wd_207 : (Jvm.Cond.fieldLink "FlaringWords$Findings" (28 : Nat) "FlaringWords$Findings" "flares" "LFlaringWords$Flares;") ∈ lw_good := lw_in (List.mem_of_getElem? (i := 207) (by decide +kernel)) (by decide +kernel)
theorem wd_208 : (Jvm.Cond.fieldLink "FlaringWords" (112 : Nat) "FlaringWords$Findings" "flares" "LFlaringWords$Flares;") ∈ lw_good := lw_in (List.mem_of_getElem? (i := 208) (by decide +kernel)) (by decide +kernel)
theorem wd_209 : (Jvm.Cond.fieldLink "FlaringWords$Findings" (35 : Nat) "FlaringWords$Findings" "stories" "LFlaringWords$Stories;") ∈ lw_good := lw_in (List.mem_of_getElem? (i := 209) (by decide +kernel)) (by decide +kernel)
theorem wd_210 : (Jvm.Cond.fieldLink "FlaringWords" (121 : Nat) "FlaringWords$Findings" "stories" "LFlaringWords$Stories;") ∈ lw_good := lw_in (List.mem_of_getElem? (i := 210) (by decide +kernel)) (by decide +kernel)
theorem wd_211 : (Jvm.Cond.laysFinal "FlaringWords$Findings" "FlaringWords$Findings" "tally" "LFlaringWords$Tally;") ∈ lw_good := lw_in (List.mem_of_getElem? (i := 211) (by decide +kernel)) (by decide +kernel)
theorem wd_213 : (Jvm.Cond.laysFinal "FlaringWords$Findings" "FlaringWords$Findings" "levels" "LFlaringWords$Levels;") ∈ lw_good := lw_in (List.mem_of_getElem? (i := 213) (by decide +kernel)) (by decide +kernel)
theorem wd_215 : (Jvm.Cond.laysFinal "FlaringWords$Findings" "FlaringWords$Findings" "flares" "LFlaringWords$Flares;") ∈ lw_good := lw_in (List.mem_of_getElem? (i := 215) (by decide +kernel)) (by decide +kernel)
theorem wd_217 : (Jvm.Cond.laysFinal "FlaringWords$Findings" "FlaringWords$Findings" "stories" "LFlaringWords$Stories;") ∈ lw_good := lw_in (List.mem_of_getElem? (i := 217) (by decide +kernel)) (by decide +kernel)
theorem wd_220 : (Jvm.Cond.classLink "FlaringWords" (23 : Nat) "FlaringWords$Text") ∈ lw_good := lw_in (List.mem_of_getElem? (i := 220) (by decide +kernel)) (by decide +kernel)
theorem wd_221 : (Jvm.Cond.instantiable "FlaringWords$Text" (6 : Nat)) ∈ lw_good := lw_in (List.mem_of_getElem? (i := 221) (by decide +kernel)) (by decide +kernel)
theorem wd_223 : (Jvm.Cond.instanceMethod ({ cls := "FlaringWords$Text", name := "<init>", desc := "()V" } : Jvm.MethodName)) ∈ lw_good := lw_in (List.mem_of_getElem? (i := 223) (by decide +kernel)) (by decide +kernel)
theorem wd_224 : (Jvm.Cond.code ({ cls := "FlaringWords$Text", name := "<init>", desc := "()V" } : Jvm.MethodName) prog_11_method_1_code (1 : Nat) (Option.none : Option Jvm.ClassFile.FieldType)) ∈ lw_good := lw_in (List.mem_of_getElem? (i := 224) (by decide +kernel)) (by decide +kernel)
theorem wd_225 : (Jvm.Cond.methodLink "FlaringWords$Text" (5 : Nat) ({ cls := "java/lang/Object", name := "<init>", desc := "()V" } : Jvm.MethodName)) ∈ lw_good := lw_in (List.mem_of_getElem? (i := 225) (by decide +kernel)) (by decide +kernel)
theorem wd_226 : (Jvm.Cond.fieldLink "FlaringWords$Text" (11 : Nat) "FlaringWords$Text" "letters" "[I") ∈ lw_good := lw_in (List.mem_of_getElem? (i := 226) (by decide +kernel)) (by decide +kernel)
theorem wd_227 : (Jvm.Cond.fieldLink "FlaringWords$Text" (15 : Nat) "FlaringWords$Text" "daysRead" "[I") ∈ lw_good := lw_in (List.mem_of_getElem? (i := 227) (by decide +kernel)) (by decide +kernel)
theorem wd_228 : (Jvm.Cond.fieldLink "FlaringWords$Text" (18 : Nat) "FlaringWords$Text" "setsRead" "[I") ∈ lw_good := lw_in (List.mem_of_getElem? (i := 228) (by decide +kernel)) (by decide +kernel)
theorem wd_229 : (Jvm.Cond.fieldLink "FlaringWords$Text" (21 : Nat) "FlaringWords$Text" "length" "I") ∈ lw_good := lw_in (List.mem_of_getElem? (i := 229) (by decide +kernel)) (by decide +kernel)
theorem wd_230 : (Jvm.Cond.fieldLink "FlaringWords$Text" (25 : Nat) "FlaringWords$Text" "readCount" "I") ∈ lw_good := lw_in (List.mem_of_getElem? (i := 230) (by decide +kernel)) (by decide +kernel)
theorem wd_231 : (Jvm.Cond.fieldLink "FlaringWords$Text" (28 : Nat) "FlaringWords$Text" "place" "I") ∈ lw_good := lw_in (List.mem_of_getElem? (i := 231) (by decide +kernel)) (by decide +kernel)
theorem wd_232 : (Jvm.Cond.laysFinal "FlaringWords$Text" "FlaringWords$Text" "letters" "[I") ∈ lw_good := lw_in (List.mem_of_getElem? (i := 232) (by decide +kernel)) (by decide +kernel)
theorem wd_234 : (Jvm.Cond.laysFinal "FlaringWords$Text" "FlaringWords$Text" "daysRead" "[I") ∈ lw_good := lw_in (List.mem_of_getElem? (i := 234) (by decide +kernel)) (by decide +kernel)
theorem wd_236 : (Jvm.Cond.laysFinal "FlaringWords$Text" "FlaringWords$Text" "setsRead" "[I") ∈ lw_good := lw_in (List.mem_of_getElem? (i := 236) (by decide +kernel)) (by decide +kernel)
theorem wd_238 : (Jvm.Cond.lays "FlaringWords$Text" "FlaringWords$Text" "length" "I") ∈ lw_good := lw_in (List.mem_of_getElem? (i := 238) (by decide +kernel)) (by decide +kernel)
theorem wd_240 : (Jvm.Cond.lays "FlaringWords$Text" "FlaringWords$Text" "readCount" "I") ∈ lw_good := lw_in (List.mem_of_getElem? (i := 240) (by decide +kernel)) (by decide +kernel)
theorem wd_242 : (Jvm.Cond.lays "FlaringWords$Text" "FlaringWords$Text" "place" "I") ∈ lw_good := lw_in (List.mem_of_getElem? (i := 242) (by decide +kernel)) (by decide +kernel)
theorem wd_245 : (Jvm.Cond.classLink "FlaringWords" (30 : Nat) "FlaringWords$Deeds") ∈ lw_good := lw_in (List.mem_of_getElem? (i := 245) (by decide +kernel)) (by decide +kernel)
theorem wd_246 : (Jvm.Cond.instantiable "FlaringWords$Deeds" (2 : Nat)) ∈ lw_good := lw_in (List.mem_of_getElem? (i := 246) (by decide +kernel)) (by decide +kernel)
theorem wd_247 : (Jvm.Cond.methodLink "FlaringWords" (32 : Nat) ({ cls := "FlaringWords$Deeds", name := "<init>", desc := "()V" } : Jvm.MethodName)) ∈ lw_good := lw_in (List.mem_of_getElem? (i := 247) (by decide +kernel)) (by decide +kernel)
theorem wd_248 : (Jvm.Cond.instanceMethod ({ cls := "FlaringWords$Deeds", name := "<init>", desc := "()V" } : Jvm.MethodName)) ∈ lw_good := lw_in (List.mem_of_getElem? (i := 248) (by decide +kernel)) (by decide +kernel)
theorem wd_249 : (Jvm.Cond.code ({ cls := "FlaringWords$Deeds", name := "<init>", desc := "()V" } : Jvm.MethodName) prog_3_method_1_code (2 : Nat) (Option.none : Option Jvm.ClassFile.FieldType)) ∈ lw_good := lw_in (List.mem_of_getElem? (i := 249) (by decide +kernel)) (by decide +kernel)
theorem wd_250 : (Jvm.Cond.methodLink "FlaringWords$Deeds" (3 : Nat) ({ cls := "java/lang/Object", name := "<init>", desc := "()V" } : Jvm.MethodName)) ∈ lw_good := lw_in (List.mem_of_getElem? (i := 250) (by decide +kernel)) (by decide +kernel)
theorem wd_251 : (Jvm.Cond.classLink "FlaringWords$Deeds" (9 : Nat) "FlaringWords$News") ∈ lw_good := lw_in (List.mem_of_getElem? (i := 251) (by decide +kernel)) (by decide +kernel)
theorem wd_254 : (Jvm.Cond.fieldLink "FlaringWords$Deeds" (11 : Nat) "FlaringWords$Deeds" "ahead" "[LFlaringWords$News;") ∈ lw_good := lw_in (List.mem_of_getElem? (i := 254) (by decide +kernel)) (by decide +kernel)
theorem wd_255 : (Jvm.Cond.fieldLink "FlaringWords$Deeds" (17 : Nat) "FlaringWords$Deeds" "number" "I") ∈ lw_good := lw_in (List.mem_of_getElem? (i := 255) (by decide +kernel)) (by decide +kernel)
theorem wd_256 : (Jvm.Cond.laysFinal "FlaringWords$Deeds" "FlaringWords$Deeds" "ahead" "[LFlaringWords$News;") ∈ lw_good := lw_in (List.mem_of_getElem? (i := 256) (by decide +kernel)) (by decide +kernel)
theorem wd_258 : (Jvm.Cond.lays "FlaringWords$Deeds" "FlaringWords$Deeds" "number" "I") ∈ lw_good := lw_in (List.mem_of_getElem? (i := 258) (by decide +kernel)) (by decide +kernel)
theorem wd_261 : (Jvm.Cond.classLink "FlaringWords" (37 : Nat) "FlaringWords$Book") ∈ lw_good := lw_in (List.mem_of_getElem? (i := 261) (by decide +kernel)) (by decide +kernel)
theorem wd_262 : (Jvm.Cond.instantiable "FlaringWords$Book" (4 : Nat)) ∈ lw_good := lw_in (List.mem_of_getElem? (i := 262) (by decide +kernel)) (by decide +kernel)
theorem wd_264 : (Jvm.Cond.instanceMethod ({ cls := "FlaringWords$Book", name := "<init>", desc := "()V" } : Jvm.MethodName)) ∈ lw_good := lw_in (List.mem_of_getElem? (i := 264) (by decide +kernel)) (by decide +kernel)
theorem wd_265 : (Jvm.Cond.code ({ cls := "FlaringWords$Book", name := "<init>", desc := "()V" } : Jvm.MethodName) prog_2_method_1_code (1 : Nat) (Option.none : Option Jvm.ClassFile.FieldType)) ∈ lw_good := lw_in (List.mem_of_getElem? (i := 265) (by decide +kernel)) (by decide +kernel)
theorem wd_266 : (Jvm.Cond.methodLink "FlaringWords$Book" (3 : Nat) ({ cls := "java/lang/Object", name := "<init>", desc := "()V" } : Jvm.MethodName)) ∈ lw_good := lw_in (List.mem_of_getElem? (i := 266) (by decide +kernel)) (by decide +kernel)
theorem wd_267 : (Jvm.Cond.fieldLink "FlaringWords$Book" (11 : Nat) "FlaringWords$Book" "words" "[I") ∈ lw_good := lw_in (List.mem_of_getElem? (i := 267) (by decide +kernel)) (by decide +kernel)
theorem wd_268 : (Jvm.Cond.fieldLink "FlaringWords$Book" (15 : Nat) "FlaringWords$Book" "daysTold" "[I") ∈ lw_good := lw_in (List.mem_of_getElem? (i := 268) (by decide +kernel)) (by decide +kernel)
theorem wd_269 : (Jvm.Cond.fieldLink "FlaringWords$Book" (18 : Nat) "FlaringWords$Book" "levelsTold" "[I") ∈ lw_good := lw_in (List.mem_of_getElem? (i := 269) (by decide +kernel)) (by decide +kernel)
theorem wd_270 : (Jvm.Cond.fieldLink "FlaringWords$Book" (21 : Nat) "FlaringWords$Book" "entries" "I") ∈ lw_good := lw_in (List.mem_of_getElem? (i := 270) (by decide +kernel)) (by decide +kernel)
theorem wd_271 : (Jvm.Cond.laysFinal "FlaringWords$Book" "FlaringWords$Book" "words" "[I") ∈ lw_good := lw_in (List.mem_of_getElem? (i := 271) (by decide +kernel)) (by decide +kernel)
theorem wd_273 : (Jvm.Cond.laysFinal "FlaringWords$Book" "FlaringWords$Book" "daysTold" "[I") ∈ lw_good := lw_in (List.mem_of_getElem? (i := 273) (by decide +kernel)) (by decide +kernel)
theorem wd_275 : (Jvm.Cond.laysFinal "FlaringWords$Book" "FlaringWords$Book" "levelsTold" "[I") ∈ lw_good := lw_in (List.mem_of_getElem? (i := 275) (by decide +kernel)) (by decide +kernel)
theorem wd_277 : (Jvm.Cond.lays "FlaringWords$Book" "FlaringWords$Book" "entries" "I") ∈ lw_good := lw_in (List.mem_of_getElem? (i := 277) (by decide +kernel)) (by decide +kernel)
theorem wd_280 : (Jvm.Cond.classLink "FlaringWords" (44 : Nat) "FlaringWords$Image") ∈ lw_good := lw_in (List.mem_of_getElem? (i := 280) (by decide +kernel)) (by decide +kernel)
theorem wd_282 : (Jvm.Cond.instantiable "FlaringWords$Image" (3 : Nat)) ∈ lw_good := lw_in (List.mem_of_getElem? (i := 282) (by decide +kernel)) (by decide +kernel)
theorem wd_284 : (Jvm.Cond.instanceMethod ({ cls := "FlaringWords$Image", name := "<init>", desc := "()V" } : Jvm.MethodName)) ∈ lw_good := lw_in (List.mem_of_getElem? (i := 284) (by decide +kernel)) (by decide +kernel)
theorem wd_285 : (Jvm.Cond.code ({ cls := "FlaringWords$Image", name := "<init>", desc := "()V" } : Jvm.MethodName) prog_6_method_1_code (1 : Nat) (Option.none : Option Jvm.ClassFile.FieldType)) ∈ lw_good := lw_in (List.mem_of_getElem? (i := 285) (by decide +kernel)) (by decide +kernel)
theorem wd_286 : (Jvm.Cond.methodLink "FlaringWords$Image" (1 : Nat) ({ cls := "java/lang/Object", name := "<init>", desc := "()V" } : Jvm.MethodName)) ∈ lw_good := lw_in (List.mem_of_getElem? (i := 286) (by decide +kernel)) (by decide +kernel)
theorem wd_287 : (Jvm.Cond.classLink "FlaringWords$Image" (7 : Nat) "FlaringWords$News") ∈ lw_good := lw_in (List.mem_of_getElem? (i := 287) (by decide +kernel)) (by decide +kernel)
theorem wd_289 : (Jvm.Cond.fieldLink "FlaringWords$Image" (10 : Nat) "FlaringWords$Image" "kept" "LFlaringWords$News;") ∈ lw_good := lw_in (List.mem_of_getElem? (i := 289) (by decide +kernel)) (by decide +kernel)
theorem wd_290 : (Jvm.Cond.fieldLink "FlaringWords$Image" (16 : Nat) "FlaringWords$Image" "keptSeed" "I") ∈ lw_good := lw_in (List.mem_of_getElem? (i := 290) (by decide +kernel)) (by decide +kernel)
theorem wd_291 : (Jvm.Cond.fieldLink "FlaringWords$Image" (20 : Nat) "FlaringWords$Image" "held" "Z") ∈ lw_good := lw_in (List.mem_of_getElem? (i := 291) (by decide +kernel)) (by decide +kernel)
theorem wd_292 : (Jvm.Cond.laysFinal "FlaringWords$Image" "FlaringWords$Image" "kept" "LFlaringWords$News;") ∈ lw_good := lw_in (List.mem_of_getElem? (i := 292) (by decide +kernel)) (by decide +kernel)
theorem wd_294 : (Jvm.Cond.lays "FlaringWords$Image" "FlaringWords$Image" "keptSeed" "I") ∈ lw_good := lw_in (List.mem_of_getElem? (i := 294) (by decide +kernel)) (by decide +kernel)
theorem wd_296 : (Jvm.Cond.lays "FlaringWords$Image" "FlaringWords$Image" "held" "Z") ∈ lw_good := lw_in (List.mem_of_getElem? (i := 296) (by decide +kernel)) (by decide +kernel)
theorem wd_299 : (Jvm.Cond.fieldLink "FlaringWords" (10 : Nat) "FlaringWords" "news" "LFlaringWords$News;") ∈ lw_good := lw_in (List.mem_of_getElem? (i := 299) (by decide +kernel)) (by decide +kernel)
theorem wd_300 : (Jvm.Cond.fieldLink "FlaringWords" (19 : Nat) "FlaringWords" "findings" "LFlaringWords$Findings;") ∈ lw_good := lw_in (List.mem_of_getElem? (i := 300) (by decide +kernel)) (by decide +kernel)
theorem wd_301 : (Jvm.Cond.fieldLink "FlaringWords" (26 : Nat) "FlaringWords" "text" "LFlaringWords$Text;") ∈ lw_good := lw_in (List.mem_of_getElem? (i := 301) (by decide +kernel)) (by decide +kernel)
theorem wd_302 : (Jvm.Cond.fieldLink "FlaringWords" (33 : Nat) "FlaringWords" "deeds" "LFlaringWords$Deeds;") ∈ lw_good := lw_in (List.mem_of_getElem? (i := 302) (by decide +kernel)) (by decide +kernel)
theorem wd_303 : (Jvm.Cond.fieldLink "FlaringWords" (40 : Nat) "FlaringWords" "book" "LFlaringWords$Book;") ∈ lw_good := lw_in (List.mem_of_getElem? (i := 303) (by decide +kernel)) (by decide +kernel)
theorem wd_304 : (Jvm.Cond.fieldLink "FlaringWords" (46 : Nat) "FlaringWords" "images" "[LFlaringWords$Image;") ∈ lw_good := lw_in (List.mem_of_getElem? (i := 304) (by decide +kernel)) (by decide +kernel)
theorem wd_305 : (Jvm.Cond.fieldLink "FlaringWords" (50 : Nat) "FlaringWords" "theSeed" "I") ∈ lw_good := lw_in (List.mem_of_getElem? (i := 305) (by decide +kernel)) (by decide +kernel)
theorem wd_306 : (Jvm.Cond.fieldLink "FlaringWords" (54 : Nat) "FlaringWords" "faultPlace" "I") ∈ lw_good := lw_in (List.mem_of_getElem? (i := 306) (by decide +kernel)) (by decide +kernel)
theorem wd_307 : (Jvm.Cond.fieldLink "FlaringWords" (57 : Nat) "FlaringWords" "stale" "Z") ∈ lw_good := lw_in (List.mem_of_getElem? (i := 307) (by decide +kernel)) (by decide +kernel)
theorem wd_308 : (Jvm.Cond.laysFinal "FlaringWords" "FlaringWords" "news" "LFlaringWords$News;") ∈ lw_good := lw_in (List.mem_of_getElem? (i := 308) (by decide +kernel)) (by decide +kernel)
theorem wd_310 : (Jvm.Cond.laysFinal "FlaringWords" "FlaringWords" "findings" "LFlaringWords$Findings;") ∈ lw_good := lw_in (List.mem_of_getElem? (i := 310) (by decide +kernel)) (by decide +kernel)
theorem wd_312 : (Jvm.Cond.laysFinal "FlaringWords" "FlaringWords" "text" "LFlaringWords$Text;") ∈ lw_good := lw_in (List.mem_of_getElem? (i := 312) (by decide +kernel)) (by decide +kernel)
theorem wd_314 : (Jvm.Cond.laysFinal "FlaringWords" "FlaringWords" "deeds" "LFlaringWords$Deeds;") ∈ lw_good := lw_in (List.mem_of_getElem? (i := 314) (by decide +kernel)) (by decide +kernel)
theorem wd_316 : (Jvm.Cond.laysFinal "FlaringWords" "FlaringWords" "book" "LFlaringWords$Book;") ∈ lw_good := lw_in (List.mem_of_getElem? (i := 316) (by decide +kernel)) (by decide +kernel)
theorem wd_318 : (Jvm.Cond.laysFinal "FlaringWords" "FlaringWords" "images" "[LFlaringWords$Image;") ∈ lw_good := lw_in (List.mem_of_getElem? (i := 318) (by decide +kernel)) (by decide +kernel)
theorem wd_320 : (Jvm.Cond.lays "FlaringWords" "FlaringWords" "theSeed" "I") ∈ lw_good := lw_in (List.mem_of_getElem? (i := 320) (by decide +kernel)) (by decide +kernel)
theorem wd_322 : (Jvm.Cond.lays "FlaringWords" "FlaringWords" "faultPlace" "I") ∈ lw_good := lw_in (List.mem_of_getElem? (i := 322) (by decide +kernel)) (by decide +kernel)
theorem wd_324 : (Jvm.Cond.lays "FlaringWords" "FlaringWords" "stale" "Z") ∈ lw_good := lw_in (List.mem_of_getElem? (i := 324) (by decide +kernel)) (by decide +kernel)
theorem wd_330 : (Jvm.Cond.code ({ cls := "FlaringWords", name := "feed", desc := "(I)I" } : Jvm.MethodName) prog_1_method_2_code (2 : Nat) (Option.some Jvm.ClassFile.FieldType.int)) ∈ lw_good := lw_in (List.mem_of_getElem? (i := 330) (by decide +kernel)) (by decide +kernel)
theorem wd_331 : (Jvm.Cond.constant "FlaringWords" (62 : Nat) (-1000000002 : Int32)) ∈ lw_good := lw_in (List.mem_of_getElem? (i := 331) (by decide +kernel)) (by decide +kernel)
theorem wd_332 : (Jvm.Cond.methodLink "FlaringWords" (63 : Nat) ({ cls := "FlaringWords$Text", name := "hasRoom", desc := "()Z" } : Jvm.MethodName)) ∈ lw_good := lw_in (List.mem_of_getElem? (i := 332) (by decide +kernel)) (by decide +kernel)
theorem wd_333 : (Jvm.Cond.instanceMethod ({ cls := "FlaringWords$Text", name := "hasRoom", desc := "()Z" } : Jvm.MethodName)) ∈ lw_good := lw_in (List.mem_of_getElem? (i := 333) (by decide +kernel)) (by decide +kernel)
theorem wd_334 : (Jvm.Cond.selects "FlaringWords$Text" ({ cls := "FlaringWords$Text", name := "hasRoom", desc := "()Z" } : Jvm.MethodName) ({ cls := "FlaringWords$Text", name := "hasRoom", desc := "()Z" } : Jvm.MethodName)) ∈ lw_good := lw_in (List.mem_of_getElem? (i := 334) (by decide +kernel)) (by decide +kernel)
theorem wd_335 : (Jvm.Cond.code ({ cls := "FlaringWords$Text", name := "hasRoom", desc := "()Z" } : Jvm.MethodName) prog_11_method_2_code (1 : Nat) (Option.some Jvm.ClassFile.FieldType.boolean)) ∈ lw_good := lw_in (List.mem_of_getElem? (i := 335) (by decide +kernel)) (by decide +kernel)
theorem wd_336 : (Jvm.Cond.constant "FlaringWords" (67 : Nat) (-1000000004 : Int32)) ∈ lw_good := lw_in (List.mem_of_getElem? (i := 336) (by decide +kernel)) (by decide +kernel)
theorem wd_337 : (Jvm.Cond.methodLink "FlaringWords" (68 : Nat) ({ cls := "FlaringWords$Text", name := "add", desc := "(I)V" } : Jvm.MethodName)) ∈ lw_good := lw_in (List.mem_of_getElem? (i := 337) (by decide +kernel)) (by decide +kernel)
theorem wd_338 : (Jvm.Cond.instanceMethod ({ cls := "FlaringWords$Text", name := "add", desc := "(I)V" } : Jvm.MethodName)) ∈ lw_good := lw_in (List.mem_of_getElem? (i := 338) (by decide +kernel)) (by decide +kernel)
theorem wd_339 : (Jvm.Cond.selects "FlaringWords$Text" ({ cls := "FlaringWords$Text", name := "add", desc := "(I)V" } : Jvm.MethodName) ({ cls := "FlaringWords$Text", name := "add", desc := "(I)V" } : Jvm.MethodName)) ∈ lw_good := lw_in (List.mem_of_getElem? (i := 339) (by decide +kernel)) (by decide +kernel)
theorem wd_340 : (Jvm.Cond.code ({ cls := "FlaringWords$Text", name := "add", desc := "(I)V" } : Jvm.MethodName) prog_11_method_4_code (2 : Nat) (Option.none : Option Jvm.ClassFile.FieldType)) ∈ lw_good := lw_in (List.mem_of_getElem? (i := 340) (by decide +kernel)) (by decide +kernel)
theorem wd_341 : (Jvm.Cond.methodLink "FlaringWords$Text" (31 : Nat) ({ cls := "FlaringWords$Text", name := "hasRoom", desc := "()Z" } : Jvm.MethodName)) ∈ lw_good := lw_in (List.mem_of_getElem? (i := 341) (by decide +kernel)) (by decide +kernel)
theorem wd_342 : (Jvm.Cond.methodLink "FlaringWords" (72 : Nat) ({ cls := "FlaringWords$Text", name := "length", desc := "()I" } : Jvm.MethodName)) ∈ lw_good := lw_in (List.mem_of_getElem? (i := 342) (by decide +kernel)) (by decide +kernel)
theorem wd_343 : (Jvm.Cond.instanceMethod ({ cls := "FlaringWords$Text", name := "length", desc := "()I" } : Jvm.MethodName)) ∈ lw_good := lw_in (List.mem_of_getElem? (i := 343) (by decide +kernel)) (by decide +kernel)
theorem wd_344 : (Jvm.Cond.selects "FlaringWords$Text" ({ cls := "FlaringWords$Text", name := "length", desc := "()I" } : Jvm.MethodName) ({ cls := "FlaringWords$Text", name := "length", desc := "()I" } : Jvm.MethodName)) ∈ lw_good := lw_in (List.mem_of_getElem? (i := 344) (by decide +kernel)) (by decide +kernel)
theorem wd_345 : (Jvm.Cond.code ({ cls := "FlaringWords$Text", name := "length", desc := "()I" } : Jvm.MethodName) prog_11_method_3_code (1 : Nat) (Option.some Jvm.ClassFile.FieldType.int)) ∈ lw_good := lw_in (List.mem_of_getElem? (i := 345) (by decide +kernel)) (by decide +kernel)
theorem wd_349 : (Jvm.Cond.code ({ cls := "FlaringWords", name := "pieces", desc := "()I" } : Jvm.MethodName) prog_1_method_3_code (3 : Nat) (Option.some Jvm.ClassFile.FieldType.int)) ∈ lw_good := lw_in (List.mem_of_getElem? (i := 349) (by decide +kernel)) (by decide +kernel)
theorem wd_350 : (Jvm.Cond.methodLink "FlaringWords" (76 : Nat) ({ cls := "FlaringWords$News", name := "dayCount", desc := "()I" } : Jvm.MethodName)) ∈ lw_good := lw_in (List.mem_of_getElem? (i := 350) (by decide +kernel)) (by decide +kernel)
theorem wd_351 : (Jvm.Cond.instanceMethod ({ cls := "FlaringWords$News", name := "dayCount", desc := "()I" } : Jvm.MethodName)) ∈ lw_good := lw_in (List.mem_of_getElem? (i := 351) (by decide +kernel)) (by decide +kernel)
theorem wd_352 : (Jvm.Cond.selects "FlaringWords$News" ({ cls := "FlaringWords$News", name := "dayCount", desc := "()I" } : Jvm.MethodName) ({ cls := "FlaringWords$News", name := "dayCount", desc := "()I" } : Jvm.MethodName)) ∈ lw_good := lw_in (List.mem_of_getElem? (i := 352) (by decide +kernel)) (by decide +kernel)
theorem wd_353 : (Jvm.Cond.code ({ cls := "FlaringWords$News", name := "dayCount", desc := "()I" } : Jvm.MethodName) prog_8_method_11_code (1 : Nat) (Option.some Jvm.ClassFile.FieldType.int)) ∈ lw_good := lw_in (List.mem_of_getElem? (i := 353) (by decide +kernel)) (by decide +kernel)
theorem wd_354 : (Jvm.Cond.methodLink "FlaringWords" (79 : Nat) ({ cls := "FlaringWords$News", name := "count", desc := "()I" } : Jvm.MethodName)) ∈ lw_good := lw_in (List.mem_of_getElem? (i := 354) (by decide +kernel)) (by decide +kernel)
theorem wd_355 : (Jvm.Cond.instanceMethod ({ cls := "FlaringWords$News", name := "count", desc := "()I" } : Jvm.MethodName)) ∈ lw_good := lw_in (List.mem_of_getElem? (i := 355) (by decide +kernel)) (by decide +kernel)
theorem wd_356 : (Jvm.Cond.selects "FlaringWords$News" ({ cls := "FlaringWords$News", name := "count", desc := "()I" } : Jvm.MethodName) ({ cls := "FlaringWords$News", name := "count", desc := "()I" } : Jvm.MethodName)) ∈ lw_good := lw_in (List.mem_of_getElem? (i := 356) (by decide +kernel)) (by decide +kernel)
theorem wd_357 : (Jvm.Cond.code ({ cls := "FlaringWords$News", name := "count", desc := "()I" } : Jvm.MethodName) prog_8_method_14_code (1 : Nat) (Option.some Jvm.ClassFile.FieldType.int)) ∈ lw_good := lw_in (List.mem_of_getElem? (i := 357) (by decide +kernel)) (by decide +kernel)
theorem wd_358 : (Jvm.Cond.methodLink "FlaringWords" (82 : Nat) ({ cls := "FlaringWords$Text", name := "read", desc := "(II)I" } : Jvm.MethodName)) ∈ lw_good := lw_in (List.mem_of_getElem? (i := 358) (by decide +kernel)) (by decide +kernel)
theorem wd_359 : (Jvm.Cond.instanceMethod ({ cls := "FlaringWords$Text", name := "read", desc := "(II)I" } : Jvm.MethodName)) ∈ lw_good := lw_in (List.mem_of_getElem? (i := 359) (by decide +kernel)) (by decide +kernel)
theorem wd_360 : (Jvm.Cond.selects "FlaringWords$Text" ({ cls := "FlaringWords$Text", name := "read", desc := "(II)I" } : Jvm.MethodName) ({ cls := "FlaringWords$Text", name := "read", desc := "(II)I" } : Jvm.MethodName)) ∈ lw_good := lw_in (List.mem_of_getElem? (i := 360) (by decide +kernel)) (by decide +kernel)
theorem wd_361 : (Jvm.Cond.code ({ cls := "FlaringWords$Text", name := "read", desc := "(II)I" } : Jvm.MethodName) prog_11_method_10_code (5 : Nat) (Option.some Jvm.ClassFile.FieldType.int)) ∈ lw_good := lw_in (List.mem_of_getElem? (i := 361) (by decide +kernel)) (by decide +kernel)
theorem wd_362 : (Jvm.Cond.methodLink "FlaringWords$Text" (35 : Nat) ({ cls := "FlaringWords$Text", name := "readPiece", desc := "(II)I" } : Jvm.MethodName)) ∈ lw_good := lw_in (List.mem_of_getElem? (i := 362) (by decide +kernel)) (by decide +kernel)
theorem wd_364 : (Jvm.Cond.instanceMethod ({ cls := "FlaringWords$Text", name := "readPiece", desc := "(II)I" } : Jvm.MethodName)) ∈ lw_good := lw_in (List.mem_of_getElem? (i := 364) (by decide +kernel)) (by decide +kernel)
theorem wd_365 : (Jvm.Cond.code ({ cls := "FlaringWords$Text", name := "readPiece", desc := "(II)I" } : Jvm.MethodName) prog_11_method_11_code (6 : Nat) (Option.some Jvm.ClassFile.FieldType.int)) ∈ lw_good := lw_in (List.mem_of_getElem? (i := 365) (by decide +kernel)) (by decide +kernel)
theorem wd_366 : (Jvm.Cond.methodLink "FlaringWords$Text" (39 : Nat) ({ cls := "FlaringWords$Text", name := "letterAt", desc := "(I)I" } : Jvm.MethodName)) ∈ lw_good := lw_in (List.mem_of_getElem? (i := 366) (by decide +kernel)) (by decide +kernel)
theorem wd_368 : (Jvm.Cond.instanceMethod ({ cls := "FlaringWords$Text", name := "letterAt", desc := "(I)I" } : Jvm.MethodName)) ∈ lw_good := lw_in (List.mem_of_getElem? (i := 368) (by decide +kernel)) (by decide +kernel)
theorem wd_369 : (Jvm.Cond.code ({ cls := "FlaringWords$Text", name := "letterAt", desc := "(I)I" } : Jvm.MethodName) prog_11_method_15_code (2 : Nat) (Option.some Jvm.ClassFile.FieldType.int)) ∈ lw_good := lw_in (List.mem_of_getElem? (i := 369) (by decide +kernel)) (by decide +kernel)
theorem wd_370 : (Jvm.Cond.methodLink "FlaringWords$Text" (43 : Nat) ({ cls := "FlaringWords$Text", name := "isFigure", desc := "(I)Z" } : Jvm.MethodName)) ∈ lw_good := lw_in (List.mem_of_getElem? (i := 370) (by decide +kernel)) (by decide +kernel)
theorem wd_371 : (Jvm.Cond.static ({ cls := "FlaringWords$Text", name := "isFigure", desc := "(I)Z" } : Jvm.MethodName)) ∈ lw_good := lw_in (List.mem_of_getElem? (i := 371) (by decide +kernel)) (by decide +kernel)
theorem wd_372 : (Jvm.Cond.code ({ cls := "FlaringWords$Text", name := "isFigure", desc := "(I)Z" } : Jvm.MethodName) prog_11_method_16_code (1 : Nat) (Option.some Jvm.ClassFile.FieldType.boolean)) ∈ lw_good := lw_in (List.mem_of_getElem? (i := 372) (by decide +kernel)) (by decide +kernel)
theorem wd_373 : (Jvm.Cond.methodLink "FlaringWords$Text" (47 : Nat) ({ cls := "FlaringWords$Text", name := "hasTwoFigures", desc := "()Z" } : Jvm.MethodName)) ∈ lw_good := lw_in (List.mem_of_getElem? (i := 373) (by decide +kernel)) (by decide +kernel)
theorem wd_375 : (Jvm.Cond.instanceMethod ({ cls := "FlaringWords$Text", name := "hasTwoFigures", desc := "()Z" } : Jvm.MethodName)) ∈ lw_good := lw_in (List.mem_of_getElem? (i := 375) (by decide +kernel)) (by decide +kernel)
theorem wd_376 : (Jvm.Cond.code ({ cls := "FlaringWords$Text", name := "hasTwoFigures", desc := "()Z" } : Jvm.MethodName) prog_11_method_12_code (2 : Nat) (Option.some Jvm.ClassFile.FieldType.boolean)) ∈ lw_good := lw_in (List.mem_of_getElem? (i := 376) (by decide +kernel)) (by decide +kernel)
theorem wd_377 : (Jvm.Cond.methodLink "FlaringWords$Text" (50 : Nat) ({ cls := "FlaringWords$Text", name := "passes", desc := "(C)Z" } : Jvm.MethodName)) ∈ lw_good := lw_in (List.mem_of_getElem? (i := 377) (by decide +kernel)) (by decide +kernel)
theorem wd_379 : (Jvm.Cond.instanceMethod ({ cls := "FlaringWords$Text", name := "passes", desc := "(C)Z" } : Jvm.MethodName)) ∈ lw_good := lw_in (List.mem_of_getElem? (i := 379) (by decide +kernel)) (by decide +kernel)
theorem wd_380 : (Jvm.Cond.code ({ cls := "FlaringWords$Text", name := "passes", desc := "(C)Z" } : Jvm.MethodName) prog_11_method_14_code (3 : Nat) (Option.some Jvm.ClassFile.FieldType.boolean)) ∈ lw_good := lw_in (List.mem_of_getElem? (i := 380) (by decide +kernel)) (by decide +kernel)
theorem wd_381 : (Jvm.Cond.methodLink "FlaringWords$Text" (54 : Nat) ({ cls := "FlaringWords$Text", name := "readWords", desc := "()I" } : Jvm.MethodName)) ∈ lw_good := lw_in (List.mem_of_getElem? (i := 381) (by decide +kernel)) (by decide +kernel)
theorem wd_383 : (Jvm.Cond.instanceMethod ({ cls := "FlaringWords$Text", name := "readWords", desc := "()I" } : Jvm.MethodName)) ∈ lw_good := lw_in (List.mem_of_getElem? (i := 383) (by decide +kernel)) (by decide +kernel)
theorem wd_384 : (Jvm.Cond.code ({ cls := "FlaringWords$Text", name := "readWords", desc := "()I" } : Jvm.MethodName) prog_11_method_13_code (2 : Nat) (Option.some Jvm.ClassFile.FieldType.int)) ∈ lw_good := lw_in (List.mem_of_getElem? (i := 384) (by decide +kernel)) (by decide +kernel)
theorem wd_386 : (Jvm.Cond.static ({ cls := "FlaringWords", name := "isWord", desc := "(I)Z" } : Jvm.MethodName)) ∈ lw_good := lw_in (List.mem_of_getElem? (i := 386) (by decide +kernel)) (by decide +kernel)
theorem wd_387 : (Jvm.Cond.code ({ cls := "FlaringWords", name := "isWord", desc := "(I)Z" } : Jvm.MethodName) prog_1_method_26_code (1 : Nat) (Option.some Jvm.ClassFile.FieldType.boolean)) ∈ lw_good := lw_in (List.mem_of_getElem? (i := 387) (by decide +kernel)) (by decide +kernel)
theorem wd_389 : (Jvm.Cond.static ({ cls := "FlaringWords", name := "setOfWord", desc := "(I)I" } : Jvm.MethodName)) ∈ lw_good := lw_in (List.mem_of_getElem? (i := 389) (by decide +kernel)) (by decide +kernel)
theorem wd_390 : (Jvm.Cond.code ({ cls := "FlaringWords", name := "setOfWord", desc := "(I)I" } : Jvm.MethodName) prog_1_method_27_code (1 : Nat) (Option.some Jvm.ClassFile.FieldType.int)) ∈ lw_good := lw_in (List.mem_of_getElem? (i := 390) (by decide +kernel)) (by decide +kernel)
theorem wd_391 : (Jvm.Cond.methodLink "FlaringWords" (86 : Nat) ({ cls := "FlaringWords$Text", name := "place", desc := "()I" } : Jvm.MethodName)) ∈ lw_good := lw_in (List.mem_of_getElem? (i := 391) (by decide +kernel)) (by decide +kernel)
theorem wd_392 : (Jvm.Cond.instanceMethod ({ cls := "FlaringWords$Text", name := "place", desc := "()I" } : Jvm.MethodName)) ∈ lw_good := lw_in (List.mem_of_getElem? (i := 392) (by decide +kernel)) (by decide +kernel)
theorem wd_393 : (Jvm.Cond.selects "FlaringWords$Text" ({ cls := "FlaringWords$Text", name := "place", desc := "()I" } : Jvm.MethodName) ({ cls := "FlaringWords$Text", name := "place", desc := "()I" } : Jvm.MethodName)) ∈ lw_good := lw_in (List.mem_of_getElem? (i := 393) (by decide +kernel)) (by decide +kernel)
theorem wd_394 : (Jvm.Cond.code ({ cls := "FlaringWords$Text", name := "place", desc := "()I" } : Jvm.MethodName) prog_11_method_6_code (1 : Nat) (Option.some Jvm.ClassFile.FieldType.int)) ∈ lw_good := lw_in (List.mem_of_getElem? (i := 394) (by decide +kernel)) (by decide +kernel)
theorem wd_395 : (Jvm.Cond.methodLink "FlaringWords" (89 : Nat) ({ cls := "FlaringWords$Text", name := "clear", desc := "()V" } : Jvm.MethodName)) ∈ lw_good := lw_in (List.mem_of_getElem? (i := 395) (by decide +kernel)) (by decide +kernel)
theorem wd_396 : (Jvm.Cond.instanceMethod ({ cls := "FlaringWords$Text", name := "clear", desc := "()V" } : Jvm.MethodName)) ∈ lw_good := lw_in (List.mem_of_getElem? (i := 396) (by decide +kernel)) (by decide +kernel)
theorem wd_397 : (Jvm.Cond.selects "FlaringWords$Text" ({ cls := "FlaringWords$Text", name := "clear", desc := "()V" } : Jvm.MethodName) ({ cls := "FlaringWords$Text", name := "clear", desc := "()V" } : Jvm.MethodName)) ∈ lw_good := lw_in (List.mem_of_getElem? (i := 397) (by decide +kernel)) (by decide +kernel)
theorem wd_398 : (Jvm.Cond.code ({ cls := "FlaringWords$Text", name := "clear", desc := "()V" } : Jvm.MethodName) prog_11_method_5_code (1 : Nat) (Option.none : Option Jvm.ClassFile.FieldType)) ∈ lw_good := lw_in (List.mem_of_getElem? (i := 398) (by decide +kernel)) (by decide +kernel)
theorem wd_399 : (Jvm.Cond.methodLink "FlaringWords" (92 : Nat) ({ cls := "FlaringWords", name := "aheadOfDeed", desc := "()V" } : Jvm.MethodName)) ∈ lw_good := lw_in (List.mem_of_getElem? (i := 399) (by decide +kernel)) (by decide +kernel)
theorem wd_401 : (Jvm.Cond.instanceMethod ({ cls := "FlaringWords", name := "aheadOfDeed", desc := "()V" } : Jvm.MethodName)) ∈ lw_good := lw_in (List.mem_of_getElem? (i := 401) (by decide +kernel)) (by decide +kernel)
theorem wd_402 : (Jvm.Cond.code ({ cls := "FlaringWords", name := "aheadOfDeed", desc := "()V" } : Jvm.MethodName) prog_1_method_28_code (1 : Nat) (Option.none : Option Jvm.ClassFile.FieldType)) ∈ lw_good := lw_in (List.mem_of_getElem? (i := 402) (by decide +kernel)) (by decide +kernel)
theorem wd_403 : (Jvm.Cond.methodLink "FlaringWords" (288 : Nat) ({ cls := "FlaringWords$Deeds", name := "remember", desc := "(LFlaringWords$News;)V" } : Jvm.MethodName)) ∈ lw_good := lw_in (List.mem_of_getElem? (i := 403) (by decide +kernel)) (by decide +kernel)
theorem wd_404 : (Jvm.Cond.instanceMethod ({ cls := "FlaringWords$Deeds", name := "remember", desc := "(LFlaringWords$News;)V" } : Jvm.MethodName)) ∈ lw_good := lw_in (List.mem_of_getElem? (i := 404) (by decide +kernel)) (by decide +kernel)
theorem wd_405 : (Jvm.Cond.selects "FlaringWords$Deeds" ({ cls := "FlaringWords$Deeds", name := "remember", desc := "(LFlaringWords$News;)V" } : Jvm.MethodName) ({ cls := "FlaringWords$Deeds", name := "remember", desc := "(LFlaringWords$News;)V" } : Jvm.MethodName)) ∈ lw_good := lw_in (List.mem_of_getElem? (i := 405) (by decide +kernel)) (by decide +kernel)
theorem wd_406 : (Jvm.Cond.code ({ cls := "FlaringWords$Deeds", name := "remember", desc := "(LFlaringWords$News;)V" } : Jvm.MethodName) prog_3_method_4_code (2 : Nat) (Option.none : Option Jvm.ClassFile.FieldType)) ∈ lw_good := lw_in (List.mem_of_getElem? (i := 406) (by decide +kernel)) (by decide +kernel)
theorem wd_407 : (Jvm.Cond.methodLink "FlaringWords$Deeds" (22 : Nat) ({ cls := "FlaringWords$Deeds", name := "dropOldest", desc := "()V" } : Jvm.MethodName)) ∈ lw_good := lw_in (List.mem_of_getElem? (i := 407) (by decide +kernel)) (by decide +kernel)
theorem wd_409 : (Jvm.Cond.instanceMethod ({ cls := "FlaringWords$Deeds", name := "dropOldest", desc := "()V" } : Jvm.MethodName)) ∈ lw_good := lw_in (List.mem_of_getElem? (i := 409) (by decide +kernel)) (by decide +kernel)
theorem wd_410 : (Jvm.Cond.code ({ cls := "FlaringWords$Deeds", name := "dropOldest", desc := "()V" } : Jvm.MethodName) prog_3_method_6_code (3 : Nat) (Option.none : Option Jvm.ClassFile.FieldType)) ∈ lw_good := lw_in (List.mem_of_getElem? (i := 410) (by decide +kernel)) (by decide +kernel)
theorem wd_411 : (Jvm.Cond.methodLink "FlaringWords$Deeds" (25 : Nat) ({ cls := "FlaringWords$News", name := "become", desc := "(LFlaringWords$News;)V" } : Jvm.MethodName)) ∈ lw_good := lw_in (List.mem_of_getElem? (i := 411) (by decide +kernel)) (by decide +kernel)
theorem wd_412 : (Jvm.Cond.instanceMethod ({ cls := "FlaringWords$News", name := "become", desc := "(LFlaringWords$News;)V" } : Jvm.MethodName)) ∈ lw_good := lw_in (List.mem_of_getElem? (i := 412) (by decide +kernel)) (by decide +kernel)
theorem wd_413 : (Jvm.Cond.selects "FlaringWords$News" ({ cls := "FlaringWords$News", name := "become", desc := "(LFlaringWords$News;)V" } : Jvm.MethodName) ({ cls := "FlaringWords$News", name := "become", desc := "(LFlaringWords$News;)V" } : Jvm.MethodName)) ∈ lw_good := lw_in (List.mem_of_getElem? (i := 413) (by decide +kernel)) (by decide +kernel)
theorem wd_414 : (Jvm.Cond.code ({ cls := "FlaringWords$News", name := "become", desc := "(LFlaringWords$News;)V" } : Jvm.MethodName) prog_8_method_25_code (2 : Nat) (Option.none : Option Jvm.ClassFile.FieldType)) ∈ lw_good := lw_in (List.mem_of_getElem? (i := 414) (by decide +kernel)) (by decide +kernel)
theorem wd_415 : (Jvm.Cond.methodLink "FlaringWords$News" (66 : Nat) ({ cls := "java/lang/System", name := "arraycopy", desc := "(Ljava/lang/Object;ILjava/lang/Object;II)V" } : Jvm.MethodName)) ∈ lw_good := lw_in (List.mem_of_getElem? (i := 415) (by decide +kernel)) (by decide +kernel)
theorem wd_416 : (Jvm.Cond.static ({ cls := "java/lang/System", name := "arraycopy", desc := "(Ljava/lang/Object;ILjava/lang/Object;II)V" } : Jvm.MethodName)) ∈ lw_good := lw_in (List.mem_of_getElem? (i := 416) (by decide +kernel)) (by decide +kernel)
theorem wd_417 : (Jvm.Cond.native ({ cls := "java/lang/System", name := "arraycopy", desc := "(Ljava/lang/Object;ILjava/lang/Object;II)V" } : Jvm.MethodName)) ∈ lw_good := lw_in (List.mem_of_getElem? (i := 417) (by decide +kernel)) (by decide +kernel)
theorem wd_418 : (Jvm.Cond.methodLink "FlaringWords" (95 : Nat) ({ cls := "FlaringWords$Text", name := "readCount", desc := "()I" } : Jvm.MethodName)) ∈ lw_good := lw_in (List.mem_of_getElem? (i := 418) (by decide +kernel)) (by decide +kernel)
theorem wd_419 : (Jvm.Cond.instanceMethod ({ cls := "FlaringWords$Text", name := "readCount", desc := "()I" } : Jvm.MethodName)) ∈ lw_good := lw_in (List.mem_of_getElem? (i := 419) (by decide +kernel)) (by decide +kernel)
theorem wd_420 : (Jvm.Cond.selects "FlaringWords$Text" ({ cls := "FlaringWords$Text", name := "readCount", desc := "()I" } : Jvm.MethodName) ({ cls := "FlaringWords$Text", name := "readCount", desc := "()I" } : Jvm.MethodName)) ∈ lw_good := lw_in (List.mem_of_getElem? (i := 420) (by decide +kernel)) (by decide +kernel)
theorem wd_421 : (Jvm.Cond.code ({ cls := "FlaringWords$Text", name := "readCount", desc := "()I" } : Jvm.MethodName) prog_11_method_7_code (1 : Nat) (Option.some Jvm.ClassFile.FieldType.int)) ∈ lw_good := lw_in (List.mem_of_getElem? (i := 421) (by decide +kernel)) (by decide +kernel)
theorem wd_422 : (Jvm.Cond.methodLink "FlaringWords" (98 : Nat) ({ cls := "FlaringWords$Text", name := "dayRead", desc := "(I)I" } : Jvm.MethodName)) ∈ lw_good := lw_in (List.mem_of_getElem? (i := 422) (by decide +kernel)) (by decide +kernel)
theorem wd_423 : (Jvm.Cond.instanceMethod ({ cls := "FlaringWords$Text", name := "dayRead", desc := "(I)I" } : Jvm.MethodName)) ∈ lw_good := lw_in (List.mem_of_getElem? (i := 423) (by decide +kernel)) (by decide +kernel)
theorem wd_424 : (Jvm.Cond.selects "FlaringWords$Text" ({ cls := "FlaringWords$Text", name := "dayRead", desc := "(I)I" } : Jvm.MethodName) ({ cls := "FlaringWords$Text", name := "dayRead", desc := "(I)I" } : Jvm.MethodName)) ∈ lw_good := lw_in (List.mem_of_getElem? (i := 424) (by decide +kernel)) (by decide +kernel)
theorem wd_425 : (Jvm.Cond.code ({ cls := "FlaringWords$Text", name := "dayRead", desc := "(I)I" } : Jvm.MethodName) prog_11_method_8_code (2 : Nat) (Option.some Jvm.ClassFile.FieldType.int)) ∈ lw_good := lw_in (List.mem_of_getElem? (i := 425) (by decide +kernel)) (by decide +kernel)
theorem wd_426 : (Jvm.Cond.methodLink "FlaringWords" (102 : Nat) ({ cls := "FlaringWords$Text", name := "setRead", desc := "(I)I" } : Jvm.MethodName)) ∈ lw_good := lw_in (List.mem_of_getElem? (i := 426) (by decide +kernel)) (by decide +kernel)
theorem wd_427 : (Jvm.Cond.instanceMethod ({ cls := "FlaringWords$Text", name := "setRead", desc := "(I)I" } : Jvm.MethodName)) ∈ lw_good := lw_in (List.mem_of_getElem? (i := 427) (by decide +kernel)) (by decide +kernel)
theorem wd_428 : (Jvm.Cond.selects "FlaringWords$Text" ({ cls := "FlaringWords$Text", name := "setRead", desc := "(I)I" } : Jvm.MethodName) ({ cls := "FlaringWords$Text", name := "setRead", desc := "(I)I" } : Jvm.MethodName)) ∈ lw_good := lw_in (List.mem_of_getElem? (i := 428) (by decide +kernel)) (by decide +kernel)
theorem wd_429 : (Jvm.Cond.code ({ cls := "FlaringWords$Text", name := "setRead", desc := "(I)I" } : Jvm.MethodName) prog_11_method_9_code (2 : Nat) (Option.some Jvm.ClassFile.FieldType.int)) ∈ lw_good := lw_in (List.mem_of_getElem? (i := 429) (by decide +kernel)) (by decide +kernel)
theorem wd_430 : (Jvm.Cond.methodLink "FlaringWords" (105 : Nat) ({ cls := "FlaringWords$News", name := "add", desc := "(II)V" } : Jvm.MethodName)) ∈ lw_good := lw_in (List.mem_of_getElem? (i := 430) (by decide +kernel)) (by decide +kernel)
theorem wd_431 : (Jvm.Cond.instanceMethod ({ cls := "FlaringWords$News", name := "add", desc := "(II)V" } : Jvm.MethodName)) ∈ lw_good := lw_in (List.mem_of_getElem? (i := 431) (by decide +kernel)) (by decide +kernel)
theorem wd_432 : (Jvm.Cond.selects "FlaringWords$News" ({ cls := "FlaringWords$News", name := "add", desc := "(II)V" } : Jvm.MethodName) ({ cls := "FlaringWords$News", name := "add", desc := "(II)V" } : Jvm.MethodName)) ∈ lw_good := lw_in (List.mem_of_getElem? (i := 432) (by decide +kernel)) (by decide +kernel)
theorem wd_433 : (Jvm.Cond.code ({ cls := "FlaringWords$News", name := "add", desc := "(II)V" } : Jvm.MethodName) prog_8_method_19_code (3 : Nat) (Option.none : Option Jvm.ClassFile.FieldType)) ∈ lw_good := lw_in (List.mem_of_getElem? (i := 433) (by decide +kernel)) (by decide +kernel)
theorem wd_434 : (Jvm.Cond.methodLink "FlaringWords$News" (62 : Nat) ({ cls := "FlaringWords$News", name := "hasRoom", desc := "()Z" } : Jvm.MethodName)) ∈ lw_good := lw_in (List.mem_of_getElem? (i := 434) (by decide +kernel)) (by decide +kernel)
theorem wd_435 : (Jvm.Cond.instanceMethod ({ cls := "FlaringWords$News", name := "hasRoom", desc := "()Z" } : Jvm.MethodName)) ∈ lw_good := lw_in (List.mem_of_getElem? (i := 435) (by decide +kernel)) (by decide +kernel)
theorem wd_436 : (Jvm.Cond.selects "FlaringWords$News" ({ cls := "FlaringWords$News", name := "hasRoom", desc := "()Z" } : Jvm.MethodName) ({ cls := "FlaringWords$News", name := "hasRoom", desc := "()Z" } : Jvm.MethodName)) ∈ lw_good := lw_in (List.mem_of_getElem? (i := 436) (by decide +kernel)) (by decide +kernel)
theorem wd_437 : (Jvm.Cond.code ({ cls := "FlaringWords$News", name := "hasRoom", desc := "()Z" } : Jvm.MethodName) prog_8_method_16_code (1 : Nat) (Option.some Jvm.ClassFile.FieldType.boolean)) ∈ lw_good := lw_in (List.mem_of_getElem? (i := 437) (by decide +kernel)) (by decide +kernel)
theorem wd_441 : (Jvm.Cond.code ({ cls := "FlaringWords", name := "fault", desc := "()I" } : Jvm.MethodName) prog_1_method_4_code (1 : Nat) (Option.some Jvm.ClassFile.FieldType.int)) ∈ lw_good := lw_in (List.mem_of_getElem? (i := 441) (by decide +kernel)) (by decide +kernel)
theorem wd_445 : (Jvm.Cond.code ({ cls := "FlaringWords", name := "told", desc := "(I)I" } : Jvm.MethodName) prog_1_method_5_code (2 : Nat) (Option.some Jvm.ClassFile.FieldType.int)) ∈ lw_good := lw_in (List.mem_of_getElem? (i := 445) (by decide +kernel)) (by decide +kernel)
theorem wd_446 : (Jvm.Cond.methodLink "FlaringWords" (108 : Nat) ({ cls := "FlaringWords", name := "found", desc := "()LFlaringWords$Findings;" } : Jvm.MethodName)) ∈ lw_good := lw_in (List.mem_of_getElem? (i := 446) (by decide +kernel)) (by decide +kernel)
theorem wd_448 : (Jvm.Cond.instanceMethod ({ cls := "FlaringWords", name := "found", desc := "()LFlaringWords$Findings;" } : Jvm.MethodName)) ∈ lw_good := lw_in (List.mem_of_getElem? (i := 448) (by decide +kernel)) (by decide +kernel)
theorem wd_449 : (Jvm.Cond.code ({ cls := "FlaringWords", name := "found", desc := "()LFlaringWords$Findings;" } : Jvm.MethodName) prog_1_method_32_code (1 : Nat) (Option.some (Jvm.ClassFile.FieldType.object "FlaringWords$Findings"))) ∈ lw_good := lw_in (List.mem_of_getElem? (i := 449) (by decide +kernel)) (by decide +kernel)
theorem wd_450 : (Jvm.Cond.methodLink "FlaringWords" (298 : Nat) ({ cls := "FlaringWords$Tally", name := "countAll", desc := "(LFlaringWords$News;)V" } : Jvm.MethodName)) ∈ lw_good := lw_in (List.mem_of_getElem? (i := 450) (by decide +kernel)) (by decide +kernel)
theorem wd_451 : (Jvm.Cond.instanceMethod ({ cls := "FlaringWords$Tally", name := "countAll", desc := "(LFlaringWords$News;)V" } : Jvm.MethodName)) ∈ lw_good := lw_in (List.mem_of_getElem? (i := 451) (by decide +kernel)) (by decide +kernel)
theorem wd_452 : (Jvm.Cond.selects "FlaringWords$Tally" ({ cls := "FlaringWords$Tally", name := "countAll", desc := "(LFlaringWords$News;)V" } : Jvm.MethodName) ({ cls := "FlaringWords$Tally", name := "countAll", desc := "(LFlaringWords$News;)V" } : Jvm.MethodName)) ∈ lw_good := lw_in (List.mem_of_getElem? (i := 452) (by decide +kernel)) (by decide +kernel)
theorem wd_453 : (Jvm.Cond.code ({ cls := "FlaringWords$Tally", name := "countAll", desc := "(LFlaringWords$News;)V" } : Jvm.MethodName) prog_10_method_2_code (3 : Nat) (Option.none : Option Jvm.ClassFile.FieldType)) ∈ lw_good := lw_in (List.mem_of_getElem? (i := 453) (by decide +kernel)) (by decide +kernel)
theorem wd_454 : (Jvm.Cond.methodLink "FlaringWords$Tally" (39 : Nat) ({ cls := "FlaringWords$News", name := "dayCount", desc := "()I" } : Jvm.MethodName)) ∈ lw_good := lw_in (List.mem_of_getElem? (i := 454) (by decide +kernel)) (by decide +kernel)
theorem wd_455 : (Jvm.Cond.methodLink "FlaringWords$Tally" (44 : Nat) ({ cls := "FlaringWords$News", name := "levels", desc := "()I" } : Jvm.MethodName)) ∈ lw_good := lw_in (List.mem_of_getElem? (i := 455) (by decide +kernel)) (by decide +kernel)
theorem wd_456 : (Jvm.Cond.instanceMethod ({ cls := "FlaringWords$News", name := "levels", desc := "()I" } : Jvm.MethodName)) ∈ lw_good := lw_in (List.mem_of_getElem? (i := 456) (by decide +kernel)) (by decide +kernel)
theorem wd_457 : (Jvm.Cond.selects "FlaringWords$News" ({ cls := "FlaringWords$News", name := "levels", desc := "()I" } : Jvm.MethodName) ({ cls := "FlaringWords$News", name := "levels", desc := "()I" } : Jvm.MethodName)) ∈ lw_good := lw_in (List.mem_of_getElem? (i := 457) (by decide +kernel)) (by decide +kernel)
theorem wd_458 : (Jvm.Cond.code ({ cls := "FlaringWords$News", name := "levels", desc := "()I" } : Jvm.MethodName) prog_8_method_6_code (1 : Nat) (Option.some Jvm.ClassFile.FieldType.int)) ∈ lw_good := lw_in (List.mem_of_getElem? (i := 458) (by decide +kernel)) (by decide +kernel)
theorem wd_459 : (Jvm.Cond.methodLink "FlaringWords$Tally" (47 : Nat) ({ cls := "FlaringWords$News", name := "base", desc := "()I" } : Jvm.MethodName)) ∈ lw_good := lw_in (List.mem_of_getElem? (i := 459) (by decide +kernel)) (by decide +kernel)
theorem wd_460 : (Jvm.Cond.instanceMethod ({ cls := "FlaringWords$News", name := "base", desc := "()I" } : Jvm.MethodName)) ∈ lw_good := lw_in (List.mem_of_getElem? (i := 460) (by decide +kernel)) (by decide +kernel)
theorem wd_461 : (Jvm.Cond.selects "FlaringWords$News" ({ cls := "FlaringWords$News", name := "base", desc := "()I" } : Jvm.MethodName) ({ cls := "FlaringWords$News", name := "base", desc := "()I" } : Jvm.MethodName)) ∈ lw_good := lw_in (List.mem_of_getElem? (i := 461) (by decide +kernel)) (by decide +kernel)
theorem wd_462 : (Jvm.Cond.code ({ cls := "FlaringWords$News", name := "base", desc := "()I" } : Jvm.MethodName) prog_8_method_7_code (1 : Nat) (Option.some Jvm.ClassFile.FieldType.int)) ∈ lw_good := lw_in (List.mem_of_getElem? (i := 462) (by decide +kernel)) (by decide +kernel)
theorem wd_463 : (Jvm.Cond.methodLink "FlaringWords$Tally" (49 : Nat) ({ cls := "FlaringWords$News", name := "step", desc := "()I" } : Jvm.MethodName)) ∈ lw_good := lw_in (List.mem_of_getElem? (i := 463) (by decide +kernel)) (by decide +kernel)
theorem wd_464 : (Jvm.Cond.instanceMethod ({ cls := "FlaringWords$News", name := "step", desc := "()I" } : Jvm.MethodName)) ∈ lw_good := lw_in (List.mem_of_getElem? (i := 464) (by decide +kernel)) (by decide +kernel)
theorem wd_465 : (Jvm.Cond.selects "FlaringWords$News" ({ cls := "FlaringWords$News", name := "step", desc := "()I" } : Jvm.MethodName) ({ cls := "FlaringWords$News", name := "step", desc := "()I" } : Jvm.MethodName)) ∈ lw_good := lw_in (List.mem_of_getElem? (i := 465) (by decide +kernel)) (by decide +kernel)
theorem wd_466 : (Jvm.Cond.code ({ cls := "FlaringWords$News", name := "step", desc := "()I" } : Jvm.MethodName) prog_8_method_8_code (1 : Nat) (Option.some Jvm.ClassFile.FieldType.int)) ∈ lw_good := lw_in (List.mem_of_getElem? (i := 466) (by decide +kernel)) (by decide +kernel)
theorem wd_467 : (Jvm.Cond.methodLink "FlaringWords$Tally" (51 : Nat) ({ cls := "FlaringWords$News", name := "rise", desc := "()I" } : Jvm.MethodName)) ∈ lw_good := lw_in (List.mem_of_getElem? (i := 467) (by decide +kernel)) (by decide +kernel)
theorem wd_468 : (Jvm.Cond.instanceMethod ({ cls := "FlaringWords$News", name := "rise", desc := "()I" } : Jvm.MethodName)) ∈ lw_good := lw_in (List.mem_of_getElem? (i := 468) (by decide +kernel)) (by decide +kernel)
theorem wd_469 : (Jvm.Cond.selects "FlaringWords$News" ({ cls := "FlaringWords$News", name := "rise", desc := "()I" } : Jvm.MethodName) ({ cls := "FlaringWords$News", name := "rise", desc := "()I" } : Jvm.MethodName)) ∈ lw_good := lw_in (List.mem_of_getElem? (i := 469) (by decide +kernel)) (by decide +kernel)
theorem wd_470 : (Jvm.Cond.code ({ cls := "FlaringWords$News", name := "rise", desc := "()I" } : Jvm.MethodName) prog_8_method_9_code (1 : Nat) (Option.some Jvm.ClassFile.FieldType.int)) ∈ lw_good := lw_in (List.mem_of_getElem? (i := 470) (by decide +kernel)) (by decide +kernel)
theorem wd_471 : (Jvm.Cond.methodLink "FlaringWords$Tally" (53 : Nat) ({ cls := "FlaringWords$News", name := "countWithOn", desc := "(II)I" } : Jvm.MethodName)) ∈ lw_good := lw_in (List.mem_of_getElem? (i := 471) (by decide +kernel)) (by decide +kernel)
theorem wd_472 : (Jvm.Cond.instanceMethod ({ cls := "FlaringWords$News", name := "countWithOn", desc := "(II)I" } : Jvm.MethodName)) ∈ lw_good := lw_in (List.mem_of_getElem? (i := 472) (by decide +kernel)) (by decide +kernel)
theorem wd_473 : (Jvm.Cond.selects "FlaringWords$News" ({ cls := "FlaringWords$News", name := "countWithOn", desc := "(II)I" } : Jvm.MethodName) ({ cls := "FlaringWords$News", name := "countWithOn", desc := "(II)I" } : Jvm.MethodName)) ∈ lw_good := lw_in (List.mem_of_getElem? (i := 473) (by decide +kernel)) (by decide +kernel)
theorem wd_474 : (Jvm.Cond.code ({ cls := "FlaringWords$News", name := "countWithOn", desc := "(II)I" } : Jvm.MethodName) prog_8_method_24_code (5 : Nat) (Option.some Jvm.ClassFile.FieldType.int)) ∈ lw_good := lw_in (List.mem_of_getElem? (i := 474) (by decide +kernel)) (by decide +kernel)
theorem wd_475 : (Jvm.Cond.methodLink "FlaringWords$Tally" (57 : Nat) ({ cls := "FlaringWords$Tally", name := "countWord", desc := "(LFlaringWords$News;I)V" } : Jvm.MethodName)) ∈ lw_good := lw_in (List.mem_of_getElem? (i := 475) (by decide +kernel)) (by decide +kernel)
theorem wd_477 : (Jvm.Cond.instanceMethod ({ cls := "FlaringWords$Tally", name := "countWord", desc := "(LFlaringWords$News;I)V" } : Jvm.MethodName)) ∈ lw_good := lw_in (List.mem_of_getElem? (i := 477) (by decide +kernel)) (by decide +kernel)
theorem wd_478 : (Jvm.Cond.code ({ cls := "FlaringWords$Tally", name := "countWord", desc := "(LFlaringWords$News;I)V" } : Jvm.MethodName) prog_10_method_3_code (6 : Nat) (Option.none : Option Jvm.ClassFile.FieldType)) ∈ lw_good := lw_in (List.mem_of_getElem? (i := 478) (by decide +kernel)) (by decide +kernel)
theorem wd_479 : (Jvm.Cond.methodLink "FlaringWords$Tally" (61 : Nat) ({ cls := "FlaringWords$News", name := "count", desc := "()I" } : Jvm.MethodName)) ∈ lw_good := lw_in (List.mem_of_getElem? (i := 479) (by decide +kernel)) (by decide +kernel)
theorem wd_481 : (Jvm.Cond.methodLink "FlaringWords$Tally" (68 : Nat) ({ cls := "FlaringWords$News", name := "countWith", desc := "(I)I" } : Jvm.MethodName)) ∈ lw_good := lw_in (List.mem_of_getElem? (i := 481) (by decide +kernel)) (by decide +kernel)
theorem wd_482 : (Jvm.Cond.instanceMethod ({ cls := "FlaringWords$News", name := "countWith", desc := "(I)I" } : Jvm.MethodName)) ∈ lw_good := lw_in (List.mem_of_getElem? (i := 482) (by decide +kernel)) (by decide +kernel)
theorem wd_483 : (Jvm.Cond.selects "FlaringWords$News" ({ cls := "FlaringWords$News", name := "countWith", desc := "(I)I" } : Jvm.MethodName) ({ cls := "FlaringWords$News", name := "countWith", desc := "(I)I" } : Jvm.MethodName)) ∈ lw_good := lw_in (List.mem_of_getElem? (i := 483) (by decide +kernel)) (by decide +kernel)
theorem wd_484 : (Jvm.Cond.code ({ cls := "FlaringWords$News", name := "countWith", desc := "(I)I" } : Jvm.MethodName) prog_8_method_23_code (4 : Nat) (Option.some Jvm.ClassFile.FieldType.int)) ∈ lw_good := lw_in (List.mem_of_getElem? (i := 484) (by decide +kernel)) (by decide +kernel)
theorem wd_485 : (Jvm.Cond.methodLink "FlaringWords" (301 : Nat) ({ cls := "FlaringWords$Levels", name := "findAll", desc := "(LFlaringWords$Tally;)V" } : Jvm.MethodName)) ∈ lw_good := lw_in (List.mem_of_getElem? (i := 485) (by decide +kernel)) (by decide +kernel)
theorem wd_486 : (Jvm.Cond.instanceMethod ({ cls := "FlaringWords$Levels", name := "findAll", desc := "(LFlaringWords$Tally;)V" } : Jvm.MethodName)) ∈ lw_good := lw_in (List.mem_of_getElem? (i := 486) (by decide +kernel)) (by decide +kernel)
theorem wd_487 : (Jvm.Cond.selects "FlaringWords$Levels" ({ cls := "FlaringWords$Levels", name := "findAll", desc := "(LFlaringWords$Tally;)V" } : Jvm.MethodName) ({ cls := "FlaringWords$Levels", name := "findAll", desc := "(LFlaringWords$Tally;)V" } : Jvm.MethodName)) ∈ lw_good := lw_in (List.mem_of_getElem? (i := 487) (by decide +kernel)) (by decide +kernel)
theorem wd_488 : (Jvm.Cond.code ({ cls := "FlaringWords$Levels", name := "findAll", desc := "(LFlaringWords$Tally;)V" } : Jvm.MethodName) prog_7_method_2_code (3 : Nat) (Option.none : Option Jvm.ClassFile.FieldType)) ∈ lw_good := lw_in (List.mem_of_getElem? (i := 488) (by decide +kernel)) (by decide +kernel)
theorem wd_489 : (Jvm.Cond.methodLink "FlaringWords$Levels" (23 : Nat) ({ cls := "FlaringWords$Levels", name := "costRests", desc := "(LFlaringWords$Tally;I)V" } : Jvm.MethodName)) ∈ lw_good := lw_in (List.mem_of_getElem? (i := 489) (by decide +kernel)) (by decide +kernel)
theorem wd_491 : (Jvm.Cond.instanceMethod ({ cls := "FlaringWords$Levels", name := "costRests", desc := "(LFlaringWords$Tally;I)V" } : Jvm.MethodName)) ∈ lw_good := lw_in (List.mem_of_getElem? (i := 491) (by decide +kernel)) (by decide +kernel)
theorem wd_492 : (Jvm.Cond.code ({ cls := "FlaringWords$Levels", name := "costRests", desc := "(LFlaringWords$Tally;I)V" } : Jvm.MethodName) prog_7_method_5_code (7 : Nat) (Option.none : Option Jvm.ClassFile.FieldType)) ∈ lw_good := lw_in (List.mem_of_getElem? (i := 492) (by decide +kernel)) (by decide +kernel)
theorem wd_493 : (Jvm.Cond.methodLink "FlaringWords$Levels" (47 : Nat) ({ cls := "FlaringWords$Tally", name := "dayCount", desc := "()I" } : Jvm.MethodName)) ∈ lw_good := lw_in (List.mem_of_getElem? (i := 493) (by decide +kernel)) (by decide +kernel)
theorem wd_494 : (Jvm.Cond.instanceMethod ({ cls := "FlaringWords$Tally", name := "dayCount", desc := "()I" } : Jvm.MethodName)) ∈ lw_good := lw_in (List.mem_of_getElem? (i := 494) (by decide +kernel)) (by decide +kernel)
theorem wd_495 : (Jvm.Cond.selects "FlaringWords$Tally" ({ cls := "FlaringWords$Tally", name := "dayCount", desc := "()I" } : Jvm.MethodName) ({ cls := "FlaringWords$Tally", name := "dayCount", desc := "()I" } : Jvm.MethodName)) ∈ lw_good := lw_in (List.mem_of_getElem? (i := 495) (by decide +kernel)) (by decide +kernel)
theorem wd_496 : (Jvm.Cond.code ({ cls := "FlaringWords$Tally", name := "dayCount", desc := "()I" } : Jvm.MethodName) prog_10_method_5_code (1 : Nat) (Option.some Jvm.ClassFile.FieldType.int)) ∈ lw_good := lw_in (List.mem_of_getElem? (i := 496) (by decide +kernel)) (by decide +kernel)
theorem wd_497 : (Jvm.Cond.methodLink "FlaringWords$Levels" (51 : Nat) ({ cls := "FlaringWords$Tally", name := "highest", desc := "()I" } : Jvm.MethodName)) ∈ lw_good := lw_in (List.mem_of_getElem? (i := 497) (by decide +kernel)) (by decide +kernel)
theorem wd_498 : (Jvm.Cond.instanceMethod ({ cls := "FlaringWords$Tally", name := "highest", desc := "()I" } : Jvm.MethodName)) ∈ lw_good := lw_in (List.mem_of_getElem? (i := 498) (by decide +kernel)) (by decide +kernel)
theorem wd_499 : (Jvm.Cond.selects "FlaringWords$Tally" ({ cls := "FlaringWords$Tally", name := "highest", desc := "()I" } : Jvm.MethodName) ({ cls := "FlaringWords$Tally", name := "highest", desc := "()I" } : Jvm.MethodName)) ∈ lw_good := lw_in (List.mem_of_getElem? (i := 499) (by decide +kernel)) (by decide +kernel)
theorem wd_500 : (Jvm.Cond.code ({ cls := "FlaringWords$Tally", name := "highest", desc := "()I" } : Jvm.MethodName) prog_10_method_6_code (1 : Nat) (Option.some Jvm.ClassFile.FieldType.int)) ∈ lw_good := lw_in (List.mem_of_getElem? (i := 500) (by decide +kernel)) (by decide +kernel)
theorem wd_501 : (Jvm.Cond.methodLink "FlaringWords$Levels" (27 : Nat) ({ cls := "FlaringWords$Levels", name := "leastFrom", desc := "(LFlaringWords$Tally;II)I" } : Jvm.MethodName)) ∈ lw_good := lw_in (List.mem_of_getElem? (i := 501) (by decide +kernel)) (by decide +kernel)
theorem wd_503 : (Jvm.Cond.instanceMethod ({ cls := "FlaringWords$Levels", name := "leastFrom", desc := "(LFlaringWords$Tally;II)I" } : Jvm.MethodName)) ∈ lw_good := lw_in (List.mem_of_getElem? (i := 503) (by decide +kernel)) (by decide +kernel)
theorem wd_504 : (Jvm.Cond.code ({ cls := "FlaringWords$Levels", name := "leastFrom", desc := "(LFlaringWords$Tally;II)I" } : Jvm.MethodName) prog_7_method_7_code (6 : Nat) (Option.some Jvm.ClassFile.FieldType.int)) ∈ lw_good := lw_in (List.mem_of_getElem? (i := 504) (by decide +kernel)) (by decide +kernel)
theorem wd_505 : (Jvm.Cond.methodLink "FlaringWords$Levels" (31 : Nat) ({ cls := "FlaringWords$Levels", name := "costFrom", desc := "(LFlaringWords$Tally;III)I" } : Jvm.MethodName)) ∈ lw_good := lw_in (List.mem_of_getElem? (i := 505) (by decide +kernel)) (by decide +kernel)
theorem wd_507 : (Jvm.Cond.instanceMethod ({ cls := "FlaringWords$Levels", name := "costFrom", desc := "(LFlaringWords$Tally;III)I" } : Jvm.MethodName)) ∈ lw_good := lw_in (List.mem_of_getElem? (i := 507) (by decide +kernel)) (by decide +kernel)
theorem wd_508 : (Jvm.Cond.code ({ cls := "FlaringWords$Levels", name := "costFrom", desc := "(LFlaringWords$Tally;III)I" } : Jvm.MethodName) prog_7_method_8_code (6 : Nat) (Option.some Jvm.ClassFile.FieldType.int)) ∈ lw_good := lw_in (List.mem_of_getElem? (i := 508) (by decide +kernel)) (by decide +kernel)
theorem wd_509 : (Jvm.Cond.methodLink "FlaringWords$Levels" (42 : Nat) ({ cls := "FlaringWords$Tally", name := "isDay", desc := "(I)Z" } : Jvm.MethodName)) ∈ lw_good := lw_in (List.mem_of_getElem? (i := 509) (by decide +kernel)) (by decide +kernel)
theorem wd_510 : (Jvm.Cond.static ({ cls := "FlaringWords$Tally", name := "isDay", desc := "(I)Z" } : Jvm.MethodName)) ∈ lw_good := lw_in (List.mem_of_getElem? (i := 510) (by decide +kernel)) (by decide +kernel)
theorem wd_511 : (Jvm.Cond.code ({ cls := "FlaringWords$Tally", name := "isDay", desc := "(I)Z" } : Jvm.MethodName) prog_10_method_4_code (1 : Nat) (Option.some Jvm.ClassFile.FieldType.boolean)) ∈ lw_good := lw_in (List.mem_of_getElem? (i := 511) (by decide +kernel)) (by decide +kernel)
theorem wd_512 : (Jvm.Cond.methodLink "FlaringWords$Levels" (58 : Nat) ({ cls := "FlaringWords$Tally", name := "costOfRise", desc := "(II)I" } : Jvm.MethodName)) ∈ lw_good := lw_in (List.mem_of_getElem? (i := 512) (by decide +kernel)) (by decide +kernel)
theorem wd_513 : (Jvm.Cond.instanceMethod ({ cls := "FlaringWords$Tally", name := "costOfRise", desc := "(II)I" } : Jvm.MethodName)) ∈ lw_good := lw_in (List.mem_of_getElem? (i := 513) (by decide +kernel)) (by decide +kernel)
theorem wd_514 : (Jvm.Cond.selects "FlaringWords$Tally" ({ cls := "FlaringWords$Tally", name := "costOfRise", desc := "(II)I" } : Jvm.MethodName) ({ cls := "FlaringWords$Tally", name := "costOfRise", desc := "(II)I" } : Jvm.MethodName)) ∈ lw_good := lw_in (List.mem_of_getElem? (i := 514) (by decide +kernel)) (by decide +kernel)
theorem wd_515 : (Jvm.Cond.code ({ cls := "FlaringWords$Tally", name := "costOfRise", desc := "(II)I" } : Jvm.MethodName) prog_10_method_11_code (3 : Nat) (Option.some Jvm.ClassFile.FieldType.int)) ∈ lw_good := lw_in (List.mem_of_getElem? (i := 515) (by decide +kernel)) (by decide +kernel)
theorem wd_516 : (Jvm.Cond.methodLink "FlaringWords$Levels" (54 : Nat) ({ cls := "FlaringWords$Tally", name := "unlikely", desc := "(III)I" } : Jvm.MethodName)) ∈ lw_good := lw_in (List.mem_of_getElem? (i := 516) (by decide +kernel)) (by decide +kernel)
theorem wd_517 : (Jvm.Cond.instanceMethod ({ cls := "FlaringWords$Tally", name := "unlikely", desc := "(III)I" } : Jvm.MethodName)) ∈ lw_good := lw_in (List.mem_of_getElem? (i := 517) (by decide +kernel)) (by decide +kernel)
theorem wd_518 : (Jvm.Cond.selects "FlaringWords$Tally" ({ cls := "FlaringWords$Tally", name := "unlikely", desc := "(III)I" } : Jvm.MethodName) ({ cls := "FlaringWords$Tally", name := "unlikely", desc := "(III)I" } : Jvm.MethodName)) ∈ lw_good := lw_in (List.mem_of_getElem? (i := 518) (by decide +kernel)) (by decide +kernel)
theorem wd_519 : (Jvm.Cond.code ({ cls := "FlaringWords$Tally", name := "unlikely", desc := "(III)I" } : Jvm.MethodName) prog_10_method_10_code (4 : Nat) (Option.some Jvm.ClassFile.FieldType.int)) ∈ lw_good := lw_in (List.mem_of_getElem? (i := 519) (by decide +kernel)) (by decide +kernel)
theorem wd_520 : (Jvm.Cond.methodLink "FlaringWords$Tally" (78 : Nat) ({ cls := "FlaringWords$Tally", name := "count", desc := "(II)I" } : Jvm.MethodName)) ∈ lw_good := lw_in (List.mem_of_getElem? (i := 520) (by decide +kernel)) (by decide +kernel)
theorem wd_521 : (Jvm.Cond.instanceMethod ({ cls := "FlaringWords$Tally", name := "count", desc := "(II)I" } : Jvm.MethodName)) ∈ lw_good := lw_in (List.mem_of_getElem? (i := 521) (by decide +kernel)) (by decide +kernel)
theorem wd_522 : (Jvm.Cond.selects "FlaringWords$Tally" ({ cls := "FlaringWords$Tally", name := "count", desc := "(II)I" } : Jvm.MethodName) ({ cls := "FlaringWords$Tally", name := "count", desc := "(II)I" } : Jvm.MethodName)) ∈ lw_good := lw_in (List.mem_of_getElem? (i := 522) (by decide +kernel)) (by decide +kernel)
theorem wd_523 : (Jvm.Cond.code ({ cls := "FlaringWords$Tally", name := "count", desc := "(II)I" } : Jvm.MethodName) prog_10_method_8_code (3 : Nat) (Option.some Jvm.ClassFile.FieldType.int)) ∈ lw_good := lw_in (List.mem_of_getElem? (i := 523) (by decide +kernel)) (by decide +kernel)
theorem wd_525 : (Jvm.Cond.methodLink "FlaringWords$Tally" (71 : Nat) ({ cls := "FlaringWords$Tally", name := "isDay", desc := "(I)Z" } : Jvm.MethodName)) ∈ lw_good := lw_in (List.mem_of_getElem? (i := 525) (by decide +kernel)) (by decide +kernel)
theorem wd_526 : (Jvm.Cond.methodLink "FlaringWords$Tally" (80 : Nat) ({ cls := "FlaringWords$Tally", name := "wanted", desc := "(III)I" } : Jvm.MethodName)) ∈ lw_good := lw_in (List.mem_of_getElem? (i := 526) (by decide +kernel)) (by decide +kernel)
theorem wd_527 : (Jvm.Cond.instanceMethod ({ cls := "FlaringWords$Tally", name := "wanted", desc := "(III)I" } : Jvm.MethodName)) ∈ lw_good := lw_in (List.mem_of_getElem? (i := 527) (by decide +kernel)) (by decide +kernel)
theorem wd_528 : (Jvm.Cond.selects "FlaringWords$Tally" ({ cls := "FlaringWords$Tally", name := "wanted", desc := "(III)I" } : Jvm.MethodName) ({ cls := "FlaringWords$Tally", name := "wanted", desc := "(III)I" } : Jvm.MethodName)) ∈ lw_good := lw_in (List.mem_of_getElem? (i := 528) (by decide +kernel)) (by decide +kernel)
theorem wd_529 : (Jvm.Cond.code ({ cls := "FlaringWords$Tally", name := "wanted", desc := "(III)I" } : Jvm.MethodName) prog_10_method_9_code (4 : Nat) (Option.some Jvm.ClassFile.FieldType.int)) ∈ lw_good := lw_in (List.mem_of_getElem? (i := 529) (by decide +kernel)) (by decide +kernel)
theorem wd_530 : (Jvm.Cond.methodLink "FlaringWords$Tally" (84 : Nat) ({ cls := "java/lang/Math", name := "abs", desc := "(I)I" } : Jvm.MethodName)) ∈ lw_good := lw_in (List.mem_of_getElem? (i := 530) (by decide +kernel)) (by decide +kernel)
theorem wd_531 : (Jvm.Cond.static ({ cls := "java/lang/Math", name := "abs", desc := "(I)I" } : Jvm.MethodName)) ∈ lw_good := lw_in (List.mem_of_getElem? (i := 531) (by decide +kernel)) (by decide +kernel)
theorem wd_532 : (Jvm.Cond.code ({ cls := "java/lang/Math", name := "abs", desc := "(I)I" } : Jvm.MethodName) prog_15_method_59_code (1 : Nat) (Option.some Jvm.ClassFile.FieldType.int)) ∈ lw_good := lw_in (List.mem_of_getElem? (i := 532) (by decide +kernel)) (by decide +kernel)
theorem wd_533 : (Jvm.Cond.methodLink "FlaringWords$Levels" (35 : Nat) ({ cls := "FlaringWords$Levels", name := "walk", desc := "(LFlaringWords$Tally;I)V" } : Jvm.MethodName)) ∈ lw_good := lw_in (List.mem_of_getElem? (i := 533) (by decide +kernel)) (by decide +kernel)
theorem wd_535 : (Jvm.Cond.instanceMethod ({ cls := "FlaringWords$Levels", name := "walk", desc := "(LFlaringWords$Tally;I)V" } : Jvm.MethodName)) ∈ lw_good := lw_in (List.mem_of_getElem? (i := 535) (by decide +kernel)) (by decide +kernel)
theorem wd_536 : (Jvm.Cond.code ({ cls := "FlaringWords$Levels", name := "walk", desc := "(LFlaringWords$Tally;I)V" } : Jvm.MethodName) prog_7_method_6_code (5 : Nat) (Option.none : Option Jvm.ClassFile.FieldType)) ∈ lw_good := lw_in (List.mem_of_getElem? (i := 536) (by decide +kernel)) (by decide +kernel)
theorem wd_537 : (Jvm.Cond.methodLink "FlaringWords" (305 : Nat) ({ cls := "FlaringWords$Flares", name := "findAll", desc := "(LFlaringWords$Tally;LFlaringWords$Levels;)V" } : Jvm.MethodName)) ∈ lw_good := lw_in (List.mem_of_getElem? (i := 537) (by decide +kernel)) (by decide +kernel)
theorem wd_538 : (Jvm.Cond.instanceMethod ({ cls := "FlaringWords$Flares", name := "findAll", desc := "(LFlaringWords$Tally;LFlaringWords$Levels;)V" } : Jvm.MethodName)) ∈ lw_good := lw_in (List.mem_of_getElem? (i := 538) (by decide +kernel)) (by decide +kernel)
theorem wd_539 : (Jvm.Cond.selects "FlaringWords$Flares" ({ cls := "FlaringWords$Flares", name := "findAll", desc := "(LFlaringWords$Tally;LFlaringWords$Levels;)V" } : Jvm.MethodName) ({ cls := "FlaringWords$Flares", name := "findAll", desc := "(LFlaringWords$Tally;LFlaringWords$Levels;)V" } : Jvm.MethodName)) ∈ lw_good := lw_in (List.mem_of_getElem? (i := 539) (by decide +kernel)) (by decide +kernel)
theorem wd_540 : (Jvm.Cond.code ({ cls := "FlaringWords$Flares", name := "findAll", desc := "(LFlaringWords$Tally;LFlaringWords$Levels;)V" } : Jvm.MethodName) prog_5_method_10_code (5 : Nat) (Option.none : Option Jvm.ClassFile.FieldType)) ∈ lw_good := lw_in (List.mem_of_getElem? (i := 540) (by decide +kernel)) (by decide +kernel)
theorem wd_541 : (Jvm.Cond.methodLink "FlaringWords$Flares" (31 : Nat) ({ cls := "FlaringWords$Tally", name := "highest", desc := "()I" } : Jvm.MethodName)) ∈ lw_good := lw_in (List.mem_of_getElem? (i := 541) (by decide +kernel)) (by decide +kernel)
theorem wd_542 : (Jvm.Cond.methodLink "FlaringWords$Flares" (37 : Nat) ({ cls := "FlaringWords$Tally", name := "dayCount", desc := "()I" } : Jvm.MethodName)) ∈ lw_good := lw_in (List.mem_of_getElem? (i := 542) (by decide +kernel)) (by decide +kernel)
theorem wd_543 : (Jvm.Cond.methodLink "FlaringWords$Flares" (40 : Nat) ({ cls := "FlaringWords$Flares", name := "findAt", desc := "(LFlaringWords$Levels;III)V" } : Jvm.MethodName)) ∈ lw_good := lw_in (List.mem_of_getElem? (i := 543) (by decide +kernel)) (by decide +kernel)
theorem wd_545 : (Jvm.Cond.instanceMethod ({ cls := "FlaringWords$Flares", name := "findAt", desc := "(LFlaringWords$Levels;III)V" } : Jvm.MethodName)) ∈ lw_good := lw_in (List.mem_of_getElem? (i := 545) (by decide +kernel)) (by decide +kernel)
theorem wd_546 : (Jvm.Cond.code ({ cls := "FlaringWords$Flares", name := "findAt", desc := "(LFlaringWords$Levels;III)V" } : Jvm.MethodName) prog_5_method_11_code (8 : Nat) (Option.none : Option Jvm.ClassFile.FieldType)) ∈ lw_good := lw_in (List.mem_of_getElem? (i := 546) (by decide +kernel)) (by decide +kernel)
theorem wd_547 : (Jvm.Cond.methodLink "FlaringWords$Flares" (57 : Nat) ({ cls := "FlaringWords$Levels", name := "of", desc := "(II)I" } : Jvm.MethodName)) ∈ lw_good := lw_in (List.mem_of_getElem? (i := 547) (by decide +kernel)) (by decide +kernel)
theorem wd_548 : (Jvm.Cond.instanceMethod ({ cls := "FlaringWords$Levels", name := "of", desc := "(II)I" } : Jvm.MethodName)) ∈ lw_good := lw_in (List.mem_of_getElem? (i := 548) (by decide +kernel)) (by decide +kernel)
theorem wd_549 : (Jvm.Cond.selects "FlaringWords$Levels" ({ cls := "FlaringWords$Levels", name := "of", desc := "(II)I" } : Jvm.MethodName) ({ cls := "FlaringWords$Levels", name := "of", desc := "(II)I" } : Jvm.MethodName)) ∈ lw_good := lw_in (List.mem_of_getElem? (i := 549) (by decide +kernel)) (by decide +kernel)
theorem wd_550 : (Jvm.Cond.code ({ cls := "FlaringWords$Levels", name := "of", desc := "(II)I" } : Jvm.MethodName) prog_7_method_3_code (3 : Nat) (Option.some Jvm.ClassFile.FieldType.int)) ∈ lw_good := lw_in (List.mem_of_getElem? (i := 550) (by decide +kernel)) (by decide +kernel)
theorem wd_552 : (Jvm.Cond.methodLink "FlaringWords$Flares" (63 : Nat) ({ cls := "FlaringWords$Flares", name := "add", desc := "(IIII)V" } : Jvm.MethodName)) ∈ lw_good := lw_in (List.mem_of_getElem? (i := 552) (by decide +kernel)) (by decide +kernel)
theorem wd_554 : (Jvm.Cond.instanceMethod ({ cls := "FlaringWords$Flares", name := "add", desc := "(IIII)V" } : Jvm.MethodName)) ∈ lw_good := lw_in (List.mem_of_getElem? (i := 554) (by decide +kernel)) (by decide +kernel)
theorem wd_555 : (Jvm.Cond.code ({ cls := "FlaringWords$Flares", name := "add", desc := "(IIII)V" } : Jvm.MethodName) prog_5_method_12_code (5 : Nat) (Option.none : Option Jvm.ClassFile.FieldType)) ∈ lw_good := lw_in (List.mem_of_getElem? (i := 555) (by decide +kernel)) (by decide +kernel)
theorem wd_556 : (Jvm.Cond.methodLink "FlaringWords$Flares" (44 : Nat) ({ cls := "FlaringWords$Flares", name := "around", desc := "(I)I" } : Jvm.MethodName)) ∈ lw_good := lw_in (List.mem_of_getElem? (i := 556) (by decide +kernel)) (by decide +kernel)
theorem wd_558 : (Jvm.Cond.instanceMethod ({ cls := "FlaringWords$Flares", name := "around", desc := "(I)I" } : Jvm.MethodName)) ∈ lw_good := lw_in (List.mem_of_getElem? (i := 558) (by decide +kernel)) (by decide +kernel)
theorem wd_559 : (Jvm.Cond.code ({ cls := "FlaringWords$Flares", name := "around", desc := "(I)I" } : Jvm.MethodName) prog_5_method_13_code (3 : Nat) (Option.some Jvm.ClassFile.FieldType.int)) ∈ lw_good := lw_in (List.mem_of_getElem? (i := 559) (by decide +kernel)) (by decide +kernel)
theorem wd_560 : (Jvm.Cond.methodLink "FlaringWords$Flares" (67 : Nat) ({ cls := "FlaringWords$Flares", name := "hasDay", desc := "(II)Z" } : Jvm.MethodName)) ∈ lw_good := lw_in (List.mem_of_getElem? (i := 560) (by decide +kernel)) (by decide +kernel)
theorem wd_561 : (Jvm.Cond.instanceMethod ({ cls := "FlaringWords$Flares", name := "hasDay", desc := "(II)Z" } : Jvm.MethodName)) ∈ lw_good := lw_in (List.mem_of_getElem? (i := 561) (by decide +kernel)) (by decide +kernel)
theorem wd_562 : (Jvm.Cond.selects "FlaringWords$Flares" ({ cls := "FlaringWords$Flares", name := "hasDay", desc := "(II)Z" } : Jvm.MethodName) ({ cls := "FlaringWords$Flares", name := "hasDay", desc := "(II)Z" } : Jvm.MethodName)) ∈ lw_good := lw_in (List.mem_of_getElem? (i := 562) (by decide +kernel)) (by decide +kernel)
theorem wd_563 : (Jvm.Cond.code ({ cls := "FlaringWords$Flares", name := "hasDay", desc := "(II)Z" } : Jvm.MethodName) prog_5_method_4_code (3 : Nat) (Option.some Jvm.ClassFile.FieldType.boolean)) ∈ lw_good := lw_in (List.mem_of_getElem? (i := 563) (by decide +kernel)) (by decide +kernel)
theorem wd_564 : (Jvm.Cond.methodLink "FlaringWords$Flares" (20 : Nat) ({ cls := "FlaringWords$Flares", name := "has", desc := "(I)Z" } : Jvm.MethodName)) ∈ lw_good := lw_in (List.mem_of_getElem? (i := 564) (by decide +kernel)) (by decide +kernel)
theorem wd_565 : (Jvm.Cond.instanceMethod ({ cls := "FlaringWords$Flares", name := "has", desc := "(I)Z" } : Jvm.MethodName)) ∈ lw_good := lw_in (List.mem_of_getElem? (i := 565) (by decide +kernel)) (by decide +kernel)
theorem wd_566 : (Jvm.Cond.selects "FlaringWords$Flares" ({ cls := "FlaringWords$Flares", name := "has", desc := "(I)Z" } : Jvm.MethodName) ({ cls := "FlaringWords$Flares", name := "has", desc := "(I)Z" } : Jvm.MethodName)) ∈ lw_good := lw_in (List.mem_of_getElem? (i := 566) (by decide +kernel)) (by decide +kernel)
theorem wd_567 : (Jvm.Cond.code ({ cls := "FlaringWords$Flares", name := "has", desc := "(I)Z" } : Jvm.MethodName) prog_5_method_3_code (2 : Nat) (Option.some Jvm.ClassFile.FieldType.boolean)) ∈ lw_good := lw_in (List.mem_of_getElem? (i := 567) (by decide +kernel)) (by decide +kernel)
theorem wd_568 : (Jvm.Cond.methodLink "FlaringWords$Flares" (47 : Nat) ({ cls := "FlaringWords$Flares", name := "weightOf", desc := "(LFlaringWords$Tally;I)I" } : Jvm.MethodName)) ∈ lw_good := lw_in (List.mem_of_getElem? (i := 568) (by decide +kernel)) (by decide +kernel)
theorem wd_570 : (Jvm.Cond.instanceMethod ({ cls := "FlaringWords$Flares", name := "weightOf", desc := "(LFlaringWords$Tally;I)I" } : Jvm.MethodName)) ∈ lw_good := lw_in (List.mem_of_getElem? (i := 570) (by decide +kernel)) (by decide +kernel)
theorem wd_571 : (Jvm.Cond.code ({ cls := "FlaringWords$Flares", name := "weightOf", desc := "(LFlaringWords$Tally;I)I" } : Jvm.MethodName) prog_5_method_14_code (7 : Nat) (Option.some Jvm.ClassFile.FieldType.int)) ∈ lw_good := lw_in (List.mem_of_getElem? (i := 571) (by decide +kernel)) (by decide +kernel)
theorem wd_572 : (Jvm.Cond.methodLink "FlaringWords$Flares" (71 : Nat) ({ cls := "FlaringWords$Tally", name := "unlikely", desc := "(III)I" } : Jvm.MethodName)) ∈ lw_good := lw_in (List.mem_of_getElem? (i := 572) (by decide +kernel)) (by decide +kernel)
theorem wd_573 : (Jvm.Cond.methodLink "FlaringWords$Flares" (51 : Nat) ({ cls := "FlaringWords$Flares", name := "peakOf", desc := "(LFlaringWords$Tally;I)I" } : Jvm.MethodName)) ∈ lw_good := lw_in (List.mem_of_getElem? (i := 573) (by decide +kernel)) (by decide +kernel)
theorem wd_575 : (Jvm.Cond.instanceMethod ({ cls := "FlaringWords$Flares", name := "peakOf", desc := "(LFlaringWords$Tally;I)I" } : Jvm.MethodName)) ∈ lw_good := lw_in (List.mem_of_getElem? (i := 575) (by decide +kernel)) (by decide +kernel)
theorem wd_576 : (Jvm.Cond.code ({ cls := "FlaringWords$Flares", name := "peakOf", desc := "(LFlaringWords$Tally;I)I" } : Jvm.MethodName) prog_5_method_15_code (6 : Nat) (Option.some Jvm.ClassFile.FieldType.int)) ∈ lw_good := lw_in (List.mem_of_getElem? (i := 576) (by decide +kernel)) (by decide +kernel)
theorem wd_577 : (Jvm.Cond.methodLink "FlaringWords$Flares" (75 : Nat) ({ cls := "FlaringWords$Tally", name := "count", desc := "(II)I" } : Jvm.MethodName)) ∈ lw_good := lw_in (List.mem_of_getElem? (i := 577) (by decide +kernel)) (by decide +kernel)
theorem wd_578 : (Jvm.Cond.methodLink "FlaringWords$Flares" (54 : Nat) ({ cls := "FlaringWords$Flares", name := "fadeOf", desc := "(LFlaringWords$Tally;I)I" } : Jvm.MethodName)) ∈ lw_good := lw_in (List.mem_of_getElem? (i := 578) (by decide +kernel)) (by decide +kernel)
theorem wd_580 : (Jvm.Cond.instanceMethod ({ cls := "FlaringWords$Flares", name := "fadeOf", desc := "(LFlaringWords$Tally;I)I" } : Jvm.MethodName)) ∈ lw_good := lw_in (List.mem_of_getElem? (i := 580) (by decide +kernel)) (by decide +kernel)
theorem wd_581 : (Jvm.Cond.code ({ cls := "FlaringWords$Flares", name := "fadeOf", desc := "(LFlaringWords$Tally;I)I" } : Jvm.MethodName) prog_5_method_16_code (4 : Nat) (Option.some Jvm.ClassFile.FieldType.int)) ∈ lw_good := lw_in (List.mem_of_getElem? (i := 581) (by decide +kernel)) (by decide +kernel)
theorem wd_582 : (Jvm.Cond.methodLink "FlaringWords" (308 : Nat) ({ cls := "FlaringWords$Stories", name := "findAll", desc := "(LFlaringWords$News;LFlaringWords$Flares;)V" } : Jvm.MethodName)) ∈ lw_good := lw_in (List.mem_of_getElem? (i := 582) (by decide +kernel)) (by decide +kernel)
theorem wd_583 : (Jvm.Cond.instanceMethod ({ cls := "FlaringWords$Stories", name := "findAll", desc := "(LFlaringWords$News;LFlaringWords$Flares;)V" } : Jvm.MethodName)) ∈ lw_good := lw_in (List.mem_of_getElem? (i := 583) (by decide +kernel)) (by decide +kernel)
theorem wd_584 : (Jvm.Cond.selects "FlaringWords$Stories" ({ cls := "FlaringWords$Stories", name := "findAll", desc := "(LFlaringWords$News;LFlaringWords$Flares;)V" } : Jvm.MethodName) ({ cls := "FlaringWords$Stories", name := "findAll", desc := "(LFlaringWords$News;LFlaringWords$Flares;)V" } : Jvm.MethodName)) ∈ lw_good := lw_in (List.mem_of_getElem? (i := 584) (by decide +kernel)) (by decide +kernel)
theorem wd_585 : (Jvm.Cond.code ({ cls := "FlaringWords$Stories", name := "findAll", desc := "(LFlaringWords$News;LFlaringWords$Flares;)V" } : Jvm.MethodName) prog_9_method_6_code (4 : Nat) (Option.none : Option Jvm.ClassFile.FieldType)) ∈ lw_good := lw_in (List.mem_of_getElem? (i := 585) (by decide +kernel)) (by decide +kernel)
theorem wd_586 : (Jvm.Cond.methodLink "FlaringWords$Stories" (33 : Nat) ({ cls := "FlaringWords$Flares", name := "number", desc := "()I" } : Jvm.MethodName)) ∈ lw_good := lw_in (List.mem_of_getElem? (i := 586) (by decide +kernel)) (by decide +kernel)
theorem wd_587 : (Jvm.Cond.instanceMethod ({ cls := "FlaringWords$Flares", name := "number", desc := "()I" } : Jvm.MethodName)) ∈ lw_good := lw_in (List.mem_of_getElem? (i := 587) (by decide +kernel)) (by decide +kernel)
theorem wd_588 : (Jvm.Cond.selects "FlaringWords$Flares" ({ cls := "FlaringWords$Flares", name := "number", desc := "()I" } : Jvm.MethodName) ({ cls := "FlaringWords$Flares", name := "number", desc := "()I" } : Jvm.MethodName)) ∈ lw_good := lw_in (List.mem_of_getElem? (i := 588) (by decide +kernel)) (by decide +kernel)
theorem wd_589 : (Jvm.Cond.code ({ cls := "FlaringWords$Flares", name := "number", desc := "()I" } : Jvm.MethodName) prog_5_method_2_code (1 : Nat) (Option.some Jvm.ClassFile.FieldType.int)) ∈ lw_good := lw_in (List.mem_of_getElem? (i := 589) (by decide +kernel)) (by decide +kernel)
theorem wd_590 : (Jvm.Cond.methodLink "FlaringWords$Stories" (36 : Nat) ({ cls := "FlaringWords$Flares", name := "isAtOne", desc := "(I)Z" } : Jvm.MethodName)) ∈ lw_good := lw_in (List.mem_of_getElem? (i := 590) (by decide +kernel)) (by decide +kernel)
theorem wd_591 : (Jvm.Cond.instanceMethod ({ cls := "FlaringWords$Flares", name := "isAtOne", desc := "(I)Z" } : Jvm.MethodName)) ∈ lw_good := lw_in (List.mem_of_getElem? (i := 591) (by decide +kernel)) (by decide +kernel)
theorem wd_592 : (Jvm.Cond.selects "FlaringWords$Flares" ({ cls := "FlaringWords$Flares", name := "isAtOne", desc := "(I)Z" } : Jvm.MethodName) ({ cls := "FlaringWords$Flares", name := "isAtOne", desc := "(I)Z" } : Jvm.MethodName)) ∈ lw_good := lw_in (List.mem_of_getElem? (i := 592) (by decide +kernel)) (by decide +kernel)
theorem wd_593 : (Jvm.Cond.code ({ cls := "FlaringWords$Flares", name := "isAtOne", desc := "(I)Z" } : Jvm.MethodName) prog_5_method_5_code (2 : Nat) (Option.some Jvm.ClassFile.FieldType.boolean)) ∈ lw_good := lw_in (List.mem_of_getElem? (i := 593) (by decide +kernel)) (by decide +kernel)
theorem wd_594 : (Jvm.Cond.methodLink "FlaringWords$Stories" (39 : Nat) ({ cls := "FlaringWords$News", name := "count", desc := "()I" } : Jvm.MethodName)) ∈ lw_good := lw_in (List.mem_of_getElem? (i := 594) (by decide +kernel)) (by decide +kernel)
theorem wd_595 : (Jvm.Cond.methodLink "FlaringWords$Stories" (44 : Nat) ({ cls := "FlaringWords$News", name := "dayOf", desc := "(I)I" } : Jvm.MethodName)) ∈ lw_good := lw_in (List.mem_of_getElem? (i := 595) (by decide +kernel)) (by decide +kernel)
theorem wd_596 : (Jvm.Cond.instanceMethod ({ cls := "FlaringWords$News", name := "dayOf", desc := "(I)I" } : Jvm.MethodName)) ∈ lw_good := lw_in (List.mem_of_getElem? (i := 596) (by decide +kernel)) (by decide +kernel)
theorem wd_597 : (Jvm.Cond.selects "FlaringWords$News" ({ cls := "FlaringWords$News", name := "dayOf", desc := "(I)I" } : Jvm.MethodName) ({ cls := "FlaringWords$News", name := "dayOf", desc := "(I)I" } : Jvm.MethodName)) ∈ lw_good := lw_in (List.mem_of_getElem? (i := 597) (by decide +kernel)) (by decide +kernel)
theorem wd_598 : (Jvm.Cond.code ({ cls := "FlaringWords$News", name := "dayOf", desc := "(I)I" } : Jvm.MethodName) prog_8_method_17_code (2 : Nat) (Option.some Jvm.ClassFile.FieldType.int)) ∈ lw_good := lw_in (List.mem_of_getElem? (i := 598) (by decide +kernel)) (by decide +kernel)
theorem wd_599 : (Jvm.Cond.methodLink "FlaringWords$News" (59 : Nat) ({ cls := "FlaringWords$News", name := "hasPiece", desc := "(I)Z" } : Jvm.MethodName)) ∈ lw_good := lw_in (List.mem_of_getElem? (i := 599) (by decide +kernel)) (by decide +kernel)
theorem wd_600 : (Jvm.Cond.instanceMethod ({ cls := "FlaringWords$News", name := "hasPiece", desc := "(I)Z" } : Jvm.MethodName)) ∈ lw_good := lw_in (List.mem_of_getElem? (i := 600) (by decide +kernel)) (by decide +kernel)
theorem wd_601 : (Jvm.Cond.selects "FlaringWords$News" ({ cls := "FlaringWords$News", name := "hasPiece", desc := "(I)Z" } : Jvm.MethodName) ({ cls := "FlaringWords$News", name := "hasPiece", desc := "(I)Z" } : Jvm.MethodName)) ∈ lw_good := lw_in (List.mem_of_getElem? (i := 601) (by decide +kernel)) (by decide +kernel)
theorem wd_602 : (Jvm.Cond.code ({ cls := "FlaringWords$News", name := "hasPiece", desc := "(I)Z" } : Jvm.MethodName) prog_8_method_15_code (2 : Nat) (Option.some Jvm.ClassFile.FieldType.boolean)) ∈ lw_good := lw_in (List.mem_of_getElem? (i := 602) (by decide +kernel)) (by decide +kernel)
theorem wd_603 : (Jvm.Cond.methodLink "FlaringWords$Stories" (48 : Nat) ({ cls := "FlaringWords$News", name := "setOf", desc := "(I)I" } : Jvm.MethodName)) ∈ lw_good := lw_in (List.mem_of_getElem? (i := 603) (by decide +kernel)) (by decide +kernel)
theorem wd_604 : (Jvm.Cond.instanceMethod ({ cls := "FlaringWords$News", name := "setOf", desc := "(I)I" } : Jvm.MethodName)) ∈ lw_good := lw_in (List.mem_of_getElem? (i := 604) (by decide +kernel)) (by decide +kernel)
theorem wd_605 : (Jvm.Cond.selects "FlaringWords$News" ({ cls := "FlaringWords$News", name := "setOf", desc := "(I)I" } : Jvm.MethodName) ({ cls := "FlaringWords$News", name := "setOf", desc := "(I)I" } : Jvm.MethodName)) ∈ lw_good := lw_in (List.mem_of_getElem? (i := 605) (by decide +kernel)) (by decide +kernel)
theorem wd_606 : (Jvm.Cond.code ({ cls := "FlaringWords$News", name := "setOf", desc := "(I)I" } : Jvm.MethodName) prog_8_method_18_code (2 : Nat) (Option.some Jvm.ClassFile.FieldType.int)) ∈ lw_good := lw_in (List.mem_of_getElem? (i := 606) (by decide +kernel)) (by decide +kernel)
theorem wd_607 : (Jvm.Cond.methodLink "FlaringWords$Stories" (51 : Nat) ({ cls := "FlaringWords$Stories", name := "tieBy", desc := "(LFlaringWords$Flares;II)V" } : Jvm.MethodName)) ∈ lw_good := lw_in (List.mem_of_getElem? (i := 607) (by decide +kernel)) (by decide +kernel)
theorem wd_609 : (Jvm.Cond.instanceMethod ({ cls := "FlaringWords$Stories", name := "tieBy", desc := "(LFlaringWords$Flares;II)V" } : Jvm.MethodName)) ∈ lw_good := lw_in (List.mem_of_getElem? (i := 609) (by decide +kernel)) (by decide +kernel)
theorem wd_610 : (Jvm.Cond.code ({ cls := "FlaringWords$Stories", name := "tieBy", desc := "(LFlaringWords$Flares;II)V" } : Jvm.MethodName) prog_9_method_7_code (7 : Nat) (Option.none : Option Jvm.ClassFile.FieldType)) ∈ lw_good := lw_in (List.mem_of_getElem? (i := 610) (by decide +kernel)) (by decide +kernel)
theorem wd_611 : (Jvm.Cond.methodLink "FlaringWords$Stories" (59 : Nat) ({ cls := "FlaringWords$Flares", name := "hasDay", desc := "(II)Z" } : Jvm.MethodName)) ∈ lw_good := lw_in (List.mem_of_getElem? (i := 611) (by decide +kernel)) (by decide +kernel)
theorem wd_612 : (Jvm.Cond.methodLink "FlaringWords$Stories" (63 : Nat) ({ cls := "FlaringWords$Flares", name := "setOf", desc := "(I)I" } : Jvm.MethodName)) ∈ lw_good := lw_in (List.mem_of_getElem? (i := 612) (by decide +kernel)) (by decide +kernel)
theorem wd_613 : (Jvm.Cond.instanceMethod ({ cls := "FlaringWords$Flares", name := "setOf", desc := "(I)I" } : Jvm.MethodName)) ∈ lw_good := lw_in (List.mem_of_getElem? (i := 613) (by decide +kernel)) (by decide +kernel)
theorem wd_614 : (Jvm.Cond.selects "FlaringWords$Flares" ({ cls := "FlaringWords$Flares", name := "setOf", desc := "(I)I" } : Jvm.MethodName) ({ cls := "FlaringWords$Flares", name := "setOf", desc := "(I)I" } : Jvm.MethodName)) ∈ lw_good := lw_in (List.mem_of_getElem? (i := 614) (by decide +kernel)) (by decide +kernel)
theorem wd_615 : (Jvm.Cond.code ({ cls := "FlaringWords$Flares", name := "setOf", desc := "(I)I" } : Jvm.MethodName) prog_5_method_6_code (2 : Nat) (Option.some Jvm.ClassFile.FieldType.int)) ∈ lw_good := lw_in (List.mem_of_getElem? (i := 615) (by decide +kernel)) (by decide +kernel)
theorem wd_617 : (Jvm.Cond.methodLink "FlaringWords$Stories" (64 : Nat) ({ cls := "FlaringWords$Stories", name := "joined", desc := "(III)I" } : Jvm.MethodName)) ∈ lw_good := lw_in (List.mem_of_getElem? (i := 617) (by decide +kernel)) (by decide +kernel)
theorem wd_619 : (Jvm.Cond.instanceMethod ({ cls := "FlaringWords$Stories", name := "joined", desc := "(III)I" } : Jvm.MethodName)) ∈ lw_good := lw_in (List.mem_of_getElem? (i := 619) (by decide +kernel)) (by decide +kernel)
theorem wd_620 : (Jvm.Cond.code ({ cls := "FlaringWords$Stories", name := "joined", desc := "(III)I" } : Jvm.MethodName) prog_9_method_8_code (7 : Nat) (Option.some Jvm.ClassFile.FieldType.int)) ∈ lw_good := lw_in (List.mem_of_getElem? (i := 620) (by decide +kernel)) (by decide +kernel)
theorem wd_621 : (Jvm.Cond.methodLink "FlaringWords$Stories" (68 : Nat) ({ cls := "java/lang/Math", name := "min", desc := "(II)I" } : Jvm.MethodName)) ∈ lw_good := lw_in (List.mem_of_getElem? (i := 621) (by decide +kernel)) (by decide +kernel)
theorem wd_622 : (Jvm.Cond.static ({ cls := "java/lang/Math", name := "min", desc := "(II)I" } : Jvm.MethodName)) ∈ lw_good := lw_in (List.mem_of_getElem? (i := 622) (by decide +kernel)) (by decide +kernel)
theorem wd_623 : (Jvm.Cond.code ({ cls := "java/lang/Math", name := "min", desc := "(II)I" } : Jvm.MethodName) prog_15_method_69_code (2 : Nat) (Option.some Jvm.ClassFile.FieldType.int)) ∈ lw_good := lw_in (List.mem_of_getElem? (i := 623) (by decide +kernel)) (by decide +kernel)
theorem wd_624 : (Jvm.Cond.methodLink "FlaringWords$Stories" (74 : Nat) ({ cls := "java/lang/Math", name := "max", desc := "(II)I" } : Jvm.MethodName)) ∈ lw_good := lw_in (List.mem_of_getElem? (i := 624) (by decide +kernel)) (by decide +kernel)
theorem wd_625 : (Jvm.Cond.static ({ cls := "java/lang/Math", name := "max", desc := "(II)I" } : Jvm.MethodName)) ∈ lw_good := lw_in (List.mem_of_getElem? (i := 625) (by decide +kernel)) (by decide +kernel)
theorem wd_626 : (Jvm.Cond.code ({ cls := "java/lang/Math", name := "max", desc := "(II)I" } : Jvm.MethodName) prog_15_method_65_code (2 : Nat) (Option.some Jvm.ClassFile.FieldType.int)) ∈ lw_good := lw_in (List.mem_of_getElem? (i := 626) (by decide +kernel)) (by decide +kernel)
theorem wd_627 : (Jvm.Cond.methodLink "FlaringWords$Stories" (55 : Nat) ({ cls := "FlaringWords$Stories", name := "numberHeaps", desc := "(LFlaringWords$Flares;)V" } : Jvm.MethodName)) ∈ lw_good := lw_in (List.mem_of_getElem? (i := 627) (by decide +kernel)) (by decide +kernel)
theorem wd_629 : (Jvm.Cond.instanceMethod ({ cls := "FlaringWords$Stories", name := "numberHeaps", desc := "(LFlaringWords$Flares;)V" } : Jvm.MethodName)) ∈ lw_good := lw_in (List.mem_of_getElem? (i := 629) (by decide +kernel)) (by decide +kernel)
theorem wd_630 : (Jvm.Cond.code ({ cls := "FlaringWords$Stories", name := "numberHeaps", desc := "(LFlaringWords$Flares;)V" } : Jvm.MethodName) prog_9_method_9_code (4 : Nat) (Option.none : Option Jvm.ClassFile.FieldType)) ∈ lw_good := lw_in (List.mem_of_getElem? (i := 630) (by decide +kernel)) (by decide +kernel)
theorem wd_631 : (Jvm.Cond.methodLink "FlaringWords$Stories" (77 : Nat) ({ cls := "FlaringWords$Stories", name := "begun", desc := "(LFlaringWords$Flares;I)I" } : Jvm.MethodName)) ∈ lw_good := lw_in (List.mem_of_getElem? (i := 631) (by decide +kernel)) (by decide +kernel)
theorem wd_633 : (Jvm.Cond.instanceMethod ({ cls := "FlaringWords$Stories", name := "begun", desc := "(LFlaringWords$Flares;I)I" } : Jvm.MethodName)) ∈ lw_good := lw_in (List.mem_of_getElem? (i := 633) (by decide +kernel)) (by decide +kernel)
theorem wd_634 : (Jvm.Cond.code ({ cls := "FlaringWords$Stories", name := "begun", desc := "(LFlaringWords$Flares;I)I" } : Jvm.MethodName) prog_9_method_10_code (3 : Nat) (Option.some Jvm.ClassFile.FieldType.int)) ∈ lw_good := lw_in (List.mem_of_getElem? (i := 634) (by decide +kernel)) (by decide +kernel)
theorem wd_635 : (Jvm.Cond.methodLink "FlaringWords$Stories" (81 : Nat) ({ cls := "FlaringWords$Flares", name := "fact", desc := "(II)I" } : Jvm.MethodName)) ∈ lw_good := lw_in (List.mem_of_getElem? (i := 635) (by decide +kernel)) (by decide +kernel)
theorem wd_636 : (Jvm.Cond.instanceMethod ({ cls := "FlaringWords$Flares", name := "fact", desc := "(II)I" } : Jvm.MethodName)) ∈ lw_good := lw_in (List.mem_of_getElem? (i := 636) (by decide +kernel)) (by decide +kernel)
theorem wd_637 : (Jvm.Cond.selects "FlaringWords$Flares" ({ cls := "FlaringWords$Flares", name := "fact", desc := "(II)I" } : Jvm.MethodName) ({ cls := "FlaringWords$Flares", name := "fact", desc := "(II)I" } : Jvm.MethodName)) ∈ lw_good := lw_in (List.mem_of_getElem? (i := 637) (by decide +kernel)) (by decide +kernel)
theorem wd_638 : (Jvm.Cond.code ({ cls := "FlaringWords$Flares", name := "fact", desc := "(II)I" } : Jvm.MethodName) prog_5_method_8_code (3 : Nat) (Option.some Jvm.ClassFile.FieldType.int)) ∈ lw_good := lw_in (List.mem_of_getElem? (i := 638) (by decide +kernel)) (by decide +kernel)
theorem wd_639 : (Jvm.Cond.methodLink "FlaringWords$Flares" (28 : Nat) ({ cls := "FlaringWords$Flares", name := "isFact", desc := "(I)Z" } : Jvm.MethodName)) ∈ lw_good := lw_in (List.mem_of_getElem? (i := 639) (by decide +kernel)) (by decide +kernel)
theorem wd_640 : (Jvm.Cond.static ({ cls := "FlaringWords$Flares", name := "isFact", desc := "(I)Z" } : Jvm.MethodName)) ∈ lw_good := lw_in (List.mem_of_getElem? (i := 640) (by decide +kernel)) (by decide +kernel)
theorem wd_641 : (Jvm.Cond.code ({ cls := "FlaringWords$Flares", name := "isFact", desc := "(I)Z" } : Jvm.MethodName) prog_5_method_7_code (1 : Nat) (Option.some Jvm.ClassFile.FieldType.boolean)) ∈ lw_good := lw_in (List.mem_of_getElem? (i := 641) (by decide +kernel)) (by decide +kernel)
theorem wd_642 : (Jvm.Cond.methodLink "FlaringWords$Stories" (84 : Nat) ({ cls := "FlaringWords$Flares", name := "putStory", desc := "(II)V" } : Jvm.MethodName)) ∈ lw_good := lw_in (List.mem_of_getElem? (i := 642) (by decide +kernel)) (by decide +kernel)
theorem wd_643 : (Jvm.Cond.instanceMethod ({ cls := "FlaringWords$Flares", name := "putStory", desc := "(II)V" } : Jvm.MethodName)) ∈ lw_good := lw_in (List.mem_of_getElem? (i := 643) (by decide +kernel)) (by decide +kernel)
theorem wd_644 : (Jvm.Cond.selects "FlaringWords$Flares" ({ cls := "FlaringWords$Flares", name := "putStory", desc := "(II)V" } : Jvm.MethodName) ({ cls := "FlaringWords$Flares", name := "putStory", desc := "(II)V" } : Jvm.MethodName)) ∈ lw_good := lw_in (List.mem_of_getElem? (i := 644) (by decide +kernel)) (by decide +kernel)
theorem wd_645 : (Jvm.Cond.code ({ cls := "FlaringWords$Flares", name := "putStory", desc := "(II)V" } : Jvm.MethodName) prog_5_method_9_code (3 : Nat) (Option.none : Option Jvm.ClassFile.FieldType)) ∈ lw_good := lw_in (List.mem_of_getElem? (i := 645) (by decide +kernel)) (by decide +kernel)
theorem wd_646 : (Jvm.Cond.methodLink "FlaringWords$Stories" (88 : Nat) ({ cls := "FlaringWords$Stories", name := "grow", desc := "(ILFlaringWords$Flares;I)V" } : Jvm.MethodName)) ∈ lw_good := lw_in (List.mem_of_getElem? (i := 646) (by decide +kernel)) (by decide +kernel)
theorem wd_648 : (Jvm.Cond.instanceMethod ({ cls := "FlaringWords$Stories", name := "grow", desc := "(ILFlaringWords$Flares;I)V" } : Jvm.MethodName)) ∈ lw_good := lw_in (List.mem_of_getElem? (i := 648) (by decide +kernel)) (by decide +kernel)
theorem wd_649 : (Jvm.Cond.code ({ cls := "FlaringWords$Stories", name := "grow", desc := "(ILFlaringWords$Flares;I)V" } : Jvm.MethodName) prog_9_method_11_code (4 : Nat) (Option.none : Option Jvm.ClassFile.FieldType)) ∈ lw_good := lw_in (List.mem_of_getElem? (i := 649) (by decide +kernel)) (by decide +kernel)
theorem wd_650 : (Jvm.Cond.methodLink "FlaringWords$Stories" (26 : Nat) ({ cls := "FlaringWords$Stories", name := "has", desc := "(I)Z" } : Jvm.MethodName)) ∈ lw_good := lw_in (List.mem_of_getElem? (i := 650) (by decide +kernel)) (by decide +kernel)
theorem wd_651 : (Jvm.Cond.instanceMethod ({ cls := "FlaringWords$Stories", name := "has", desc := "(I)Z" } : Jvm.MethodName)) ∈ lw_good := lw_in (List.mem_of_getElem? (i := 651) (by decide +kernel)) (by decide +kernel)
theorem wd_652 : (Jvm.Cond.selects "FlaringWords$Stories" ({ cls := "FlaringWords$Stories", name := "has", desc := "(I)Z" } : Jvm.MethodName) ({ cls := "FlaringWords$Stories", name := "has", desc := "(I)Z" } : Jvm.MethodName)) ∈ lw_good := lw_in (List.mem_of_getElem? (i := 652) (by decide +kernel)) (by decide +kernel)
theorem wd_653 : (Jvm.Cond.code ({ cls := "FlaringWords$Stories", name := "has", desc := "(I)Z" } : Jvm.MethodName) prog_9_method_3_code (2 : Nat) (Option.some Jvm.ClassFile.FieldType.boolean)) ∈ lw_good := lw_in (List.mem_of_getElem? (i := 653) (by decide +kernel)) (by decide +kernel)
theorem wd_654 : (Jvm.Cond.methodLink "FlaringWords" (116 : Nat) ({ cls := "FlaringWords$Flares", name := "number", desc := "()I" } : Jvm.MethodName)) ∈ lw_good := lw_in (List.mem_of_getElem? (i := 654) (by decide +kernel)) (by decide +kernel)
theorem wd_655 : (Jvm.Cond.methodLink "FlaringWords" (125 : Nat) ({ cls := "FlaringWords$Stories", name := "number", desc := "()I" } : Jvm.MethodName)) ∈ lw_good := lw_in (List.mem_of_getElem? (i := 655) (by decide +kernel)) (by decide +kernel)
theorem wd_656 : (Jvm.Cond.instanceMethod ({ cls := "FlaringWords$Stories", name := "number", desc := "()I" } : Jvm.MethodName)) ∈ lw_good := lw_in (List.mem_of_getElem? (i := 656) (by decide +kernel)) (by decide +kernel)
theorem wd_657 : (Jvm.Cond.selects "FlaringWords$Stories" ({ cls := "FlaringWords$Stories", name := "number", desc := "()I" } : Jvm.MethodName) ({ cls := "FlaringWords$Stories", name := "number", desc := "()I" } : Jvm.MethodName)) ∈ lw_good := lw_in (List.mem_of_getElem? (i := 657) (by decide +kernel)) (by decide +kernel)
theorem wd_658 : (Jvm.Cond.code ({ cls := "FlaringWords$Stories", name := "number", desc := "()I" } : Jvm.MethodName) prog_9_method_2_code (1 : Nat) (Option.some Jvm.ClassFile.FieldType.int)) ∈ lw_good := lw_in (List.mem_of_getElem? (i := 658) (by decide +kernel)) (by decide +kernel)
theorem wd_659 : (Jvm.Cond.methodLink "FlaringWords" (128 : Nat) ({ cls := "FlaringWords$News", name := "levels", desc := "()I" } : Jvm.MethodName)) ∈ lw_good := lw_in (List.mem_of_getElem? (i := 659) (by decide +kernel)) (by decide +kernel)
theorem wd_660 : (Jvm.Cond.methodLink "FlaringWords" (131 : Nat) ({ cls := "FlaringWords$News", name := "base", desc := "()I" } : Jvm.MethodName)) ∈ lw_good := lw_in (List.mem_of_getElem? (i := 660) (by decide +kernel)) (by decide +kernel)
theorem wd_661 : (Jvm.Cond.methodLink "FlaringWords" (134 : Nat) ({ cls := "FlaringWords$News", name := "step", desc := "()I" } : Jvm.MethodName)) ∈ lw_good := lw_in (List.mem_of_getElem? (i := 661) (by decide +kernel)) (by decide +kernel)
theorem wd_662 : (Jvm.Cond.methodLink "FlaringWords" (137 : Nat) ({ cls := "FlaringWords$News", name := "rise", desc := "()I" } : Jvm.MethodName)) ∈ lw_good := lw_in (List.mem_of_getElem? (i := 662) (by decide +kernel)) (by decide +kernel)
theorem wd_663 : (Jvm.Cond.methodLink "FlaringWords" (140 : Nat) ({ cls := "FlaringWords$Book", name := "entries", desc := "()I" } : Jvm.MethodName)) ∈ lw_good := lw_in (List.mem_of_getElem? (i := 663) (by decide +kernel)) (by decide +kernel)
theorem wd_664 : (Jvm.Cond.instanceMethod ({ cls := "FlaringWords$Book", name := "entries", desc := "()I" } : Jvm.MethodName)) ∈ lw_good := lw_in (List.mem_of_getElem? (i := 664) (by decide +kernel)) (by decide +kernel)
theorem wd_665 : (Jvm.Cond.selects "FlaringWords$Book" ({ cls := "FlaringWords$Book", name := "entries", desc := "()I" } : Jvm.MethodName) ({ cls := "FlaringWords$Book", name := "entries", desc := "()I" } : Jvm.MethodName)) ∈ lw_good := lw_in (List.mem_of_getElem? (i := 665) (by decide +kernel)) (by decide +kernel)
theorem wd_666 : (Jvm.Cond.code ({ cls := "FlaringWords$Book", name := "entries", desc := "()I" } : Jvm.MethodName) prog_2_method_3_code (1 : Nat) (Option.some Jvm.ClassFile.FieldType.int)) ∈ lw_good := lw_in (List.mem_of_getElem? (i := 666) (by decide +kernel)) (by decide +kernel)
theorem wd_667 : (Jvm.Cond.methodLink "FlaringWords" (146 : Nat) ({ cls := "FlaringWords$Book", name := "firstWrong", desc := "(LFlaringWords$News;LFlaringWords$Levels;)I" } : Jvm.MethodName)) ∈ lw_good := lw_in (List.mem_of_getElem? (i := 667) (by decide +kernel)) (by decide +kernel)
theorem wd_668 : (Jvm.Cond.instanceMethod ({ cls := "FlaringWords$Book", name := "firstWrong", desc := "(LFlaringWords$News;LFlaringWords$Levels;)I" } : Jvm.MethodName)) ∈ lw_good := lw_in (List.mem_of_getElem? (i := 668) (by decide +kernel)) (by decide +kernel)
theorem wd_669 : (Jvm.Cond.selects "FlaringWords$Book" ({ cls := "FlaringWords$Book", name := "firstWrong", desc := "(LFlaringWords$News;LFlaringWords$Levels;)I" } : Jvm.MethodName) ({ cls := "FlaringWords$Book", name := "firstWrong", desc := "(LFlaringWords$News;LFlaringWords$Levels;)I" } : Jvm.MethodName)) ∈ lw_good := lw_in (List.mem_of_getElem? (i := 669) (by decide +kernel)) (by decide +kernel)
theorem wd_670 : (Jvm.Cond.code ({ cls := "FlaringWords$Book", name := "firstWrong", desc := "(LFlaringWords$News;LFlaringWords$Levels;)I" } : Jvm.MethodName) prog_2_method_6_code (4 : Nat) (Option.some Jvm.ClassFile.FieldType.int)) ∈ lw_good := lw_in (List.mem_of_getElem? (i := 670) (by decide +kernel)) (by decide +kernel)
theorem wd_671 : (Jvm.Cond.methodLink "FlaringWords$Book" (29 : Nat) ({ cls := "FlaringWords$News", name := "hasDay", desc := "(I)Z" } : Jvm.MethodName)) ∈ lw_good := lw_in (List.mem_of_getElem? (i := 671) (by decide +kernel)) (by decide +kernel)
theorem wd_672 : (Jvm.Cond.instanceMethod ({ cls := "FlaringWords$News", name := "hasDay", desc := "(I)Z" } : Jvm.MethodName)) ∈ lw_good := lw_in (List.mem_of_getElem? (i := 672) (by decide +kernel)) (by decide +kernel)
theorem wd_673 : (Jvm.Cond.selects "FlaringWords$News" ({ cls := "FlaringWords$News", name := "hasDay", desc := "(I)Z" } : Jvm.MethodName) ({ cls := "FlaringWords$News", name := "hasDay", desc := "(I)Z" } : Jvm.MethodName)) ∈ lw_good := lw_in (List.mem_of_getElem? (i := 673) (by decide +kernel)) (by decide +kernel)
theorem wd_674 : (Jvm.Cond.code ({ cls := "FlaringWords$News", name := "hasDay", desc := "(I)Z" } : Jvm.MethodName) prog_8_method_12_code (2 : Nat) (Option.some Jvm.ClassFile.FieldType.boolean)) ∈ lw_good := lw_in (List.mem_of_getElem? (i := 674) (by decide +kernel)) (by decide +kernel)
theorem wd_675 : (Jvm.Cond.methodLink "FlaringWords$Book" (35 : Nat) ({ cls := "FlaringWords$Levels", name := "of", desc := "(II)I" } : Jvm.MethodName)) ∈ lw_good := lw_in (List.mem_of_getElem? (i := 675) (by decide +kernel)) (by decide +kernel)
theorem wd_676 : (Jvm.Cond.methodLink "FlaringWords" (150 : Nat) ({ cls := "FlaringWords$Deeds", name := "number", desc := "()I" } : Jvm.MethodName)) ∈ lw_good := lw_in (List.mem_of_getElem? (i := 676) (by decide +kernel)) (by decide +kernel)
theorem wd_677 : (Jvm.Cond.instanceMethod ({ cls := "FlaringWords$Deeds", name := "number", desc := "()I" } : Jvm.MethodName)) ∈ lw_good := lw_in (List.mem_of_getElem? (i := 677) (by decide +kernel)) (by decide +kernel)
theorem wd_678 : (Jvm.Cond.selects "FlaringWords$Deeds" ({ cls := "FlaringWords$Deeds", name := "number", desc := "()I" } : Jvm.MethodName) ({ cls := "FlaringWords$Deeds", name := "number", desc := "()I" } : Jvm.MethodName)) ∈ lw_good := lw_in (List.mem_of_getElem? (i := 678) (by decide +kernel)) (by decide +kernel)
theorem wd_679 : (Jvm.Cond.code ({ cls := "FlaringWords$Deeds", name := "number", desc := "()I" } : Jvm.MethodName) prog_3_method_2_code (1 : Nat) (Option.some Jvm.ClassFile.FieldType.int)) ∈ lw_good := lw_in (List.mem_of_getElem? (i := 679) (by decide +kernel)) (by decide +kernel)
theorem wd_683 : (Jvm.Cond.code ({ cls := "FlaringWords", name := "at", desc := "(II)I" } : Jvm.MethodName) prog_1_method_6_code (3 : Nat) (Option.some Jvm.ClassFile.FieldType.int)) ∈ lw_good := lw_in (List.mem_of_getElem? (i := 683) (by decide +kernel)) (by decide +kernel)
theorem wd_684 : (Jvm.Cond.methodLink "FlaringWords" (151 : Nat) ({ cls := "FlaringWords$News", name := "hasPiece", desc := "(I)Z" } : Jvm.MethodName)) ∈ lw_good := lw_in (List.mem_of_getElem? (i := 684) (by decide +kernel)) (by decide +kernel)
theorem wd_685 : (Jvm.Cond.constant "FlaringWords" (155 : Nat) (-1000000001 : Int32)) ∈ lw_good := lw_in (List.mem_of_getElem? (i := 685) (by decide +kernel)) (by decide +kernel)
theorem wd_686 : (Jvm.Cond.methodLink "FlaringWords" (156 : Nat) ({ cls := "FlaringWords$News", name := "dayOf", desc := "(I)I" } : Jvm.MethodName)) ∈ lw_good := lw_in (List.mem_of_getElem? (i := 686) (by decide +kernel)) (by decide +kernel)
theorem wd_687 : (Jvm.Cond.methodLink "FlaringWords" (159 : Nat) ({ cls := "FlaringWords$News", name := "setOf", desc := "(I)I" } : Jvm.MethodName)) ∈ lw_good := lw_in (List.mem_of_getElem? (i := 687) (by decide +kernel)) (by decide +kernel)
theorem wd_691 : (Jvm.Cond.code ({ cls := "FlaringWords", name := "day", desc := "(II)I" } : Jvm.MethodName) prog_1_method_7_code (3 : Nat) (Option.some Jvm.ClassFile.FieldType.int)) ∈ lw_good := lw_in (List.mem_of_getElem? (i := 691) (by decide +kernel)) (by decide +kernel)
theorem wd_692 : (Jvm.Cond.methodLink "FlaringWords" (162 : Nat) ({ cls := "FlaringWords$News", name := "hasDay", desc := "(I)Z" } : Jvm.MethodName)) ∈ lw_good := lw_in (List.mem_of_getElem? (i := 692) (by decide +kernel)) (by decide +kernel)
theorem wd_693 : (Jvm.Cond.methodLink "FlaringWords" (169 : Nat) ({ cls := "FlaringWords$Tally", name := "all", desc := "(I)I" } : Jvm.MethodName)) ∈ lw_good := lw_in (List.mem_of_getElem? (i := 693) (by decide +kernel)) (by decide +kernel)
theorem wd_694 : (Jvm.Cond.instanceMethod ({ cls := "FlaringWords$Tally", name := "all", desc := "(I)I" } : Jvm.MethodName)) ∈ lw_good := lw_in (List.mem_of_getElem? (i := 694) (by decide +kernel)) (by decide +kernel)
theorem wd_695 : (Jvm.Cond.selects "FlaringWords$Tally" ({ cls := "FlaringWords$Tally", name := "all", desc := "(I)I" } : Jvm.MethodName) ({ cls := "FlaringWords$Tally", name := "all", desc := "(I)I" } : Jvm.MethodName)) ∈ lw_good := lw_in (List.mem_of_getElem? (i := 695) (by decide +kernel)) (by decide +kernel)
theorem wd_696 : (Jvm.Cond.code ({ cls := "FlaringWords$Tally", name := "all", desc := "(I)I" } : Jvm.MethodName) prog_10_method_7_code (2 : Nat) (Option.some Jvm.ClassFile.FieldType.int)) ∈ lw_good := lw_in (List.mem_of_getElem? (i := 696) (by decide +kernel)) (by decide +kernel)
theorem wd_697 : (Jvm.Cond.methodLink "FlaringWords" (174 : Nat) ({ cls := "FlaringWords$Findings", name := "hot", desc := "(I)I" } : Jvm.MethodName)) ∈ lw_good := lw_in (List.mem_of_getElem? (i := 697) (by decide +kernel)) (by decide +kernel)
theorem wd_698 : (Jvm.Cond.instanceMethod ({ cls := "FlaringWords$Findings", name := "hot", desc := "(I)I" } : Jvm.MethodName)) ∈ lw_good := lw_in (List.mem_of_getElem? (i := 698) (by decide +kernel)) (by decide +kernel)
theorem wd_699 : (Jvm.Cond.selects "FlaringWords$Findings" ({ cls := "FlaringWords$Findings", name := "hot", desc := "(I)I" } : Jvm.MethodName) ({ cls := "FlaringWords$Findings", name := "hot", desc := "(I)I" } : Jvm.MethodName)) ∈ lw_good := lw_in (List.mem_of_getElem? (i := 699) (by decide +kernel)) (by decide +kernel)
theorem wd_700 : (Jvm.Cond.code ({ cls := "FlaringWords$Findings", name := "hot", desc := "(I)I" } : Jvm.MethodName) prog_4_method_2_code (4 : Nat) (Option.some Jvm.ClassFile.FieldType.int)) ∈ lw_good := lw_in (List.mem_of_getElem? (i := 700) (by decide +kernel)) (by decide +kernel)
theorem wd_701 : (Jvm.Cond.methodLink "FlaringWords$Findings" (39 : Nat) ({ cls := "FlaringWords$Levels", name := "of", desc := "(II)I" } : Jvm.MethodName)) ∈ lw_good := lw_in (List.mem_of_getElem? (i := 701) (by decide +kernel)) (by decide +kernel)
theorem wd_703 : (Jvm.Cond.methodLink "FlaringWords" (177 : Nat) ({ cls := "FlaringWords$Findings", name := "top", desc := "(I)I" } : Jvm.MethodName)) ∈ lw_good := lw_in (List.mem_of_getElem? (i := 703) (by decide +kernel)) (by decide +kernel)
theorem wd_704 : (Jvm.Cond.instanceMethod ({ cls := "FlaringWords$Findings", name := "top", desc := "(I)I" } : Jvm.MethodName)) ∈ lw_good := lw_in (List.mem_of_getElem? (i := 704) (by decide +kernel)) (by decide +kernel)
theorem wd_705 : (Jvm.Cond.selects "FlaringWords$Findings" ({ cls := "FlaringWords$Findings", name := "top", desc := "(I)I" } : Jvm.MethodName) ({ cls := "FlaringWords$Findings", name := "top", desc := "(I)I" } : Jvm.MethodName)) ∈ lw_good := lw_in (List.mem_of_getElem? (i := 705) (by decide +kernel)) (by decide +kernel)
theorem wd_706 : (Jvm.Cond.code ({ cls := "FlaringWords$Findings", name := "top", desc := "(I)I" } : Jvm.MethodName) prog_4_method_3_code (4 : Nat) (Option.some Jvm.ClassFile.FieldType.int)) ∈ lw_good := lw_in (List.mem_of_getElem? (i := 706) (by decide +kernel)) (by decide +kernel)
theorem wd_707 : (Jvm.Cond.methodLink "FlaringWords$Findings" (47 : Nat) ({ cls := "FlaringWords$Findings", name := "isAbove", desc := "(III)Z" } : Jvm.MethodName)) ∈ lw_good := lw_in (List.mem_of_getElem? (i := 707) (by decide +kernel)) (by decide +kernel)
theorem wd_709 : (Jvm.Cond.instanceMethod ({ cls := "FlaringWords$Findings", name := "isAbove", desc := "(III)Z" } : Jvm.MethodName)) ∈ lw_good := lw_in (List.mem_of_getElem? (i := 709) (by decide +kernel)) (by decide +kernel)
theorem wd_710 : (Jvm.Cond.code ({ cls := "FlaringWords$Findings", name := "isAbove", desc := "(III)Z" } : Jvm.MethodName) prog_4_method_4_code (4 : Nat) (Option.some Jvm.ClassFile.FieldType.boolean)) ∈ lw_good := lw_in (List.mem_of_getElem? (i := 710) (by decide +kernel)) (by decide +kernel)
theorem wd_711 : (Jvm.Cond.methodLink "FlaringWords$Findings" (51 : Nat) ({ cls := "FlaringWords$Tally", name := "count", desc := "(II)I" } : Jvm.MethodName)) ∈ lw_good := lw_in (List.mem_of_getElem? (i := 711) (by decide +kernel)) (by decide +kernel)
theorem wd_715 : (Jvm.Cond.code ({ cls := "FlaringWords", name := "word", desc := "(III)I" } : Jvm.MethodName) prog_1_method_8_code (4 : Nat) (Option.some Jvm.ClassFile.FieldType.int)) ∈ lw_good := lw_in (List.mem_of_getElem? (i := 715) (by decide +kernel)) (by decide +kernel)
theorem wd_716 : (Jvm.Cond.methodLink "FlaringWords" (180 : Nat) ({ cls := "FlaringWords", name := "isWord", desc := "(I)Z" } : Jvm.MethodName)) ∈ lw_good := lw_in (List.mem_of_getElem? (i := 716) (by decide +kernel)) (by decide +kernel)
theorem wd_717 : (Jvm.Cond.methodLink "FlaringWords" (183 : Nat) ({ cls := "FlaringWords$Tally", name := "count", desc := "(II)I" } : Jvm.MethodName)) ∈ lw_good := lw_in (List.mem_of_getElem? (i := 717) (by decide +kernel)) (by decide +kernel)
theorem wd_718 : (Jvm.Cond.methodLink "FlaringWords" (185 : Nat) ({ cls := "FlaringWords$Levels", name := "of", desc := "(II)I" } : Jvm.MethodName)) ∈ lw_good := lw_in (List.mem_of_getElem? (i := 718) (by decide +kernel)) (by decide +kernel)
theorem wd_719 : (Jvm.Cond.methodLink "FlaringWords" (190 : Nat) ({ cls := "FlaringWords$News", name := "hasLevel", desc := "(I)Z" } : Jvm.MethodName)) ∈ lw_good := lw_in (List.mem_of_getElem? (i := 719) (by decide +kernel)) (by decide +kernel)
theorem wd_720 : (Jvm.Cond.instanceMethod ({ cls := "FlaringWords$News", name := "hasLevel", desc := "(I)Z" } : Jvm.MethodName)) ∈ lw_good := lw_in (List.mem_of_getElem? (i := 720) (by decide +kernel)) (by decide +kernel)
theorem wd_721 : (Jvm.Cond.selects "FlaringWords$News" ({ cls := "FlaringWords$News", name := "hasLevel", desc := "(I)Z" } : Jvm.MethodName) ({ cls := "FlaringWords$News", name := "hasLevel", desc := "(I)Z" } : Jvm.MethodName)) ∈ lw_good := lw_in (List.mem_of_getElem? (i := 721) (by decide +kernel)) (by decide +kernel)
theorem wd_722 : (Jvm.Cond.code ({ cls := "FlaringWords$News", name := "hasLevel", desc := "(I)Z" } : Jvm.MethodName) prog_8_method_10_code (2 : Nat) (Option.some Jvm.ClassFile.FieldType.boolean)) ∈ lw_good := lw_in (List.mem_of_getElem? (i := 722) (by decide +kernel)) (by decide +kernel)
theorem wd_723 : (Jvm.Cond.methodLink "FlaringWords" (193 : Nat) ({ cls := "FlaringWords$Tally", name := "wanted", desc := "(III)I" } : Jvm.MethodName)) ∈ lw_good := lw_in (List.mem_of_getElem? (i := 723) (by decide +kernel)) (by decide +kernel)
theorem wd_727 : (Jvm.Cond.code ({ cls := "FlaringWords", name := "cost", desc := "(I)I" } : Jvm.MethodName) prog_1_method_9_code (2 : Nat) (Option.some Jvm.ClassFile.FieldType.int)) ∈ lw_good := lw_in (List.mem_of_getElem? (i := 727) (by decide +kernel)) (by decide +kernel)
theorem wd_728 : (Jvm.Cond.methodLink "FlaringWords" (197 : Nat) ({ cls := "FlaringWords$Levels", name := "costOf", desc := "(I)I" } : Jvm.MethodName)) ∈ lw_good := lw_in (List.mem_of_getElem? (i := 728) (by decide +kernel)) (by decide +kernel)
theorem wd_729 : (Jvm.Cond.instanceMethod ({ cls := "FlaringWords$Levels", name := "costOf", desc := "(I)I" } : Jvm.MethodName)) ∈ lw_good := lw_in (List.mem_of_getElem? (i := 729) (by decide +kernel)) (by decide +kernel)
theorem wd_730 : (Jvm.Cond.selects "FlaringWords$Levels" ({ cls := "FlaringWords$Levels", name := "costOf", desc := "(I)I" } : Jvm.MethodName) ({ cls := "FlaringWords$Levels", name := "costOf", desc := "(I)I" } : Jvm.MethodName)) ∈ lw_good := lw_in (List.mem_of_getElem? (i := 730) (by decide +kernel)) (by decide +kernel)
theorem wd_731 : (Jvm.Cond.code ({ cls := "FlaringWords$Levels", name := "costOf", desc := "(I)I" } : Jvm.MethodName) prog_7_method_4_code (2 : Nat) (Option.some Jvm.ClassFile.FieldType.int)) ∈ lw_good := lw_in (List.mem_of_getElem? (i := 731) (by decide +kernel)) (by decide +kernel)
theorem wd_735 : (Jvm.Cond.code ({ cls := "FlaringWords", name := "steady", desc := "(II)I" } : Jvm.MethodName) prog_1_method_10_code (3 : Nat) (Option.some Jvm.ClassFile.FieldType.int)) ∈ lw_good := lw_in (List.mem_of_getElem? (i := 735) (by decide +kernel)) (by decide +kernel)
theorem wd_736 : (Jvm.Cond.methodLink "FlaringWords" (200 : Nat) ({ cls := "FlaringWords$Tally", name := "costOfSteady", desc := "(II)I" } : Jvm.MethodName)) ∈ lw_good := lw_in (List.mem_of_getElem? (i := 736) (by decide +kernel)) (by decide +kernel)
theorem wd_737 : (Jvm.Cond.instanceMethod ({ cls := "FlaringWords$Tally", name := "costOfSteady", desc := "(II)I" } : Jvm.MethodName)) ∈ lw_good := lw_in (List.mem_of_getElem? (i := 737) (by decide +kernel)) (by decide +kernel)
theorem wd_738 : (Jvm.Cond.selects "FlaringWords$Tally" ({ cls := "FlaringWords$Tally", name := "costOfSteady", desc := "(II)I" } : Jvm.MethodName) ({ cls := "FlaringWords$Tally", name := "costOfSteady", desc := "(II)I" } : Jvm.MethodName)) ∈ lw_good := lw_in (List.mem_of_getElem? (i := 738) (by decide +kernel)) (by decide +kernel)
theorem wd_739 : (Jvm.Cond.code ({ cls := "FlaringWords$Tally", name := "costOfSteady", desc := "(II)I" } : Jvm.MethodName) prog_10_method_12_code (5 : Nat) (Option.some Jvm.ClassFile.FieldType.int)) ∈ lw_good := lw_in (List.mem_of_getElem? (i := 739) (by decide +kernel)) (by decide +kernel)
theorem wd_740 : (Jvm.Cond.methodLink "FlaringWords$Tally" (89 : Nat) ({ cls := "FlaringWords$Tally", name := "costOfRise", desc := "(II)I" } : Jvm.MethodName)) ∈ lw_good := lw_in (List.mem_of_getElem? (i := 740) (by decide +kernel)) (by decide +kernel)
theorem wd_741 : (Jvm.Cond.methodLink "FlaringWords$Tally" (92 : Nat) ({ cls := "FlaringWords$Tally", name := "unlikely", desc := "(III)I" } : Jvm.MethodName)) ∈ lw_good := lw_in (List.mem_of_getElem? (i := 741) (by decide +kernel)) (by decide +kernel)
theorem wd_745 : (Jvm.Cond.code ({ cls := "FlaringWords", name := "flare", desc := "(II)I" } : Jvm.MethodName) prog_1_method_11_code (4 : Nat) (Option.some Jvm.ClassFile.FieldType.int)) ∈ lw_good := lw_in (List.mem_of_getElem? (i := 745) (by decide +kernel)) (by decide +kernel)
theorem wd_746 : (Jvm.Cond.methodLink "FlaringWords" (203 : Nat) ({ cls := "FlaringWords$Flares", name := "has", desc := "(I)Z" } : Jvm.MethodName)) ∈ lw_good := lw_in (List.mem_of_getElem? (i := 746) (by decide +kernel)) (by decide +kernel)
theorem wd_747 : (Jvm.Cond.methodLink "FlaringWords" (206 : Nat) ({ cls := "FlaringWords$Flares", name := "isFact", desc := "(I)Z" } : Jvm.MethodName)) ∈ lw_good := lw_in (List.mem_of_getElem? (i := 747) (by decide +kernel)) (by decide +kernel)
theorem wd_748 : (Jvm.Cond.methodLink "FlaringWords" (209 : Nat) ({ cls := "FlaringWords$Flares", name := "fact", desc := "(II)I" } : Jvm.MethodName)) ∈ lw_good := lw_in (List.mem_of_getElem? (i := 748) (by decide +kernel)) (by decide +kernel)
theorem wd_752 : (Jvm.Cond.code ({ cls := "FlaringWords", name := "story", desc := "(II)I" } : Jvm.MethodName) prog_1_method_12_code (4 : Nat) (Option.some Jvm.ClassFile.FieldType.int)) ∈ lw_good := lw_in (List.mem_of_getElem? (i := 752) (by decide +kernel)) (by decide +kernel)
theorem wd_753 : (Jvm.Cond.methodLink "FlaringWords" (212 : Nat) ({ cls := "FlaringWords$Stories", name := "has", desc := "(I)Z" } : Jvm.MethodName)) ∈ lw_good := lw_in (List.mem_of_getElem? (i := 753) (by decide +kernel)) (by decide +kernel)
theorem wd_754 : (Jvm.Cond.methodLink "FlaringWords" (213 : Nat) ({ cls := "FlaringWords$Stories", name := "isFact", desc := "(I)Z" } : Jvm.MethodName)) ∈ lw_good := lw_in (List.mem_of_getElem? (i := 754) (by decide +kernel)) (by decide +kernel)
theorem wd_755 : (Jvm.Cond.static ({ cls := "FlaringWords$Stories", name := "isFact", desc := "(I)Z" } : Jvm.MethodName)) ∈ lw_good := lw_in (List.mem_of_getElem? (i := 755) (by decide +kernel)) (by decide +kernel)
theorem wd_756 : (Jvm.Cond.code ({ cls := "FlaringWords$Stories", name := "isFact", desc := "(I)Z" } : Jvm.MethodName) prog_9_method_4_code (1 : Nat) (Option.some Jvm.ClassFile.FieldType.boolean)) ∈ lw_good := lw_in (List.mem_of_getElem? (i := 756) (by decide +kernel)) (by decide +kernel)
theorem wd_757 : (Jvm.Cond.methodLink "FlaringWords" (214 : Nat) ({ cls := "FlaringWords$Stories", name := "fact", desc := "(II)I" } : Jvm.MethodName)) ∈ lw_good := lw_in (List.mem_of_getElem? (i := 757) (by decide +kernel)) (by decide +kernel)
theorem wd_758 : (Jvm.Cond.instanceMethod ({ cls := "FlaringWords$Stories", name := "fact", desc := "(II)I" } : Jvm.MethodName)) ∈ lw_good := lw_in (List.mem_of_getElem? (i := 758) (by decide +kernel)) (by decide +kernel)
theorem wd_759 : (Jvm.Cond.selects "FlaringWords$Stories" ({ cls := "FlaringWords$Stories", name := "fact", desc := "(II)I" } : Jvm.MethodName) ({ cls := "FlaringWords$Stories", name := "fact", desc := "(II)I" } : Jvm.MethodName)) ∈ lw_good := lw_in (List.mem_of_getElem? (i := 759) (by decide +kernel)) (by decide +kernel)
theorem wd_760 : (Jvm.Cond.code ({ cls := "FlaringWords$Stories", name := "fact", desc := "(II)I" } : Jvm.MethodName) prog_9_method_5_code (3 : Nat) (Option.some Jvm.ClassFile.FieldType.int)) ∈ lw_good := lw_in (List.mem_of_getElem? (i := 760) (by decide +kernel)) (by decide +kernel)
theorem wd_761 : (Jvm.Cond.methodLink "FlaringWords$Stories" (30 : Nat) ({ cls := "FlaringWords$Stories", name := "isFact", desc := "(I)Z" } : Jvm.MethodName)) ∈ lw_good := lw_in (List.mem_of_getElem? (i := 761) (by decide +kernel)) (by decide +kernel)
theorem wd_765 : (Jvm.Cond.code ({ cls := "FlaringWords", name := "together", desc := "(II)I" } : Jvm.MethodName) prog_1_method_13_code (3 : Nat) (Option.some Jvm.ClassFile.FieldType.int)) ∈ lw_good := lw_in (List.mem_of_getElem? (i := 765) (by decide +kernel)) (by decide +kernel)
theorem wd_766 : (Jvm.Cond.methodLink "FlaringWords" (215 : Nat) ({ cls := "FlaringWords", name := "setOfWord", desc := "(I)I" } : Jvm.MethodName)) ∈ lw_good := lw_in (List.mem_of_getElem? (i := 766) (by decide +kernel)) (by decide +kernel)
theorem wd_767 : (Jvm.Cond.methodLink "FlaringWords" (218 : Nat) ({ cls := "FlaringWords$News", name := "countWith", desc := "(I)I" } : Jvm.MethodName)) ∈ lw_good := lw_in (List.mem_of_getElem? (i := 767) (by decide +kernel)) (by decide +kernel)
theorem wd_771 : (Jvm.Cond.code ({ cls := "FlaringWords", name := "piece", desc := "(II)I" } : Jvm.MethodName) prog_1_method_14_code (3 : Nat) (Option.some Jvm.ClassFile.FieldType.int)) ∈ lw_good := lw_in (List.mem_of_getElem? (i := 771) (by decide +kernel)) (by decide +kernel)
theorem wd_772 : (Jvm.Cond.methodLink "FlaringWords" (221 : Nat) ({ cls := "FlaringWords$News", name := "hasRoom", desc := "()Z" } : Jvm.MethodName)) ∈ lw_good := lw_in (List.mem_of_getElem? (i := 772) (by decide +kernel)) (by decide +kernel)
theorem wd_773 : (Jvm.Cond.methodLink "FlaringWords" (222 : Nat) ({ cls := "FlaringWords", name := "comes", desc := "(II)V" } : Jvm.MethodName)) ∈ lw_good := lw_in (List.mem_of_getElem? (i := 773) (by decide +kernel)) (by decide +kernel)
theorem wd_775 : (Jvm.Cond.instanceMethod ({ cls := "FlaringWords", name := "comes", desc := "(II)V" } : Jvm.MethodName)) ∈ lw_good := lw_in (List.mem_of_getElem? (i := 775) (by decide +kernel)) (by decide +kernel)
theorem wd_776 : (Jvm.Cond.code ({ cls := "FlaringWords", name := "comes", desc := "(II)V" } : Jvm.MethodName) prog_1_method_29_code (3 : Nat) (Option.none : Option Jvm.ClassFile.FieldType)) ∈ lw_good := lw_in (List.mem_of_getElem? (i := 776) (by decide +kernel)) (by decide +kernel)
theorem wd_780 : (Jvm.Cond.code ({ cls := "FlaringWords", name := "take", desc := "(I)I" } : Jvm.MethodName) prog_1_method_15_code (2 : Nat) (Option.some Jvm.ClassFile.FieldType.int)) ∈ lw_good := lw_in (List.mem_of_getElem? (i := 780) (by decide +kernel)) (by decide +kernel)
theorem wd_781 : (Jvm.Cond.methodLink "FlaringWords" (225 : Nat) ({ cls := "FlaringWords$News", name := "remove", desc := "(I)V" } : Jvm.MethodName)) ∈ lw_good := lw_in (List.mem_of_getElem? (i := 781) (by decide +kernel)) (by decide +kernel)
theorem wd_782 : (Jvm.Cond.instanceMethod ({ cls := "FlaringWords$News", name := "remove", desc := "(I)V" } : Jvm.MethodName)) ∈ lw_good := lw_in (List.mem_of_getElem? (i := 782) (by decide +kernel)) (by decide +kernel)
theorem wd_783 : (Jvm.Cond.selects "FlaringWords$News" ({ cls := "FlaringWords$News", name := "remove", desc := "(I)V" } : Jvm.MethodName) ({ cls := "FlaringWords$News", name := "remove", desc := "(I)V" } : Jvm.MethodName)) ∈ lw_good := lw_in (List.mem_of_getElem? (i := 783) (by decide +kernel)) (by decide +kernel)
theorem wd_784 : (Jvm.Cond.code ({ cls := "FlaringWords$News", name := "remove", desc := "(I)V" } : Jvm.MethodName) prog_8_method_20_code (3 : Nat) (Option.none : Option Jvm.ClassFile.FieldType)) ∈ lw_good := lw_in (List.mem_of_getElem? (i := 784) (by decide +kernel)) (by decide +kernel)
theorem wd_788 : (Jvm.Cond.code ({ cls := "FlaringWords", name := "move", desc := "(II)I" } : Jvm.MethodName) prog_1_method_16_code (4 : Nat) (Option.some Jvm.ClassFile.FieldType.int)) ∈ lw_good := lw_in (List.mem_of_getElem? (i := 788) (by decide +kernel)) (by decide +kernel)
theorem wd_789 : (Jvm.Cond.methodLink "FlaringWords" (228 : Nat) ({ cls := "FlaringWords$News", name := "putOn", desc := "(II)V" } : Jvm.MethodName)) ∈ lw_good := lw_in (List.mem_of_getElem? (i := 789) (by decide +kernel)) (by decide +kernel)
theorem wd_790 : (Jvm.Cond.instanceMethod ({ cls := "FlaringWords$News", name := "putOn", desc := "(II)V" } : Jvm.MethodName)) ∈ lw_good := lw_in (List.mem_of_getElem? (i := 790) (by decide +kernel)) (by decide +kernel)
theorem wd_791 : (Jvm.Cond.selects "FlaringWords$News" ({ cls := "FlaringWords$News", name := "putOn", desc := "(II)V" } : Jvm.MethodName) ({ cls := "FlaringWords$News", name := "putOn", desc := "(II)V" } : Jvm.MethodName)) ∈ lw_good := lw_in (List.mem_of_getElem? (i := 791) (by decide +kernel)) (by decide +kernel)
theorem wd_792 : (Jvm.Cond.code ({ cls := "FlaringWords$News", name := "putOn", desc := "(II)V" } : Jvm.MethodName) prog_8_method_21_code (3 : Nat) (Option.none : Option Jvm.ClassFile.FieldType)) ∈ lw_good := lw_in (List.mem_of_getElem? (i := 792) (by decide +kernel)) (by decide +kernel)
theorem wd_796 : (Jvm.Cond.code ({ cls := "FlaringWords", name := "days", desc := "(I)I" } : Jvm.MethodName) prog_1_method_17_code (3 : Nat) (Option.some Jvm.ClassFile.FieldType.int)) ∈ lw_good := lw_in (List.mem_of_getElem? (i := 796) (by decide +kernel)) (by decide +kernel)
theorem wd_797 : (Jvm.Cond.methodLink "FlaringWords" (231 : Nat) ({ cls := "FlaringWords$News", name := "hasPieceFrom", desc := "(I)Z" } : Jvm.MethodName)) ∈ lw_good := lw_in (List.mem_of_getElem? (i := 797) (by decide +kernel)) (by decide +kernel)
theorem wd_798 : (Jvm.Cond.instanceMethod ({ cls := "FlaringWords$News", name := "hasPieceFrom", desc := "(I)Z" } : Jvm.MethodName)) ∈ lw_good := lw_in (List.mem_of_getElem? (i := 798) (by decide +kernel)) (by decide +kernel)
theorem wd_799 : (Jvm.Cond.selects "FlaringWords$News" ({ cls := "FlaringWords$News", name := "hasPieceFrom", desc := "(I)Z" } : Jvm.MethodName) ({ cls := "FlaringWords$News", name := "hasPieceFrom", desc := "(I)Z" } : Jvm.MethodName)) ∈ lw_good := lw_in (List.mem_of_getElem? (i := 799) (by decide +kernel)) (by decide +kernel)
theorem wd_800 : (Jvm.Cond.code ({ cls := "FlaringWords$News", name := "hasPieceFrom", desc := "(I)Z" } : Jvm.MethodName) prog_8_method_22_code (3 : Nat) (Option.some Jvm.ClassFile.FieldType.boolean)) ∈ lw_good := lw_in (List.mem_of_getElem? (i := 800) (by decide +kernel)) (by decide +kernel)
theorem wd_801 : (Jvm.Cond.constant "FlaringWords" (234 : Nat) (-1000000003 : Int32)) ∈ lw_good := lw_in (List.mem_of_getElem? (i := 801) (by decide +kernel)) (by decide +kernel)
theorem wd_802 : (Jvm.Cond.methodLink "FlaringWords" (235 : Nat) ({ cls := "FlaringWords$News", name := "setDayCount", desc := "(I)V" } : Jvm.MethodName)) ∈ lw_good := lw_in (List.mem_of_getElem? (i := 802) (by decide +kernel)) (by decide +kernel)
theorem wd_803 : (Jvm.Cond.instanceMethod ({ cls := "FlaringWords$News", name := "setDayCount", desc := "(I)V" } : Jvm.MethodName)) ∈ lw_good := lw_in (List.mem_of_getElem? (i := 803) (by decide +kernel)) (by decide +kernel)
theorem wd_804 : (Jvm.Cond.selects "FlaringWords$News" ({ cls := "FlaringWords$News", name := "setDayCount", desc := "(I)V" } : Jvm.MethodName) ({ cls := "FlaringWords$News", name := "setDayCount", desc := "(I)V" } : Jvm.MethodName)) ∈ lw_good := lw_in (List.mem_of_getElem? (i := 804) (by decide +kernel)) (by decide +kernel)
theorem wd_805 : (Jvm.Cond.code ({ cls := "FlaringWords$News", name := "setDayCount", desc := "(I)V" } : Jvm.MethodName) prog_8_method_13_code (2 : Nat) (Option.none : Option Jvm.ClassFile.FieldType)) ∈ lw_good := lw_in (List.mem_of_getElem? (i := 805) (by decide +kernel)) (by decide +kernel)
theorem wd_806 : (Jvm.Cond.methodLink "FlaringWords$News" (50 : Nat) ({ cls := "java/lang/Math", name := "min", desc := "(II)I" } : Jvm.MethodName)) ∈ lw_good := lw_in (List.mem_of_getElem? (i := 806) (by decide +kernel)) (by decide +kernel)
theorem wd_807 : (Jvm.Cond.methodLink "FlaringWords$News" (56 : Nat) ({ cls := "java/lang/Math", name := "max", desc := "(II)I" } : Jvm.MethodName)) ∈ lw_good := lw_in (List.mem_of_getElem? (i := 807) (by decide +kernel)) (by decide +kernel)
theorem wd_811 : (Jvm.Cond.code ({ cls := "FlaringWords", name := "term", desc := "(II)I" } : Jvm.MethodName) prog_1_method_18_code (4 : Nat) (Option.some Jvm.ClassFile.FieldType.int)) ∈ lw_good := lw_in (List.mem_of_getElem? (i := 811) (by decide +kernel)) (by decide +kernel)
theorem wd_812 : (Jvm.Cond.methodLink "FlaringWords" (238 : Nat) ({ cls := "FlaringWords$News", name := "isTerm", desc := "(I)Z" } : Jvm.MethodName)) ∈ lw_good := lw_in (List.mem_of_getElem? (i := 812) (by decide +kernel)) (by decide +kernel)
theorem wd_813 : (Jvm.Cond.static ({ cls := "FlaringWords$News", name := "isTerm", desc := "(I)Z" } : Jvm.MethodName)) ∈ lw_good := lw_in (List.mem_of_getElem? (i := 813) (by decide +kernel)) (by decide +kernel)
theorem wd_814 : (Jvm.Cond.code ({ cls := "FlaringWords$News", name := "isTerm", desc := "(I)Z" } : Jvm.MethodName) prog_8_method_2_code (1 : Nat) (Option.some Jvm.ClassFile.FieldType.boolean)) ∈ lw_good := lw_in (List.mem_of_getElem? (i := 814) (by decide +kernel)) (by decide +kernel)
theorem wd_815 : (Jvm.Cond.methodLink "FlaringWords" (241 : Nat) ({ cls := "FlaringWords$News", name := "isInBounds", desc := "(II)Z" } : Jvm.MethodName)) ∈ lw_good := lw_in (List.mem_of_getElem? (i := 815) (by decide +kernel)) (by decide +kernel)
theorem wd_816 : (Jvm.Cond.static ({ cls := "FlaringWords$News", name := "isInBounds", desc := "(II)Z" } : Jvm.MethodName)) ∈ lw_good := lw_in (List.mem_of_getElem? (i := 816) (by decide +kernel)) (by decide +kernel)
theorem wd_817 : (Jvm.Cond.code ({ cls := "FlaringWords$News", name := "isInBounds", desc := "(II)Z" } : Jvm.MethodName) prog_8_method_3_code (2 : Nat) (Option.some Jvm.ClassFile.FieldType.boolean)) ∈ lw_good := lw_in (List.mem_of_getElem? (i := 817) (by decide +kernel)) (by decide +kernel)
theorem wd_818 : (Jvm.Cond.methodLink "FlaringWords$News" (36 : Nat) ({ cls := "FlaringWords$News", name := "isTerm", desc := "(I)Z" } : Jvm.MethodName)) ∈ lw_good := lw_in (List.mem_of_getElem? (i := 818) (by decide +kernel)) (by decide +kernel)
theorem wd_819 : (Jvm.Cond.fieldLink "FlaringWords$News" (40 : Nat) "FlaringWords$News" "LEAST" "[I") ∈ lw_good := lw_in (List.mem_of_getElem? (i := 819) (by decide +kernel)) (by decide +kernel)
theorem wd_821 : (Jvm.Cond.fieldLink "FlaringWords$News" (43 : Nat) "FlaringWords$News" "MOST" "[I") ∈ lw_good := lw_in (List.mem_of_getElem? (i := 821) (by decide +kernel)) (by decide +kernel)
theorem wd_823 : (Jvm.Cond.methodLink "FlaringWords" (245 : Nat) ({ cls := "FlaringWords$News", name := "termOf", desc := "(I)I" } : Jvm.MethodName)) ∈ lw_good := lw_in (List.mem_of_getElem? (i := 823) (by decide +kernel)) (by decide +kernel)
theorem wd_824 : (Jvm.Cond.instanceMethod ({ cls := "FlaringWords$News", name := "termOf", desc := "(I)I" } : Jvm.MethodName)) ∈ lw_good := lw_in (List.mem_of_getElem? (i := 824) (by decide +kernel)) (by decide +kernel)
theorem wd_825 : (Jvm.Cond.selects "FlaringWords$News" ({ cls := "FlaringWords$News", name := "termOf", desc := "(I)I" } : Jvm.MethodName) ({ cls := "FlaringWords$News", name := "termOf", desc := "(I)I" } : Jvm.MethodName)) ∈ lw_good := lw_in (List.mem_of_getElem? (i := 825) (by decide +kernel)) (by decide +kernel)
theorem wd_826 : (Jvm.Cond.code ({ cls := "FlaringWords$News", name := "termOf", desc := "(I)I" } : Jvm.MethodName) prog_8_method_4_code (2 : Nat) (Option.some Jvm.ClassFile.FieldType.int)) ∈ lw_good := lw_in (List.mem_of_getElem? (i := 826) (by decide +kernel)) (by decide +kernel)
theorem wd_827 : (Jvm.Cond.methodLink "FlaringWords" (248 : Nat) ({ cls := "FlaringWords$News", name := "setTerm", desc := "(II)V" } : Jvm.MethodName)) ∈ lw_good := lw_in (List.mem_of_getElem? (i := 827) (by decide +kernel)) (by decide +kernel)
theorem wd_828 : (Jvm.Cond.instanceMethod ({ cls := "FlaringWords$News", name := "setTerm", desc := "(II)V" } : Jvm.MethodName)) ∈ lw_good := lw_in (List.mem_of_getElem? (i := 828) (by decide +kernel)) (by decide +kernel)
theorem wd_829 : (Jvm.Cond.selects "FlaringWords$News" ({ cls := "FlaringWords$News", name := "setTerm", desc := "(II)V" } : Jvm.MethodName) ({ cls := "FlaringWords$News", name := "setTerm", desc := "(II)V" } : Jvm.MethodName)) ∈ lw_good := lw_in (List.mem_of_getElem? (i := 829) (by decide +kernel)) (by decide +kernel)
theorem wd_830 : (Jvm.Cond.code ({ cls := "FlaringWords$News", name := "setTerm", desc := "(II)V" } : Jvm.MethodName) prog_8_method_5_code (3 : Nat) (Option.none : Option Jvm.ClassFile.FieldType)) ∈ lw_good := lw_in (List.mem_of_getElem? (i := 830) (by decide +kernel)) (by decide +kernel)
theorem wd_831 : (Jvm.Cond.methodLink "FlaringWords$News" (46 : Nat) ({ cls := "FlaringWords$News", name := "isInBounds", desc := "(II)Z" } : Jvm.MethodName)) ∈ lw_good := lw_in (List.mem_of_getElem? (i := 831) (by decide +kernel)) (by decide +kernel)
theorem wd_835 : (Jvm.Cond.code ({ cls := "FlaringWords", name := "drift", desc := "(I)I" } : Jvm.MethodName) prog_1_method_19_code (5 : Nat) (Option.some Jvm.ClassFile.FieldType.int)) ∈ lw_good := lw_in (List.mem_of_getElem? (i := 835) (by decide +kernel)) (by decide +kernel)
theorem wd_836 : (Jvm.Cond.methodLink "FlaringWords" (251 : Nat) ({ cls := "FlaringWords", name := "draw", desc := "(I)I" } : Jvm.MethodName)) ∈ lw_good := lw_in (List.mem_of_getElem? (i := 836) (by decide +kernel)) (by decide +kernel)
theorem wd_838 : (Jvm.Cond.instanceMethod ({ cls := "FlaringWords", name := "draw", desc := "(I)I" } : Jvm.MethodName)) ∈ lw_good := lw_in (List.mem_of_getElem? (i := 838) (by decide +kernel)) (by decide +kernel)
theorem wd_839 : (Jvm.Cond.code ({ cls := "FlaringWords", name := "draw", desc := "(I)I" } : Jvm.MethodName) prog_1_method_30_code (2 : Nat) (Option.some Jvm.ClassFile.FieldType.int)) ∈ lw_good := lw_in (List.mem_of_getElem? (i := 839) (by decide +kernel)) (by decide +kernel)
theorem wd_840 : (Jvm.Cond.constantLong "FlaringWords" (291 : Nat) (1103515245 : Int64)) ∈ lw_good := lw_in (List.mem_of_getElem? (i := 840) (by decide +kernel)) (by decide +kernel)
theorem wd_841 : (Jvm.Cond.constantLong "FlaringWords" (293 : Nat) (12345 : Int64)) ∈ lw_good := lw_in (List.mem_of_getElem? (i := 841) (by decide +kernel)) (by decide +kernel)
theorem wd_842 : (Jvm.Cond.constantLong "FlaringWords" (295 : Nat) (2147483648 : Int64)) ∈ lw_good := lw_in (List.mem_of_getElem? (i := 842) (by decide +kernel)) (by decide +kernel)
theorem wd_843 : (Jvm.Cond.constant "FlaringWords" (297 : Nat) (65536 : Int32)) ∈ lw_good := lw_in (List.mem_of_getElem? (i := 843) (by decide +kernel)) (by decide +kernel)
theorem wd_847 : (Jvm.Cond.code ({ cls := "FlaringWords", name := "undo", desc := "(I)I" } : Jvm.MethodName) prog_1_method_20_code (2 : Nat) (Option.some Jvm.ClassFile.FieldType.int)) ∈ lw_good := lw_in (List.mem_of_getElem? (i := 847) (by decide +kernel)) (by decide +kernel)
theorem wd_848 : (Jvm.Cond.methodLink "FlaringWords" (254 : Nat) ({ cls := "FlaringWords$Deeds", name := "takeBack", desc := "(ILFlaringWords$News;)V" } : Jvm.MethodName)) ∈ lw_good := lw_in (List.mem_of_getElem? (i := 848) (by decide +kernel)) (by decide +kernel)
theorem wd_849 : (Jvm.Cond.instanceMethod ({ cls := "FlaringWords$Deeds", name := "takeBack", desc := "(ILFlaringWords$News;)V" } : Jvm.MethodName)) ∈ lw_good := lw_in (List.mem_of_getElem? (i := 849) (by decide +kernel)) (by decide +kernel)
theorem wd_850 : (Jvm.Cond.selects "FlaringWords$Deeds" ({ cls := "FlaringWords$Deeds", name := "takeBack", desc := "(ILFlaringWords$News;)V" } : Jvm.MethodName) ({ cls := "FlaringWords$Deeds", name := "takeBack", desc := "(ILFlaringWords$News;)V" } : Jvm.MethodName)) ∈ lw_good := lw_in (List.mem_of_getElem? (i := 850) (by decide +kernel)) (by decide +kernel)
theorem wd_851 : (Jvm.Cond.code ({ cls := "FlaringWords$Deeds", name := "takeBack", desc := "(ILFlaringWords$News;)V" } : Jvm.MethodName) prog_3_method_5_code (3 : Nat) (Option.none : Option Jvm.ClassFile.FieldType)) ∈ lw_good := lw_in (List.mem_of_getElem? (i := 851) (by decide +kernel)) (by decide +kernel)
theorem wd_855 : (Jvm.Cond.code ({ cls := "FlaringWords", name := "write", desc := "(III)I" } : Jvm.MethodName) prog_1_method_21_code (4 : Nat) (Option.some Jvm.ClassFile.FieldType.int)) ∈ lw_good := lw_in (List.mem_of_getElem? (i := 855) (by decide +kernel)) (by decide +kernel)
theorem wd_856 : (Jvm.Cond.methodLink "FlaringWords" (258 : Nat) ({ cls := "FlaringWords$Book", name := "hasRoom", desc := "()Z" } : Jvm.MethodName)) ∈ lw_good := lw_in (List.mem_of_getElem? (i := 856) (by decide +kernel)) (by decide +kernel)
theorem wd_857 : (Jvm.Cond.instanceMethod ({ cls := "FlaringWords$Book", name := "hasRoom", desc := "()Z" } : Jvm.MethodName)) ∈ lw_good := lw_in (List.mem_of_getElem? (i := 857) (by decide +kernel)) (by decide +kernel)
theorem wd_858 : (Jvm.Cond.selects "FlaringWords$Book" ({ cls := "FlaringWords$Book", name := "hasRoom", desc := "()Z" } : Jvm.MethodName) ({ cls := "FlaringWords$Book", name := "hasRoom", desc := "()Z" } : Jvm.MethodName)) ∈ lw_good := lw_in (List.mem_of_getElem? (i := 858) (by decide +kernel)) (by decide +kernel)
theorem wd_859 : (Jvm.Cond.code ({ cls := "FlaringWords$Book", name := "hasRoom", desc := "()Z" } : Jvm.MethodName) prog_2_method_2_code (1 : Nat) (Option.some Jvm.ClassFile.FieldType.boolean)) ∈ lw_good := lw_in (List.mem_of_getElem? (i := 859) (by decide +kernel)) (by decide +kernel)
theorem wd_860 : (Jvm.Cond.methodLink "FlaringWords" (259 : Nat) ({ cls := "FlaringWords$Book", name := "add", desc := "(III)V" } : Jvm.MethodName)) ∈ lw_good := lw_in (List.mem_of_getElem? (i := 860) (by decide +kernel)) (by decide +kernel)
theorem wd_861 : (Jvm.Cond.instanceMethod ({ cls := "FlaringWords$Book", name := "add", desc := "(III)V" } : Jvm.MethodName)) ∈ lw_good := lw_in (List.mem_of_getElem? (i := 861) (by decide +kernel)) (by decide +kernel)
theorem wd_862 : (Jvm.Cond.selects "FlaringWords$Book" ({ cls := "FlaringWords$Book", name := "add", desc := "(III)V" } : Jvm.MethodName) ({ cls := "FlaringWords$Book", name := "add", desc := "(III)V" } : Jvm.MethodName)) ∈ lw_good := lw_in (List.mem_of_getElem? (i := 862) (by decide +kernel)) (by decide +kernel)
theorem wd_863 : (Jvm.Cond.code ({ cls := "FlaringWords$Book", name := "add", desc := "(III)V" } : Jvm.MethodName) prog_2_method_4_code (4 : Nat) (Option.none : Option Jvm.ClassFile.FieldType)) ∈ lw_good := lw_in (List.mem_of_getElem? (i := 863) (by decide +kernel)) (by decide +kernel)
theorem wd_864 : (Jvm.Cond.methodLink "FlaringWords$Book" (25 : Nat) ({ cls := "FlaringWords$Book", name := "hasRoom", desc := "()Z" } : Jvm.MethodName)) ∈ lw_good := lw_in (List.mem_of_getElem? (i := 864) (by decide +kernel)) (by decide +kernel)
theorem wd_868 : (Jvm.Cond.code ({ cls := "FlaringWords", name := "tear", desc := "()I" } : Jvm.MethodName) prog_1_method_22_code (2 : Nat) (Option.some Jvm.ClassFile.FieldType.int)) ∈ lw_good := lw_in (List.mem_of_getElem? (i := 868) (by decide +kernel)) (by decide +kernel)
theorem wd_869 : (Jvm.Cond.methodLink "FlaringWords" (262 : Nat) ({ cls := "FlaringWords$Book", name := "clear", desc := "()V" } : Jvm.MethodName)) ∈ lw_good := lw_in (List.mem_of_getElem? (i := 869) (by decide +kernel)) (by decide +kernel)
theorem wd_870 : (Jvm.Cond.instanceMethod ({ cls := "FlaringWords$Book", name := "clear", desc := "()V" } : Jvm.MethodName)) ∈ lw_good := lw_in (List.mem_of_getElem? (i := 870) (by decide +kernel)) (by decide +kernel)
theorem wd_871 : (Jvm.Cond.selects "FlaringWords$Book" ({ cls := "FlaringWords$Book", name := "clear", desc := "()V" } : Jvm.MethodName) ({ cls := "FlaringWords$Book", name := "clear", desc := "()V" } : Jvm.MethodName)) ∈ lw_good := lw_in (List.mem_of_getElem? (i := 871) (by decide +kernel)) (by decide +kernel)
theorem wd_872 : (Jvm.Cond.code ({ cls := "FlaringWords$Book", name := "clear", desc := "()V" } : Jvm.MethodName) prog_2_method_5_code (1 : Nat) (Option.none : Option Jvm.ClassFile.FieldType)) ∈ lw_good := lw_in (List.mem_of_getElem? (i := 872) (by decide +kernel)) (by decide +kernel)
theorem wd_876 : (Jvm.Cond.code ({ cls := "FlaringWords", name := "seed", desc := "(I)I" } : Jvm.MethodName) prog_1_method_23_code (3 : Nat) (Option.some Jvm.ClassFile.FieldType.int)) ∈ lw_good := lw_in (List.mem_of_getElem? (i := 876) (by decide +kernel)) (by decide +kernel)
theorem wd_880 : (Jvm.Cond.code ({ cls := "FlaringWords", name := "keep", desc := "(I)I" } : Jvm.MethodName) prog_1_method_24_code (3 : Nat) (Option.some Jvm.ClassFile.FieldType.int)) ∈ lw_good := lw_in (List.mem_of_getElem? (i := 880) (by decide +kernel)) (by decide +kernel)
theorem wd_881 : (Jvm.Cond.methodLink "FlaringWords" (263 : Nat) ({ cls := "FlaringWords", name := "imageOf", desc := "(I)LFlaringWords$Image;" } : Jvm.MethodName)) ∈ lw_good := lw_in (List.mem_of_getElem? (i := 881) (by decide +kernel)) (by decide +kernel)
theorem wd_883 : (Jvm.Cond.instanceMethod ({ cls := "FlaringWords", name := "imageOf", desc := "(I)LFlaringWords$Image;" } : Jvm.MethodName)) ∈ lw_good := lw_in (List.mem_of_getElem? (i := 883) (by decide +kernel)) (by decide +kernel)
theorem wd_884 : (Jvm.Cond.code ({ cls := "FlaringWords", name := "imageOf", desc := "(I)LFlaringWords$Image;" } : Jvm.MethodName) prog_1_method_31_code (2 : Nat) (Option.some (Jvm.ClassFile.FieldType.object "FlaringWords$Image"))) ∈ lw_good := lw_in (List.mem_of_getElem? (i := 884) (by decide +kernel)) (by decide +kernel)
theorem wd_885 : (Jvm.Cond.methodLink "FlaringWords" (267 : Nat) ({ cls := "FlaringWords$Image", name := "hold", desc := "(LFlaringWords$News;I)V" } : Jvm.MethodName)) ∈ lw_good := lw_in (List.mem_of_getElem? (i := 885) (by decide +kernel)) (by decide +kernel)
theorem wd_886 : (Jvm.Cond.instanceMethod ({ cls := "FlaringWords$Image", name := "hold", desc := "(LFlaringWords$News;I)V" } : Jvm.MethodName)) ∈ lw_good := lw_in (List.mem_of_getElem? (i := 886) (by decide +kernel)) (by decide +kernel)
theorem wd_887 : (Jvm.Cond.selects "FlaringWords$Image" ({ cls := "FlaringWords$Image", name := "hold", desc := "(LFlaringWords$News;I)V" } : Jvm.MethodName) ({ cls := "FlaringWords$Image", name := "hold", desc := "(LFlaringWords$News;I)V" } : Jvm.MethodName)) ∈ lw_good := lw_in (List.mem_of_getElem? (i := 887) (by decide +kernel)) (by decide +kernel)
theorem wd_888 : (Jvm.Cond.code ({ cls := "FlaringWords$Image", name := "hold", desc := "(LFlaringWords$News;I)V" } : Jvm.MethodName) prog_6_method_2_code (3 : Nat) (Option.none : Option Jvm.ClassFile.FieldType)) ∈ lw_good := lw_in (List.mem_of_getElem? (i := 888) (by decide +kernel)) (by decide +kernel)
theorem wd_889 : (Jvm.Cond.methodLink "FlaringWords$Image" (24 : Nat) ({ cls := "FlaringWords$News", name := "become", desc := "(LFlaringWords$News;)V" } : Jvm.MethodName)) ∈ lw_good := lw_in (List.mem_of_getElem? (i := 889) (by decide +kernel)) (by decide +kernel)
theorem wd_890 : (Jvm.Cond.methodLink "FlaringWords" (271 : Nat) ({ cls := "FlaringWords$Deeds", name := "forget", desc := "()V" } : Jvm.MethodName)) ∈ lw_good := lw_in (List.mem_of_getElem? (i := 890) (by decide +kernel)) (by decide +kernel)
theorem wd_891 : (Jvm.Cond.instanceMethod ({ cls := "FlaringWords$Deeds", name := "forget", desc := "()V" } : Jvm.MethodName)) ∈ lw_good := lw_in (List.mem_of_getElem? (i := 891) (by decide +kernel)) (by decide +kernel)
theorem wd_892 : (Jvm.Cond.selects "FlaringWords$Deeds" ({ cls := "FlaringWords$Deeds", name := "forget", desc := "()V" } : Jvm.MethodName) ({ cls := "FlaringWords$Deeds", name := "forget", desc := "()V" } : Jvm.MethodName)) ∈ lw_good := lw_in (List.mem_of_getElem? (i := 892) (by decide +kernel)) (by decide +kernel)
theorem wd_893 : (Jvm.Cond.code ({ cls := "FlaringWords$Deeds", name := "forget", desc := "()V" } : Jvm.MethodName) prog_3_method_3_code (1 : Nat) (Option.none : Option Jvm.ClassFile.FieldType)) ∈ lw_good := lw_in (List.mem_of_getElem? (i := 893) (by decide +kernel)) (by decide +kernel)
theorem wd_897 : (Jvm.Cond.code ({ cls := "FlaringWords", name := "goBack", desc := "(I)I" } : Jvm.MethodName) prog_1_method_25_code (3 : Nat) (Option.some Jvm.ClassFile.FieldType.int)) ∈ lw_good := lw_in (List.mem_of_getElem? (i := 897) (by decide +kernel)) (by decide +kernel)
theorem wd_898 : (Jvm.Cond.methodLink "FlaringWords" (274 : Nat) ({ cls := "FlaringWords$Image", name := "isHeld", desc := "()Z" } : Jvm.MethodName)) ∈ lw_good := lw_in (List.mem_of_getElem? (i := 898) (by decide +kernel)) (by decide +kernel)
theorem wd_899 : (Jvm.Cond.instanceMethod ({ cls := "FlaringWords$Image", name := "isHeld", desc := "()Z" } : Jvm.MethodName)) ∈ lw_good := lw_in (List.mem_of_getElem? (i := 899) (by decide +kernel)) (by decide +kernel)
theorem wd_900 : (Jvm.Cond.selects "FlaringWords$Image" ({ cls := "FlaringWords$Image", name := "isHeld", desc := "()Z" } : Jvm.MethodName) ({ cls := "FlaringWords$Image", name := "isHeld", desc := "()Z" } : Jvm.MethodName)) ∈ lw_good := lw_in (List.mem_of_getElem? (i := 900) (by decide +kernel)) (by decide +kernel)
theorem wd_901 : (Jvm.Cond.code ({ cls := "FlaringWords$Image", name := "isHeld", desc := "()Z" } : Jvm.MethodName) prog_6_method_3_code (1 : Nat) (Option.some Jvm.ClassFile.FieldType.boolean)) ∈ lw_good := lw_in (List.mem_of_getElem? (i := 901) (by decide +kernel)) (by decide +kernel)
theorem wd_902 : (Jvm.Cond.methodLink "FlaringWords" (277 : Nat) ({ cls := "FlaringWords$Image", name := "heldNews", desc := "()LFlaringWords$News;" } : Jvm.MethodName)) ∈ lw_good := lw_in (List.mem_of_getElem? (i := 902) (by decide +kernel)) (by decide +kernel)
theorem wd_903 : (Jvm.Cond.instanceMethod ({ cls := "FlaringWords$Image", name := "heldNews", desc := "()LFlaringWords$News;" } : Jvm.MethodName)) ∈ lw_good := lw_in (List.mem_of_getElem? (i := 903) (by decide +kernel)) (by decide +kernel)
theorem wd_904 : (Jvm.Cond.selects "FlaringWords$Image" ({ cls := "FlaringWords$Image", name := "heldNews", desc := "()LFlaringWords$News;" } : Jvm.MethodName) ({ cls := "FlaringWords$Image", name := "heldNews", desc := "()LFlaringWords$News;" } : Jvm.MethodName)) ∈ lw_good := lw_in (List.mem_of_getElem? (i := 904) (by decide +kernel)) (by decide +kernel)
theorem wd_905 : (Jvm.Cond.code ({ cls := "FlaringWords$Image", name := "heldNews", desc := "()LFlaringWords$News;" } : Jvm.MethodName) prog_6_method_4_code (1 : Nat) (Option.some (Jvm.ClassFile.FieldType.object "FlaringWords$News"))) ∈ lw_good := lw_in (List.mem_of_getElem? (i := 905) (by decide +kernel)) (by decide +kernel)
theorem wd_906 : (Jvm.Cond.methodLink "FlaringWords" (281 : Nat) ({ cls := "FlaringWords$News", name := "become", desc := "(LFlaringWords$News;)V" } : Jvm.MethodName)) ∈ lw_good := lw_in (List.mem_of_getElem? (i := 906) (by decide +kernel)) (by decide +kernel)
theorem wd_907 : (Jvm.Cond.methodLink "FlaringWords" (285 : Nat) ({ cls := "FlaringWords$Image", name := "heldSeed", desc := "()I" } : Jvm.MethodName)) ∈ lw_good := lw_in (List.mem_of_getElem? (i := 907) (by decide +kernel)) (by decide +kernel)
theorem wd_908 : (Jvm.Cond.instanceMethod ({ cls := "FlaringWords$Image", name := "heldSeed", desc := "()I" } : Jvm.MethodName)) ∈ lw_good := lw_in (List.mem_of_getElem? (i := 908) (by decide +kernel)) (by decide +kernel)
theorem wd_909 : (Jvm.Cond.selects "FlaringWords$Image" ({ cls := "FlaringWords$Image", name := "heldSeed", desc := "()I" } : Jvm.MethodName) ({ cls := "FlaringWords$Image", name := "heldSeed", desc := "()I" } : Jvm.MethodName)) ∈ lw_good := lw_in (List.mem_of_getElem? (i := 909) (by decide +kernel)) (by decide +kernel)
theorem wd_910 : (Jvm.Cond.code ({ cls := "FlaringWords$Image", name := "heldSeed", desc := "()I" } : Jvm.MethodName) prog_6_method_5_code (1 : Nat) (Option.some Jvm.ClassFile.FieldType.int)) ∈ lw_good := lw_in (List.mem_of_getElem? (i := 910) (by decide +kernel)) (by decide +kernel)
theorem wd_911 : (Jvm.Cond.classLink "FlaringWordsLaw" (10 : Nat) "FlaringWordsModel") ∈ lw_good := lw_in (List.mem_of_getElem? (i := 911) (by decide +kernel)) (by decide +kernel)
theorem wd_912 : (Jvm.Cond.instantiable "FlaringWordsModel" (24 : Nat)) ∈ lw_good := lw_in (List.mem_of_getElem? (i := 912) (by decide +kernel)) (by decide +kernel)
theorem wd_915 : (Jvm.Cond.code ({ cls := "FlaringWordsModel", name := "<init>", desc := "()V" } : Jvm.MethodName) prog_13_method_1_code (1 : Nat) (Option.none : Option Jvm.ClassFile.FieldType)) ∈ lw_good := lw_in (List.mem_of_getElem? (i := 915) (by decide +kernel)) (by decide +kernel)
theorem wd_916 : (Jvm.Cond.methodLink "FlaringWordsModel" (1 : Nat) ({ cls := "java/lang/Object", name := "<init>", desc := "()V" } : Jvm.MethodName)) ∈ lw_good := lw_in (List.mem_of_getElem? (i := 916) (by decide +kernel)) (by decide +kernel)
theorem wd_917 : (Jvm.Cond.fieldLink "FlaringWordsModel" (7 : Nat) "FlaringWordsModel" "w" "[I") ∈ lw_good := lw_in (List.mem_of_getElem? (i := 917) (by decide +kernel)) (by decide +kernel)
theorem wd_918 : (Jvm.Cond.fieldLink "FlaringWordsModel" (63 : Nat) "FlaringWordsModel" "known" "I") ∈ lw_good := lw_in (List.mem_of_getElem? (i := 918) (by decide +kernel)) (by decide +kernel)
theorem wd_919 : (Jvm.Cond.fieldLink "FlaringWordsModel" (231 : Nat) "FlaringWordsModel" "kept" "I") ∈ lw_good := lw_in (List.mem_of_getElem? (i := 919) (by decide +kernel)) (by decide +kernel)
theorem wd_920 : (Jvm.Cond.fieldLink "FlaringWordsModel" (173 : Nat) "FlaringWordsModel" "seed" "I") ∈ lw_good := lw_in (List.mem_of_getElem? (i := 920) (by decide +kernel)) (by decide +kernel)
theorem wd_921 : (Jvm.Cond.fieldLink "FlaringWordsModel" (13 : Nat) "FlaringWordsModel" "imageSeed" "[I") ∈ lw_good := lw_in (List.mem_of_getElem? (i := 921) (by decide +kernel)) (by decide +kernel)
theorem wd_922 : (Jvm.Cond.fieldLink "FlaringWordsModel" (16 : Nat) "FlaringWordsModel" "text" "[I") ∈ lw_good := lw_in (List.mem_of_getElem? (i := 922) (by decide +kernel)) (by decide +kernel)
theorem wd_923 : (Jvm.Cond.fieldLink "FlaringWordsModel" (119 : Nat) "FlaringWordsModel" "size" "I") ∈ lw_good := lw_in (List.mem_of_getElem? (i := 923) (by decide +kernel)) (by decide +kernel)
theorem wd_924 : (Jvm.Cond.fieldLink "FlaringWordsModel" (19 : Nat) "FlaringWordsModel" "faultAt" "I") ∈ lw_good := lw_in (List.mem_of_getElem? (i := 924) (by decide +kernel)) (by decide +kernel)
theorem wd_925 : (Jvm.Cond.fieldLink "FlaringWordsModel" (23 : Nat) "FlaringWordsModel" "bookOf" "[I") ∈ lw_good := lw_in (List.mem_of_getElem? (i := 925) (by decide +kernel)) (by decide +kernel)
theorem wd_926 : (Jvm.Cond.fieldLink "FlaringWordsModel" (26 : Nat) "FlaringWordsModel" "bookAt" "[I") ∈ lw_good := lw_in (List.mem_of_getElem? (i := 926) (by decide +kernel)) (by decide +kernel)
theorem wd_927 : (Jvm.Cond.fieldLink "FlaringWordsModel" (29 : Nat) "FlaringWordsModel" "bookIs" "[I") ∈ lw_good := lw_in (List.mem_of_getElem? (i := 927) (by decide +kernel)) (by decide +kernel)
theorem wd_928 : (Jvm.Cond.fieldLink "FlaringWordsModel" (161 : Nat) "FlaringWordsModel" "written" "I") ∈ lw_good := lw_in (List.mem_of_getElem? (i := 928) (by decide +kernel)) (by decide +kernel)
theorem wd_929 : (Jvm.Cond.fieldLink "FlaringWordsModel" (32 : Nat) "FlaringWordsModel" "left" "[I") ∈ lw_good := lw_in (List.mem_of_getElem? (i := 929) (by decide +kernel)) (by decide +kernel)
theorem wd_930 : (Jvm.Cond.fieldLink "FlaringWordsModel" (35 : Nat) "FlaringWordsModel" "levels" "[I") ∈ lw_good := lw_in (List.mem_of_getElem? (i := 930) (by decide +kernel)) (by decide +kernel)
theorem wd_931 : (Jvm.Cond.fieldLink "FlaringWordsModel" (38 : Nat) "FlaringWordsModel" "flareWord" "[I") ∈ lw_good := lw_in (List.mem_of_getElem? (i := 931) (by decide +kernel)) (by decide +kernel)
theorem wd_932 : (Jvm.Cond.fieldLink "FlaringWordsModel" (41 : Nat) "FlaringWordsModel" "flareLevel" "[I") ∈ lw_good := lw_in (List.mem_of_getElem? (i := 932) (by decide +kernel)) (by decide +kernel)
theorem wd_933 : (Jvm.Cond.fieldLink "FlaringWordsModel" (44 : Nat) "FlaringWordsModel" "flareFirst" "[I") ∈ lw_good := lw_in (List.mem_of_getElem? (i := 933) (by decide +kernel)) (by decide +kernel)
theorem wd_934 : (Jvm.Cond.fieldLink "FlaringWordsModel" (47 : Nat) "FlaringWordsModel" "flareLast" "[I") ∈ lw_good := lw_in (List.mem_of_getElem? (i := 934) (by decide +kernel)) (by decide +kernel)
theorem wd_935 : (Jvm.Cond.fieldLink "FlaringWordsModel" (50 : Nat) "FlaringWordsModel" "heap" "[I") ∈ lw_good := lw_in (List.mem_of_getElem? (i := 935) (by decide +kernel)) (by decide +kernel)
theorem wd_936 : (Jvm.Cond.fieldLink "FlaringWordsModel" (88 : Nat) "FlaringWordsModel" "flares" "I") ∈ lw_good := lw_in (List.mem_of_getElem? (i := 936) (by decide +kernel)) (by decide +kernel)
theorem wd_937 : (Jvm.Cond.fieldLink "FlaringWordsModel" (122 : Nat) "FlaringWordsModel" "state" "I") ∈ lw_good := lw_in (List.mem_of_getElem? (i := 937) (by decide +kernel)) (by decide +kernel)
theorem wd_938 : (Jvm.Cond.fieldLink "FlaringWordsModel" (53 : Nat) "FlaringWordsModel" "readDay" "[I") ∈ lw_good := lw_in (List.mem_of_getElem? (i := 938) (by decide +kernel)) (by decide +kernel)
theorem wd_939 : (Jvm.Cond.fieldLink "FlaringWordsModel" (56 : Nat) "FlaringWordsModel" "readSet" "[I") ∈ lw_good := lw_in (List.mem_of_getElem? (i := 939) (by decide +kernel)) (by decide +kernel)
theorem wd_940 : (Jvm.Cond.fieldLink "FlaringWordsModel" (132 : Nat) "FlaringWordsModel" "read" "I") ∈ lw_good := lw_in (List.mem_of_getElem? (i := 940) (by decide +kernel)) (by decide +kernel)
theorem wd_941 : (Jvm.Cond.laysFinal "FlaringWordsModel" "FlaringWordsModel" "w" "[I") ∈ lw_good := lw_in (List.mem_of_getElem? (i := 941) (by decide +kernel)) (by decide +kernel)
theorem wd_943 : (Jvm.Cond.lays "FlaringWordsModel" "FlaringWordsModel" "known" "I") ∈ lw_good := lw_in (List.mem_of_getElem? (i := 943) (by decide +kernel)) (by decide +kernel)
theorem wd_945 : (Jvm.Cond.lays "FlaringWordsModel" "FlaringWordsModel" "kept" "I") ∈ lw_good := lw_in (List.mem_of_getElem? (i := 945) (by decide +kernel)) (by decide +kernel)
theorem wd_947 : (Jvm.Cond.lays "FlaringWordsModel" "FlaringWordsModel" "seed" "I") ∈ lw_good := lw_in (List.mem_of_getElem? (i := 947) (by decide +kernel)) (by decide +kernel)
theorem wd_949 : (Jvm.Cond.laysFinal "FlaringWordsModel" "FlaringWordsModel" "imageSeed" "[I") ∈ lw_good := lw_in (List.mem_of_getElem? (i := 949) (by decide +kernel)) (by decide +kernel)
theorem wd_951 : (Jvm.Cond.laysFinal "FlaringWordsModel" "FlaringWordsModel" "text" "[I") ∈ lw_good := lw_in (List.mem_of_getElem? (i := 951) (by decide +kernel)) (by decide +kernel)
theorem wd_953 : (Jvm.Cond.lays "FlaringWordsModel" "FlaringWordsModel" "size" "I") ∈ lw_good := lw_in (List.mem_of_getElem? (i := 953) (by decide +kernel)) (by decide +kernel)
theorem wd_955 : (Jvm.Cond.lays "FlaringWordsModel" "FlaringWordsModel" "faultAt" "I") ∈ lw_good := lw_in (List.mem_of_getElem? (i := 955) (by decide +kernel)) (by decide +kernel)
theorem wd_957 : (Jvm.Cond.laysFinal "FlaringWordsModel" "FlaringWordsModel" "bookOf" "[I") ∈ lw_good := lw_in (List.mem_of_getElem? (i := 957) (by decide +kernel)) (by decide +kernel)
theorem wd_959 : (Jvm.Cond.laysFinal "FlaringWordsModel" "FlaringWordsModel" "bookAt" "[I") ∈ lw_good := lw_in (List.mem_of_getElem? (i := 959) (by decide +kernel)) (by decide +kernel)
theorem wd_961 : (Jvm.Cond.laysFinal "FlaringWordsModel" "FlaringWordsModel" "bookIs" "[I") ∈ lw_good := lw_in (List.mem_of_getElem? (i := 961) (by decide +kernel)) (by decide +kernel)
theorem wd_963 : (Jvm.Cond.lays "FlaringWordsModel" "FlaringWordsModel" "written" "I") ∈ lw_good := lw_in (List.mem_of_getElem? (i := 963) (by decide +kernel)) (by decide +kernel)
theorem wd_965 : (Jvm.Cond.laysFinal "FlaringWordsModel" "FlaringWordsModel" "left" "[I") ∈ lw_good := lw_in (List.mem_of_getElem? (i := 965) (by decide +kernel)) (by decide +kernel)
theorem wd_967 : (Jvm.Cond.laysFinal "FlaringWordsModel" "FlaringWordsModel" "levels" "[I") ∈ lw_good := lw_in (List.mem_of_getElem? (i := 967) (by decide +kernel)) (by decide +kernel)
theorem wd_969 : (Jvm.Cond.laysFinal "FlaringWordsModel" "FlaringWordsModel" "flareWord" "[I") ∈ lw_good := lw_in (List.mem_of_getElem? (i := 969) (by decide +kernel)) (by decide +kernel)
theorem wd_971 : (Jvm.Cond.laysFinal "FlaringWordsModel" "FlaringWordsModel" "flareLevel" "[I") ∈ lw_good := lw_in (List.mem_of_getElem? (i := 971) (by decide +kernel)) (by decide +kernel)
theorem wd_973 : (Jvm.Cond.laysFinal "FlaringWordsModel" "FlaringWordsModel" "flareFirst" "[I") ∈ lw_good := lw_in (List.mem_of_getElem? (i := 973) (by decide +kernel)) (by decide +kernel)
theorem wd_975 : (Jvm.Cond.laysFinal "FlaringWordsModel" "FlaringWordsModel" "flareLast" "[I") ∈ lw_good := lw_in (List.mem_of_getElem? (i := 975) (by decide +kernel)) (by decide +kernel)
theorem wd_977 : (Jvm.Cond.laysFinal "FlaringWordsModel" "FlaringWordsModel" "heap" "[I") ∈ lw_good := lw_in (List.mem_of_getElem? (i := 977) (by decide +kernel)) (by decide +kernel)
theorem wd_979 : (Jvm.Cond.lays "FlaringWordsModel" "FlaringWordsModel" "flares" "I") ∈ lw_good := lw_in (List.mem_of_getElem? (i := 979) (by decide +kernel)) (by decide +kernel)
theorem wd_981 : (Jvm.Cond.lays "FlaringWordsModel" "FlaringWordsModel" "state" "I") ∈ lw_good := lw_in (List.mem_of_getElem? (i := 981) (by decide +kernel)) (by decide +kernel)
theorem wd_983 : (Jvm.Cond.laysFinal "FlaringWordsModel" "FlaringWordsModel" "readDay" "[I") ∈ lw_good := lw_in (List.mem_of_getElem? (i := 983) (by decide +kernel)) (by decide +kernel)
theorem wd_985 : (Jvm.Cond.laysFinal "FlaringWordsModel" "FlaringWordsModel" "readSet" "[I") ∈ lw_good := lw_in (List.mem_of_getElem? (i := 985) (by decide +kernel)) (by decide +kernel)
theorem wd_987 : (Jvm.Cond.lays "FlaringWordsModel" "FlaringWordsModel" "read" "I") ∈ lw_good := lw_in (List.mem_of_getElem? (i := 987) (by decide +kernel)) (by decide +kernel)
theorem wd_993 : (Jvm.Cond.code ({ cls := "FlaringWordsModel", name := "feed", desc := "(I)I" } : Jvm.MethodName) prog_13_method_26_code (2 : Nat) (Option.some Jvm.ClassFile.FieldType.int)) ∈ lw_good := lw_in (List.mem_of_getElem? (i := 993) (by decide +kernel)) (by decide +kernel)
theorem wd_994 : (Jvm.Cond.constantLong "FlaringWordsModel" (145 : Nat) (255 : Int64)) ∈ lw_good := lw_in (List.mem_of_getElem? (i := 994) (by decide +kernel)) (by decide +kernel)
theorem wd_995 : (Jvm.Cond.methodLink "FlaringWordsModel" (94 : Nat) ({ cls := "FlaringWordsModel", name := "in", desc := "(JJJ)Z" } : Jvm.MethodName)) ∈ lw_good := lw_in (List.mem_of_getElem? (i := 995) (by decide +kernel)) (by decide +kernel)
theorem wd_996 : (Jvm.Cond.static ({ cls := "FlaringWordsModel", name := "in", desc := "(JJJ)Z" } : Jvm.MethodName)) ∈ lw_good := lw_in (List.mem_of_getElem? (i := 996) (by decide +kernel)) (by decide +kernel)
theorem wd_997 : (Jvm.Cond.code ({ cls := "FlaringWordsModel", name := "in", desc := "(JJJ)Z" } : Jvm.MethodName) prog_13_method_2_code (6 : Nat) (Option.some Jvm.ClassFile.FieldType.boolean)) ∈ lw_good := lw_in (List.mem_of_getElem? (i := 997) (by decide +kernel)) (by decide +kernel)
theorem wd_998 : (Jvm.Cond.constant "FlaringWordsModel" (147 : Nat) (-1000000002 : Int32)) ∈ lw_good := lw_in (List.mem_of_getElem? (i := 998) (by decide +kernel)) (by decide +kernel)
theorem wd_999 : (Jvm.Cond.constant "FlaringWordsModel" (148 : Nat) (-1000000004 : Int32)) ∈ lw_good := lw_in (List.mem_of_getElem? (i := 999) (by decide +kernel)) (by decide +kernel)
theorem wd_1003 : (Jvm.Cond.code ({ cls := "FlaringWordsModel", name := "pieces", desc := "()I" } : Jvm.MethodName) prog_13_method_28_code (3 : Nat) (Option.some Jvm.ClassFile.FieldType.int)) ∈ lw_good := lw_in (List.mem_of_getElem? (i := 1003) (by decide +kernel)) (by decide +kernel)
theorem wd_1004 : (Jvm.Cond.methodLink "FlaringWordsModel" (149 : Nat) ({ cls := "FlaringWordsModel", name := "readText", desc := "()I" } : Jvm.MethodName)) ∈ lw_good := lw_in (List.mem_of_getElem? (i := 1004) (by decide +kernel)) (by decide +kernel)
theorem wd_1006 : (Jvm.Cond.instanceMethod ({ cls := "FlaringWordsModel", name := "readText", desc := "()I" } : Jvm.MethodName)) ∈ lw_good := lw_in (List.mem_of_getElem? (i := 1006) (by decide +kernel)) (by decide +kernel)
theorem wd_1007 : (Jvm.Cond.code ({ cls := "FlaringWordsModel", name := "readText", desc := "()I" } : Jvm.MethodName) prog_13_method_25_code (3 : Nat) (Option.some Jvm.ClassFile.FieldType.int)) ∈ lw_good := lw_in (List.mem_of_getElem? (i := 1007) (by decide +kernel)) (by decide +kernel)
theorem wd_1008 : (Jvm.Cond.methodLink "FlaringWordsModel" (139 : Nat) ({ cls := "FlaringWordsModel", name := "faultOf", desc := "(I)I" } : Jvm.MethodName)) ∈ lw_good := lw_in (List.mem_of_getElem? (i := 1008) (by decide +kernel)) (by decide +kernel)
theorem wd_1010 : (Jvm.Cond.instanceMethod ({ cls := "FlaringWordsModel", name := "faultOf", desc := "(I)I" } : Jvm.MethodName)) ∈ lw_good := lw_in (List.mem_of_getElem? (i := 1010) (by decide +kernel)) (by decide +kernel)
theorem wd_1011 : (Jvm.Cond.code ({ cls := "FlaringWordsModel", name := "faultOf", desc := "(I)I" } : Jvm.MethodName) prog_13_method_23_code (3 : Nat) (Option.some Jvm.ClassFile.FieldType.int)) ∈ lw_good := lw_in (List.mem_of_getElem? (i := 1011) (by decide +kernel)) (by decide +kernel)
theorem wd_1012 : (Jvm.Cond.methodLink "FlaringWordsModel" (125 : Nat) ({ cls := "FlaringWordsModel", name := "isFigure", desc := "(I)Z" } : Jvm.MethodName)) ∈ lw_good := lw_in (List.mem_of_getElem? (i := 1012) (by decide +kernel)) (by decide +kernel)
theorem wd_1013 : (Jvm.Cond.static ({ cls := "FlaringWordsModel", name := "isFigure", desc := "(I)Z" } : Jvm.MethodName)) ∈ lw_good := lw_in (List.mem_of_getElem? (i := 1013) (by decide +kernel)) (by decide +kernel)
theorem wd_1014 : (Jvm.Cond.code ({ cls := "FlaringWordsModel", name := "isFigure", desc := "(I)Z" } : Jvm.MethodName) prog_13_method_21_code (1 : Nat) (Option.some Jvm.ClassFile.FieldType.boolean)) ∈ lw_good := lw_in (List.mem_of_getElem? (i := 1014) (by decide +kernel)) (by decide +kernel)
theorem wd_1015 : (Jvm.Cond.constantLong "FlaringWordsModel" (115 : Nat) (48 : Int64)) ∈ lw_good := lw_in (List.mem_of_getElem? (i := 1015) (by decide +kernel)) (by decide +kernel)
theorem wd_1016 : (Jvm.Cond.constantLong "FlaringWordsModel" (117 : Nat) (57 : Int64)) ∈ lw_good := lw_in (List.mem_of_getElem? (i := 1016) (by decide +kernel)) (by decide +kernel)
theorem wd_1017 : (Jvm.Cond.methodLink "FlaringWordsModel" (128 : Nat) ({ cls := "FlaringWordsModel", name := "dayAt", desc := "(I)I" } : Jvm.MethodName)) ∈ lw_good := lw_in (List.mem_of_getElem? (i := 1017) (by decide +kernel)) (by decide +kernel)
theorem wd_1019 : (Jvm.Cond.instanceMethod ({ cls := "FlaringWordsModel", name := "dayAt", desc := "(I)I" } : Jvm.MethodName)) ∈ lw_good := lw_in (List.mem_of_getElem? (i := 1019) (by decide +kernel)) (by decide +kernel)
theorem wd_1020 : (Jvm.Cond.code ({ cls := "FlaringWordsModel", name := "dayAt", desc := "(I)I" } : Jvm.MethodName) prog_13_method_22_code (4 : Nat) (Option.some Jvm.ClassFile.FieldType.int)) ∈ lw_good := lw_in (List.mem_of_getElem? (i := 1020) (by decide +kernel)) (by decide +kernel)
theorem wd_1021 : (Jvm.Cond.constantLong "FlaringWordsModel" (135 : Nat) (97 : Int64)) ∈ lw_good := lw_in (List.mem_of_getElem? (i := 1021) (by decide +kernel)) (by decide +kernel)
theorem wd_1022 : (Jvm.Cond.constantLong "FlaringWordsModel" (137 : Nat) (104 : Int64)) ∈ lw_good := lw_in (List.mem_of_getElem? (i := 1022) (by decide +kernel)) (by decide +kernel)
theorem wd_1023 : (Jvm.Cond.methodLink "FlaringWordsModel" (142 : Nat) ({ cls := "FlaringWordsModel", name := "goOn", desc := "(I)V" } : Jvm.MethodName)) ∈ lw_good := lw_in (List.mem_of_getElem? (i := 1023) (by decide +kernel)) (by decide +kernel)
theorem wd_1025 : (Jvm.Cond.instanceMethod ({ cls := "FlaringWordsModel", name := "goOn", desc := "(I)V" } : Jvm.MethodName)) ∈ lw_good := lw_in (List.mem_of_getElem? (i := 1025) (by decide +kernel)) (by decide +kernel)
theorem wd_1026 : (Jvm.Cond.code ({ cls := "FlaringWordsModel", name := "goOn", desc := "(I)V" } : Jvm.MethodName) prog_13_method_24_code (3 : Nat) (Option.none : Option Jvm.ClassFile.FieldType)) ∈ lw_good := lw_in (List.mem_of_getElem? (i := 1026) (by decide +kernel)) (by decide +kernel)
theorem wd_1027 : (Jvm.Cond.methodLink "FlaringWordsModel" (153 : Nat) ({ cls := "FlaringWordsModel", name := "remember", desc := "()V" } : Jvm.MethodName)) ∈ lw_good := lw_in (List.mem_of_getElem? (i := 1027) (by decide +kernel)) (by decide +kernel)
theorem wd_1029 : (Jvm.Cond.instanceMethod ({ cls := "FlaringWordsModel", name := "remember", desc := "()V" } : Jvm.MethodName)) ∈ lw_good := lw_in (List.mem_of_getElem? (i := 1029) (by decide +kernel)) (by decide +kernel)
theorem wd_1030 : (Jvm.Cond.code ({ cls := "FlaringWordsModel", name := "remember", desc := "()V" } : Jvm.MethodName) prog_13_method_5_code (2 : Nat) (Option.none : Option Jvm.ClassFile.FieldType)) ∈ lw_good := lw_in (List.mem_of_getElem? (i := 1030) (by decide +kernel)) (by decide +kernel)
theorem wd_1031 : (Jvm.Cond.methodLink "FlaringWordsModel" (59 : Nat) ({ cls := "FlaringWordsModel", name := "copyRow", desc := "(II)V" } : Jvm.MethodName)) ∈ lw_good := lw_in (List.mem_of_getElem? (i := 1031) (by decide +kernel)) (by decide +kernel)
theorem wd_1033 : (Jvm.Cond.instanceMethod ({ cls := "FlaringWordsModel", name := "copyRow", desc := "(II)V" } : Jvm.MethodName)) ∈ lw_good := lw_in (List.mem_of_getElem? (i := 1033) (by decide +kernel)) (by decide +kernel)
theorem wd_1034 : (Jvm.Cond.code ({ cls := "FlaringWordsModel", name := "copyRow", desc := "(II)V" } : Jvm.MethodName) prog_13_method_4_code (4 : Nat) (Option.none : Option Jvm.ClassFile.FieldType)) ∈ lw_good := lw_in (List.mem_of_getElem? (i := 1034) (by decide +kernel)) (by decide +kernel)
theorem wd_1035 : (Jvm.Cond.methodLink "FlaringWordsModel" (156 : Nat) ({ cls := "FlaringWordsModel", name := "add", desc := "(II)V" } : Jvm.MethodName)) ∈ lw_good := lw_in (List.mem_of_getElem? (i := 1035) (by decide +kernel)) (by decide +kernel)
theorem wd_1037 : (Jvm.Cond.instanceMethod ({ cls := "FlaringWordsModel", name := "add", desc := "(II)V" } : Jvm.MethodName)) ∈ lw_good := lw_in (List.mem_of_getElem? (i := 1037) (by decide +kernel)) (by decide +kernel)
theorem wd_1038 : (Jvm.Cond.code ({ cls := "FlaringWordsModel", name := "add", desc := "(II)V" } : Jvm.MethodName) prog_13_method_27_code (3 : Nat) (Option.none : Option Jvm.ClassFile.FieldType)) ∈ lw_good := lw_in (List.mem_of_getElem? (i := 1038) (by decide +kernel)) (by decide +kernel)
theorem wd_1042 : (Jvm.Cond.code ({ cls := "FlaringWordsModel", name := "fault", desc := "()I" } : Jvm.MethodName) prog_13_method_29_code (1 : Nat) (Option.some Jvm.ClassFile.FieldType.int)) ∈ lw_good := lw_in (List.mem_of_getElem? (i := 1042) (by decide +kernel)) (by decide +kernel)
theorem wd_1046 : (Jvm.Cond.code ({ cls := "FlaringWordsModel", name := "told", desc := "(I)I" } : Jvm.MethodName) prog_13_method_35_code (2 : Nat) (Option.some Jvm.ClassFile.FieldType.int)) ∈ lw_good := lw_in (List.mem_of_getElem? (i := 1046) (by decide +kernel)) (by decide +kernel)
theorem wd_1047 : (Jvm.Cond.methodLink "FlaringWordsModel" (176 : Nat) ({ cls := "FlaringWordsModel", name := "flaresNow", desc := "()I" } : Jvm.MethodName)) ∈ lw_good := lw_in (List.mem_of_getElem? (i := 1047) (by decide +kernel)) (by decide +kernel)
theorem wd_1049 : (Jvm.Cond.instanceMethod ({ cls := "FlaringWordsModel", name := "flaresNow", desc := "()I" } : Jvm.MethodName)) ∈ lw_good := lw_in (List.mem_of_getElem? (i := 1049) (by decide +kernel)) (by decide +kernel)
theorem wd_1050 : (Jvm.Cond.code ({ cls := "FlaringWordsModel", name := "flaresNow", desc := "()I" } : Jvm.MethodName) prog_13_method_33_code (1 : Nat) (Option.some Jvm.ClassFile.FieldType.int)) ∈ lw_good := lw_in (List.mem_of_getElem? (i := 1050) (by decide +kernel)) (by decide +kernel)
theorem wd_1051 : (Jvm.Cond.methodLink "FlaringWordsModel" (102 : Nat) ({ cls := "FlaringWordsModel", name := "layFlares", desc := "()V" } : Jvm.MethodName)) ∈ lw_good := lw_in (List.mem_of_getElem? (i := 1051) (by decide +kernel)) (by decide +kernel)
theorem wd_1053 : (Jvm.Cond.instanceMethod ({ cls := "FlaringWordsModel", name := "layFlares", desc := "()V" } : Jvm.MethodName)) ∈ lw_good := lw_in (List.mem_of_getElem? (i := 1053) (by decide +kernel)) (by decide +kernel)
theorem wd_1054 : (Jvm.Cond.code ({ cls := "FlaringWordsModel", name := "layFlares", desc := "()V" } : Jvm.MethodName) prog_13_method_14_code (3 : Nat) (Option.none : Option Jvm.ClassFile.FieldType)) ∈ lw_good := lw_in (List.mem_of_getElem? (i := 1054) (by decide +kernel)) (by decide +kernel)
theorem wd_1055 : (Jvm.Cond.methodLink "FlaringWordsModel" (84 : Nat) ({ cls := "FlaringWordsModel", name := "layLevels", desc := "(I)V" } : Jvm.MethodName)) ∈ lw_good := lw_in (List.mem_of_getElem? (i := 1055) (by decide +kernel)) (by decide +kernel)
theorem wd_1057 : (Jvm.Cond.instanceMethod ({ cls := "FlaringWordsModel", name := "layLevels", desc := "(I)V" } : Jvm.MethodName)) ∈ lw_good := lw_in (List.mem_of_getElem? (i := 1057) (by decide +kernel)) (by decide +kernel)
theorem wd_1058 : (Jvm.Cond.code ({ cls := "FlaringWordsModel", name := "layLevels", desc := "(I)V" } : Jvm.MethodName) prog_13_method_11_code (4 : Nat) (Option.none : Option Jvm.ClassFile.FieldType)) ∈ lw_good := lw_in (List.mem_of_getElem? (i := 1058) (by decide +kernel)) (by decide +kernel)
theorem wd_1059 : (Jvm.Cond.methodLink "FlaringWordsModel" (81 : Nat) ({ cls := "FlaringWordsModel", name := "bestLevel", desc := "(III)I" } : Jvm.MethodName)) ∈ lw_good := lw_in (List.mem_of_getElem? (i := 1059) (by decide +kernel)) (by decide +kernel)
theorem wd_1061 : (Jvm.Cond.instanceMethod ({ cls := "FlaringWordsModel", name := "bestLevel", desc := "(III)I" } : Jvm.MethodName)) ∈ lw_good := lw_in (List.mem_of_getElem? (i := 1061) (by decide +kernel)) (by decide +kernel)
theorem wd_1062 : (Jvm.Cond.code ({ cls := "FlaringWordsModel", name := "bestLevel", desc := "(III)I" } : Jvm.MethodName) prog_13_method_10_code (6 : Nat) (Option.some Jvm.ClassFile.FieldType.int)) ∈ lw_good := lw_in (List.mem_of_getElem? (i := 1062) (by decide +kernel)) (by decide +kernel)
theorem wd_1063 : (Jvm.Cond.methodLink "FlaringWordsModel" (77 : Nat) ({ cls := "FlaringWordsModel", name := "through", desc := "(IIII)I" } : Jvm.MethodName)) ∈ lw_good := lw_in (List.mem_of_getElem? (i := 1063) (by decide +kernel)) (by decide +kernel)
theorem wd_1065 : (Jvm.Cond.instanceMethod ({ cls := "FlaringWordsModel", name := "through", desc := "(IIII)I" } : Jvm.MethodName)) ∈ lw_good := lw_in (List.mem_of_getElem? (i := 1065) (by decide +kernel)) (by decide +kernel)
theorem wd_1066 : (Jvm.Cond.code ({ cls := "FlaringWordsModel", name := "through", desc := "(IIII)I" } : Jvm.MethodName) prog_13_method_9_code (6 : Nat) (Option.some Jvm.ClassFile.FieldType.int)) ∈ lw_good := lw_in (List.mem_of_getElem? (i := 1066) (by decide +kernel)) (by decide +kernel)
theorem wd_1067 : (Jvm.Cond.methodLink "FlaringWordsModel" (74 : Nat) ({ cls := "FlaringWordsModel", name := "unlikely", desc := "(III)I" } : Jvm.MethodName)) ∈ lw_good := lw_in (List.mem_of_getElem? (i := 1067) (by decide +kernel)) (by decide +kernel)
theorem wd_1069 : (Jvm.Cond.instanceMethod ({ cls := "FlaringWordsModel", name := "unlikely", desc := "(III)I" } : Jvm.MethodName)) ∈ lw_good := lw_in (List.mem_of_getElem? (i := 1069) (by decide +kernel)) (by decide +kernel)
theorem wd_1070 : (Jvm.Cond.code ({ cls := "FlaringWordsModel", name := "unlikely", desc := "(III)I" } : Jvm.MethodName) prog_13_method_8_code (5 : Nat) (Option.some Jvm.ClassFile.FieldType.int)) ∈ lw_good := lw_in (List.mem_of_getElem? (i := 1070) (by decide +kernel)) (by decide +kernel)
theorem wd_1071 : (Jvm.Cond.methodLink "FlaringWordsModel" (66 : Nat) ({ cls := "FlaringWordsModel", name := "count", desc := "(II)I" } : Jvm.MethodName)) ∈ lw_good := lw_in (List.mem_of_getElem? (i := 1071) (by decide +kernel)) (by decide +kernel)
theorem wd_1073 : (Jvm.Cond.instanceMethod ({ cls := "FlaringWordsModel", name := "count", desc := "(II)I" } : Jvm.MethodName)) ∈ lw_good := lw_in (List.mem_of_getElem? (i := 1073) (by decide +kernel)) (by decide +kernel)
theorem wd_1074 : (Jvm.Cond.code ({ cls := "FlaringWordsModel", name := "count", desc := "(II)I" } : Jvm.MethodName) prog_13_method_6_code (5 : Nat) (Option.some Jvm.ClassFile.FieldType.int)) ∈ lw_good := lw_in (List.mem_of_getElem? (i := 1074) (by decide +kernel)) (by decide +kernel)
theorem wd_1075 : (Jvm.Cond.methodLink "FlaringWordsModel" (70 : Nat) ({ cls := "FlaringWordsModel", name := "wanted", desc := "(III)I" } : Jvm.MethodName)) ∈ lw_good := lw_in (List.mem_of_getElem? (i := 1075) (by decide +kernel)) (by decide +kernel)
theorem wd_1077 : (Jvm.Cond.instanceMethod ({ cls := "FlaringWordsModel", name := "wanted", desc := "(III)I" } : Jvm.MethodName)) ∈ lw_good := lw_in (List.mem_of_getElem? (i := 1077) (by decide +kernel)) (by decide +kernel)
theorem wd_1078 : (Jvm.Cond.code ({ cls := "FlaringWordsModel", name := "wanted", desc := "(III)I" } : Jvm.MethodName) prog_13_method_7_code (5 : Nat) (Option.some Jvm.ClassFile.FieldType.int)) ∈ lw_good := lw_in (List.mem_of_getElem? (i := 1078) (by decide +kernel)) (by decide +kernel)
theorem wd_1079 : (Jvm.Cond.methodLink "FlaringWordsModel" (91 : Nat) ({ cls := "FlaringWordsModel", name := "addFlares", desc := "(II)V" } : Jvm.MethodName)) ∈ lw_good := lw_in (List.mem_of_getElem? (i := 1079) (by decide +kernel)) (by decide +kernel)
theorem wd_1081 : (Jvm.Cond.instanceMethod ({ cls := "FlaringWordsModel", name := "addFlares", desc := "(II)V" } : Jvm.MethodName)) ∈ lw_good := lw_in (List.mem_of_getElem? (i := 1081) (by decide +kernel)) (by decide +kernel)
theorem wd_1082 : (Jvm.Cond.code ({ cls := "FlaringWordsModel", name := "addFlares", desc := "(II)V" } : Jvm.MethodName) prog_13_method_13_code (6 : Nat) (Option.none : Option Jvm.ClassFile.FieldType)) ∈ lw_good := lw_in (List.mem_of_getElem? (i := 1082) (by decide +kernel)) (by decide +kernel)
theorem wd_1083 : (Jvm.Cond.methodLink "FlaringWordsModel" (179 : Nat) ({ cls := "FlaringWordsModel", name := "stories", desc := "()I" } : Jvm.MethodName)) ∈ lw_good := lw_in (List.mem_of_getElem? (i := 1083) (by decide +kernel)) (by decide +kernel)
theorem wd_1085 : (Jvm.Cond.instanceMethod ({ cls := "FlaringWordsModel", name := "stories", desc := "()I" } : Jvm.MethodName)) ∈ lw_good := lw_in (List.mem_of_getElem? (i := 1085) (by decide +kernel)) (by decide +kernel)
theorem wd_1086 : (Jvm.Cond.code ({ cls := "FlaringWordsModel", name := "stories", desc := "()I" } : Jvm.MethodName) prog_13_method_19_code (3 : Nat) (Option.some Jvm.ClassFile.FieldType.int)) ∈ lw_good := lw_in (List.mem_of_getElem? (i := 1086) (by decide +kernel)) (by decide +kernel)
theorem wd_1087 : (Jvm.Cond.methodLink "FlaringWordsModel" (108 : Nat) ({ cls := "FlaringWordsModel", name := "layHeaps", desc := "()V" } : Jvm.MethodName)) ∈ lw_good := lw_in (List.mem_of_getElem? (i := 1087) (by decide +kernel)) (by decide +kernel)
theorem wd_1089 : (Jvm.Cond.instanceMethod ({ cls := "FlaringWordsModel", name := "layHeaps", desc := "()V" } : Jvm.MethodName)) ∈ lw_good := lw_in (List.mem_of_getElem? (i := 1089) (by decide +kernel)) (by decide +kernel)
theorem wd_1090 : (Jvm.Cond.code ({ cls := "FlaringWordsModel", name := "layHeaps", desc := "()V" } : Jvm.MethodName) prog_13_method_17_code (4 : Nat) (Option.none : Option Jvm.ClassFile.FieldType)) ∈ lw_good := lw_in (List.mem_of_getElem? (i := 1090) (by decide +kernel)) (by decide +kernel)
theorem wd_1091 : (Jvm.Cond.methodLink "FlaringWordsModel" (105 : Nat) ({ cls := "FlaringWordsModel", name := "areTied", desc := "(II)Z" } : Jvm.MethodName)) ∈ lw_good := lw_in (List.mem_of_getElem? (i := 1091) (by decide +kernel)) (by decide +kernel)
theorem wd_1093 : (Jvm.Cond.instanceMethod ({ cls := "FlaringWordsModel", name := "areTied", desc := "(II)Z" } : Jvm.MethodName)) ∈ lw_good := lw_in (List.mem_of_getElem? (i := 1093) (by decide +kernel)) (by decide +kernel)
theorem wd_1094 : (Jvm.Cond.code ({ cls := "FlaringWordsModel", name := "areTied", desc := "(II)Z" } : Jvm.MethodName) prog_13_method_16_code (6 : Nat) (Option.some Jvm.ClassFile.FieldType.boolean)) ∈ lw_good := lw_in (List.mem_of_getElem? (i := 1094) (by decide +kernel)) (by decide +kernel)
theorem wd_1095 : (Jvm.Cond.methodLink "FlaringWordsModel" (98 : Nat) ({ cls := "FlaringWordsModel", name := "isIn", desc := "(II)Z" } : Jvm.MethodName)) ∈ lw_good := lw_in (List.mem_of_getElem? (i := 1095) (by decide +kernel)) (by decide +kernel)
theorem wd_1097 : (Jvm.Cond.instanceMethod ({ cls := "FlaringWordsModel", name := "isIn", desc := "(II)Z" } : Jvm.MethodName)) ∈ lw_good := lw_in (List.mem_of_getElem? (i := 1097) (by decide +kernel)) (by decide +kernel)
theorem wd_1098 : (Jvm.Cond.code ({ cls := "FlaringWordsModel", name := "isIn", desc := "(II)Z" } : Jvm.MethodName) prog_13_method_15_code (3 : Nat) (Option.some Jvm.ClassFile.FieldType.boolean)) ∈ lw_good := lw_in (List.mem_of_getElem? (i := 1098) (by decide +kernel)) (by decide +kernel)
theorem wd_1099 : (Jvm.Cond.methodLink "FlaringWordsModel" (111 : Nat) ({ cls := "FlaringWordsModel", name := "begins", desc := "(I)Z" } : Jvm.MethodName)) ∈ lw_good := lw_in (List.mem_of_getElem? (i := 1099) (by decide +kernel)) (by decide +kernel)
theorem wd_1101 : (Jvm.Cond.instanceMethod ({ cls := "FlaringWordsModel", name := "begins", desc := "(I)Z" } : Jvm.MethodName)) ∈ lw_good := lw_in (List.mem_of_getElem? (i := 1101) (by decide +kernel)) (by decide +kernel)
theorem wd_1102 : (Jvm.Cond.code ({ cls := "FlaringWordsModel", name := "begins", desc := "(I)Z" } : Jvm.MethodName) prog_13_method_18_code (2 : Nat) (Option.some Jvm.ClassFile.FieldType.boolean)) ∈ lw_good := lw_in (List.mem_of_getElem? (i := 1102) (by decide +kernel)) (by decide +kernel)
theorem wd_1103 : (Jvm.Cond.methodLink "FlaringWordsModel" (182 : Nat) ({ cls := "FlaringWordsModel", name := "toldMore", desc := "(I)I" } : Jvm.MethodName)) ∈ lw_good := lw_in (List.mem_of_getElem? (i := 1103) (by decide +kernel)) (by decide +kernel)
theorem wd_1105 : (Jvm.Cond.instanceMethod ({ cls := "FlaringWordsModel", name := "toldMore", desc := "(I)I" } : Jvm.MethodName)) ∈ lw_good := lw_in (List.mem_of_getElem? (i := 1105) (by decide +kernel)) (by decide +kernel)
theorem wd_1106 : (Jvm.Cond.code ({ cls := "FlaringWordsModel", name := "toldMore", desc := "(I)I" } : Jvm.MethodName) prog_13_method_34_code (2 : Nat) (Option.some Jvm.ClassFile.FieldType.int)) ∈ lw_good := lw_in (List.mem_of_getElem? (i := 1106) (by decide +kernel)) (by decide +kernel)
theorem wd_1107 : (Jvm.Cond.methodLink "FlaringWordsModel" (170 : Nat) ({ cls := "FlaringWordsModel", name := "wrong", desc := "()I" } : Jvm.MethodName)) ∈ lw_good := lw_in (List.mem_of_getElem? (i := 1107) (by decide +kernel)) (by decide +kernel)
theorem wd_1109 : (Jvm.Cond.instanceMethod ({ cls := "FlaringWordsModel", name := "wrong", desc := "()I" } : Jvm.MethodName)) ∈ lw_good := lw_in (List.mem_of_getElem? (i := 1109) (by decide +kernel)) (by decide +kernel)
theorem wd_1110 : (Jvm.Cond.code ({ cls := "FlaringWordsModel", name := "wrong", desc := "()I" } : Jvm.MethodName) prog_13_method_32_code (2 : Nat) (Option.some Jvm.ClassFile.FieldType.int)) ∈ lw_good := lw_in (List.mem_of_getElem? (i := 1110) (by decide +kernel)) (by decide +kernel)
theorem wd_1111 : (Jvm.Cond.methodLink "FlaringWordsModel" (164 : Nat) ({ cls := "FlaringWordsModel", name := "isDay", desc := "(I)Z" } : Jvm.MethodName)) ∈ lw_good := lw_in (List.mem_of_getElem? (i := 1111) (by decide +kernel)) (by decide +kernel)
theorem wd_1113 : (Jvm.Cond.instanceMethod ({ cls := "FlaringWordsModel", name := "isDay", desc := "(I)Z" } : Jvm.MethodName)) ∈ lw_good := lw_in (List.mem_of_getElem? (i := 1113) (by decide +kernel)) (by decide +kernel)
theorem wd_1114 : (Jvm.Cond.code ({ cls := "FlaringWordsModel", name := "isDay", desc := "(I)Z" } : Jvm.MethodName) prog_13_method_30_code (2 : Nat) (Option.some Jvm.ClassFile.FieldType.boolean)) ∈ lw_good := lw_in (List.mem_of_getElem? (i := 1114) (by decide +kernel)) (by decide +kernel)
theorem wd_1115 : (Jvm.Cond.methodLink "FlaringWordsModel" (167 : Nat) ({ cls := "FlaringWordsModel", name := "levelOf", desc := "(II)I" } : Jvm.MethodName)) ∈ lw_good := lw_in (List.mem_of_getElem? (i := 1115) (by decide +kernel)) (by decide +kernel)
theorem wd_1117 : (Jvm.Cond.instanceMethod ({ cls := "FlaringWordsModel", name := "levelOf", desc := "(II)I" } : Jvm.MethodName)) ∈ lw_good := lw_in (List.mem_of_getElem? (i := 1117) (by decide +kernel)) (by decide +kernel)
theorem wd_1118 : (Jvm.Cond.code ({ cls := "FlaringWordsModel", name := "levelOf", desc := "(II)I" } : Jvm.MethodName) prog_13_method_12_code (3 : Nat) (Option.some Jvm.ClassFile.FieldType.int)) ∈ lw_good := lw_in (List.mem_of_getElem? (i := 1118) (by decide +kernel)) (by decide +kernel)
theorem wd_1122 : (Jvm.Cond.code ({ cls := "FlaringWordsModel", name := "at", desc := "(II)I" } : Jvm.MethodName) prog_13_method_37_code (3 : Nat) (Option.some Jvm.ClassFile.FieldType.int)) ∈ lw_good := lw_in (List.mem_of_getElem? (i := 1122) (by decide +kernel)) (by decide +kernel)
theorem wd_1123 : (Jvm.Cond.methodLink "FlaringWordsModel" (185 : Nat) ({ cls := "FlaringWordsModel", name := "isPiece", desc := "(I)Z" } : Jvm.MethodName)) ∈ lw_good := lw_in (List.mem_of_getElem? (i := 1123) (by decide +kernel)) (by decide +kernel)
theorem wd_1125 : (Jvm.Cond.instanceMethod ({ cls := "FlaringWordsModel", name := "isPiece", desc := "(I)Z" } : Jvm.MethodName)) ∈ lw_good := lw_in (List.mem_of_getElem? (i := 1125) (by decide +kernel)) (by decide +kernel)
theorem wd_1126 : (Jvm.Cond.code ({ cls := "FlaringWordsModel", name := "isPiece", desc := "(I)Z" } : Jvm.MethodName) prog_13_method_36_code (2 : Nat) (Option.some Jvm.ClassFile.FieldType.boolean)) ∈ lw_good := lw_in (List.mem_of_getElem? (i := 1126) (by decide +kernel)) (by decide +kernel)
theorem wd_1127 : (Jvm.Cond.constant "FlaringWordsModel" (188 : Nat) (-1000000001 : Int32)) ∈ lw_good := lw_in (List.mem_of_getElem? (i := 1127) (by decide +kernel)) (by decide +kernel)
theorem wd_1131 : (Jvm.Cond.code ({ cls := "FlaringWordsModel", name := "day", desc := "(II)I" } : Jvm.MethodName) prog_13_method_40_code (3 : Nat) (Option.some Jvm.ClassFile.FieldType.int)) ∈ lw_good := lw_in (List.mem_of_getElem? (i := 1131) (by decide +kernel)) (by decide +kernel)
theorem wd_1132 : (Jvm.Cond.methodLink "FlaringWordsModel" (189 : Nat) ({ cls := "FlaringWordsModel", name := "hot", desc := "(I)I" } : Jvm.MethodName)) ∈ lw_good := lw_in (List.mem_of_getElem? (i := 1132) (by decide +kernel)) (by decide +kernel)
theorem wd_1134 : (Jvm.Cond.instanceMethod ({ cls := "FlaringWordsModel", name := "hot", desc := "(I)I" } : Jvm.MethodName)) ∈ lw_good := lw_in (List.mem_of_getElem? (i := 1134) (by decide +kernel)) (by decide +kernel)
theorem wd_1135 : (Jvm.Cond.code ({ cls := "FlaringWordsModel", name := "hot", desc := "(I)I" } : Jvm.MethodName) prog_13_method_38_code (4 : Nat) (Option.some Jvm.ClassFile.FieldType.int)) ∈ lw_good := lw_in (List.mem_of_getElem? (i := 1135) (by decide +kernel)) (by decide +kernel)
theorem wd_1136 : (Jvm.Cond.methodLink "FlaringWordsModel" (192 : Nat) ({ cls := "FlaringWordsModel", name := "topOf", desc := "(I)I" } : Jvm.MethodName)) ∈ lw_good := lw_in (List.mem_of_getElem? (i := 1136) (by decide +kernel)) (by decide +kernel)
theorem wd_1138 : (Jvm.Cond.instanceMethod ({ cls := "FlaringWordsModel", name := "topOf", desc := "(I)I" } : Jvm.MethodName)) ∈ lw_good := lw_in (List.mem_of_getElem? (i := 1138) (by decide +kernel)) (by decide +kernel)
theorem wd_1139 : (Jvm.Cond.code ({ cls := "FlaringWordsModel", name := "topOf", desc := "(I)I" } : Jvm.MethodName) prog_13_method_39_code (7 : Nat) (Option.some Jvm.ClassFile.FieldType.int)) ∈ lw_good := lw_in (List.mem_of_getElem? (i := 1139) (by decide +kernel)) (by decide +kernel)
theorem wd_1143 : (Jvm.Cond.code ({ cls := "FlaringWordsModel", name := "word", desc := "(III)I" } : Jvm.MethodName) prog_13_method_41_code (4 : Nat) (Option.some Jvm.ClassFile.FieldType.int)) ∈ lw_good := lw_in (List.mem_of_getElem? (i := 1143) (by decide +kernel)) (by decide +kernel)
theorem wd_1144 : (Jvm.Cond.methodLink "FlaringWordsModel" (195 : Nat) ({ cls := "FlaringWordsModel", name := "isWord", desc := "(I)Z" } : Jvm.MethodName)) ∈ lw_good := lw_in (List.mem_of_getElem? (i := 1144) (by decide +kernel)) (by decide +kernel)
theorem wd_1145 : (Jvm.Cond.static ({ cls := "FlaringWordsModel", name := "isWord", desc := "(I)Z" } : Jvm.MethodName)) ∈ lw_good := lw_in (List.mem_of_getElem? (i := 1145) (by decide +kernel)) (by decide +kernel)
theorem wd_1146 : (Jvm.Cond.code ({ cls := "FlaringWordsModel", name := "isWord", desc := "(I)Z" } : Jvm.MethodName) prog_13_method_31_code (1 : Nat) (Option.some Jvm.ClassFile.FieldType.boolean)) ∈ lw_good := lw_in (List.mem_of_getElem? (i := 1146) (by decide +kernel)) (by decide +kernel)
theorem wd_1147 : (Jvm.Cond.constantLong "FlaringWordsModel" (159 : Nat) (7 : Int64)) ∈ lw_good := lw_in (List.mem_of_getElem? (i := 1147) (by decide +kernel)) (by decide +kernel)
theorem wd_1151 : (Jvm.Cond.code ({ cls := "FlaringWordsModel", name := "cost", desc := "(I)I" } : Jvm.MethodName) prog_13_method_42_code (2 : Nat) (Option.some Jvm.ClassFile.FieldType.int)) ∈ lw_good := lw_in (List.mem_of_getElem? (i := 1151) (by decide +kernel)) (by decide +kernel)
theorem wd_1155 : (Jvm.Cond.code ({ cls := "FlaringWordsModel", name := "steady", desc := "(II)I" } : Jvm.MethodName) prog_13_method_43_code (5 : Nat) (Option.some Jvm.ClassFile.FieldType.int)) ∈ lw_good := lw_in (List.mem_of_getElem? (i := 1155) (by decide +kernel)) (by decide +kernel)
theorem wd_1159 : (Jvm.Cond.code ({ cls := "FlaringWordsModel", name := "flare", desc := "(II)I" } : Jvm.MethodName) prog_13_method_47_code (3 : Nat) (Option.some Jvm.ClassFile.FieldType.int)) ∈ lw_good := lw_in (List.mem_of_getElem? (i := 1159) (by decide +kernel)) (by decide +kernel)
theorem wd_1160 : (Jvm.Cond.methodLink "FlaringWordsModel" (198 : Nat) ({ cls := "FlaringWordsModel", name := "within", desc := "(I)I" } : Jvm.MethodName)) ∈ lw_good := lw_in (List.mem_of_getElem? (i := 1160) (by decide +kernel)) (by decide +kernel)
theorem wd_1162 : (Jvm.Cond.instanceMethod ({ cls := "FlaringWordsModel", name := "within", desc := "(I)I" } : Jvm.MethodName)) ∈ lw_good := lw_in (List.mem_of_getElem? (i := 1162) (by decide +kernel)) (by decide +kernel)
theorem wd_1163 : (Jvm.Cond.code ({ cls := "FlaringWordsModel", name := "within", desc := "(I)I" } : Jvm.MethodName) prog_13_method_44_code (5 : Nat) (Option.some Jvm.ClassFile.FieldType.int)) ∈ lw_good := lw_in (List.mem_of_getElem? (i := 1163) (by decide +kernel)) (by decide +kernel)
theorem wd_1164 : (Jvm.Cond.methodLink "FlaringWordsModel" (201 : Nat) ({ cls := "FlaringWordsModel", name := "weight", desc := "(I)I" } : Jvm.MethodName)) ∈ lw_good := lw_in (List.mem_of_getElem? (i := 1164) (by decide +kernel)) (by decide +kernel)
theorem wd_1166 : (Jvm.Cond.instanceMethod ({ cls := "FlaringWordsModel", name := "weight", desc := "(I)I" } : Jvm.MethodName)) ∈ lw_good := lw_in (List.mem_of_getElem? (i := 1166) (by decide +kernel)) (by decide +kernel)
theorem wd_1167 : (Jvm.Cond.code ({ cls := "FlaringWordsModel", name := "weight", desc := "(I)I" } : Jvm.MethodName) prog_13_method_45_code (4 : Nat) (Option.some Jvm.ClassFile.FieldType.int)) ∈ lw_good := lw_in (List.mem_of_getElem? (i := 1167) (by decide +kernel)) (by decide +kernel)
theorem wd_1168 : (Jvm.Cond.methodLink "FlaringWordsModel" (204 : Nat) ({ cls := "FlaringWordsModel", name := "peak", desc := "(I)I" } : Jvm.MethodName)) ∈ lw_good := lw_in (List.mem_of_getElem? (i := 1168) (by decide +kernel)) (by decide +kernel)
theorem wd_1170 : (Jvm.Cond.instanceMethod ({ cls := "FlaringWordsModel", name := "peak", desc := "(I)I" } : Jvm.MethodName)) ∈ lw_good := lw_in (List.mem_of_getElem? (i := 1170) (by decide +kernel)) (by decide +kernel)
theorem wd_1171 : (Jvm.Cond.code ({ cls := "FlaringWordsModel", name := "peak", desc := "(I)I" } : Jvm.MethodName) prog_13_method_46_code (4 : Nat) (Option.some Jvm.ClassFile.FieldType.int)) ∈ lw_good := lw_in (List.mem_of_getElem? (i := 1171) (by decide +kernel)) (by decide +kernel)
theorem wd_1172 : (Jvm.Cond.methodLink "FlaringWordsModel" (207 : Nat) ({ cls := "FlaringWordsModel", name := "storyOf", desc := "(I)I" } : Jvm.MethodName)) ∈ lw_good := lw_in (List.mem_of_getElem? (i := 1172) (by decide +kernel)) (by decide +kernel)
theorem wd_1174 : (Jvm.Cond.instanceMethod ({ cls := "FlaringWordsModel", name := "storyOf", desc := "(I)I" } : Jvm.MethodName)) ∈ lw_good := lw_in (List.mem_of_getElem? (i := 1174) (by decide +kernel)) (by decide +kernel)
theorem wd_1175 : (Jvm.Cond.code ({ cls := "FlaringWordsModel", name := "storyOf", desc := "(I)I" } : Jvm.MethodName) prog_13_method_20_code (4 : Nat) (Option.some Jvm.ClassFile.FieldType.int)) ∈ lw_good := lw_in (List.mem_of_getElem? (i := 1175) (by decide +kernel)) (by decide +kernel)
theorem wd_1179 : (Jvm.Cond.code ({ cls := "FlaringWordsModel", name := "story", desc := "(II)I" } : Jvm.MethodName) prog_13_method_48_code (8 : Nat) (Option.some Jvm.ClassFile.FieldType.int)) ∈ lw_good := lw_in (List.mem_of_getElem? (i := 1179) (by decide +kernel)) (by decide +kernel)
theorem wd_1183 : (Jvm.Cond.code ({ cls := "FlaringWordsModel", name := "together", desc := "(II)I" } : Jvm.MethodName) prog_13_method_49_code (3 : Nat) (Option.some Jvm.ClassFile.FieldType.int)) ∈ lw_good := lw_in (List.mem_of_getElem? (i := 1183) (by decide +kernel)) (by decide +kernel)
theorem wd_1187 : (Jvm.Cond.code ({ cls := "FlaringWordsModel", name := "piece", desc := "(II)I" } : Jvm.MethodName) prog_13_method_50_code (3 : Nat) (Option.some Jvm.ClassFile.FieldType.int)) ∈ lw_good := lw_in (List.mem_of_getElem? (i := 1187) (by decide +kernel)) (by decide +kernel)
theorem wd_1191 : (Jvm.Cond.code ({ cls := "FlaringWordsModel", name := "take", desc := "(I)I" } : Jvm.MethodName) prog_13_method_51_code (3 : Nat) (Option.some Jvm.ClassFile.FieldType.int)) ∈ lw_good := lw_in (List.mem_of_getElem? (i := 1191) (by decide +kernel)) (by decide +kernel)
theorem wd_1195 : (Jvm.Cond.code ({ cls := "FlaringWordsModel", name := "move", desc := "(II)I" } : Jvm.MethodName) prog_13_method_52_code (4 : Nat) (Option.some Jvm.ClassFile.FieldType.int)) ∈ lw_good := lw_in (List.mem_of_getElem? (i := 1195) (by decide +kernel)) (by decide +kernel)
theorem wd_1199 : (Jvm.Cond.code ({ cls := "FlaringWordsModel", name := "days", desc := "(I)I" } : Jvm.MethodName) prog_13_method_53_code (3 : Nat) (Option.some Jvm.ClassFile.FieldType.int)) ∈ lw_good := lw_in (List.mem_of_getElem? (i := 1199) (by decide +kernel)) (by decide +kernel)
theorem wd_1200 : (Jvm.Cond.constantLong "FlaringWordsModel" (210 : Nat) (12 : Int64)) ∈ lw_good := lw_in (List.mem_of_getElem? (i := 1200) (by decide +kernel)) (by decide +kernel)
theorem wd_1201 : (Jvm.Cond.constant "FlaringWordsModel" (212 : Nat) (-1000000003 : Int32)) ∈ lw_good := lw_in (List.mem_of_getElem? (i := 1201) (by decide +kernel)) (by decide +kernel)
theorem wd_1205 : (Jvm.Cond.code ({ cls := "FlaringWordsModel", name := "term", desc := "(II)I" } : Jvm.MethodName) prog_13_method_54_code (4 : Nat) (Option.some Jvm.ClassFile.FieldType.int)) ∈ lw_good := lw_in (List.mem_of_getElem? (i := 1205) (by decide +kernel)) (by decide +kernel)
theorem wd_1206 : (Jvm.Cond.constantLong "FlaringWordsModel" (213 : Nat) (3 : Int64)) ∈ lw_good := lw_in (List.mem_of_getElem? (i := 1206) (by decide +kernel)) (by decide +kernel)
theorem wd_1207 : (Jvm.Cond.constantLong "FlaringWordsModel" (215 : Nat) (99 : Int64)) ∈ lw_good := lw_in (List.mem_of_getElem? (i := 1207) (by decide +kernel)) (by decide +kernel)
theorem wd_1208 : (Jvm.Cond.constantLong "FlaringWordsModel" (217 : Nat) (9 : Int64)) ∈ lw_good := lw_in (List.mem_of_getElem? (i := 1208) (by decide +kernel)) (by decide +kernel)
theorem wd_1212 : (Jvm.Cond.code ({ cls := "FlaringWordsModel", name := "drift", desc := "(I)I" } : Jvm.MethodName) prog_13_method_56_code (4 : Nat) (Option.some Jvm.ClassFile.FieldType.int)) ∈ lw_good := lw_in (List.mem_of_getElem? (i := 1212) (by decide +kernel)) (by decide +kernel)
theorem wd_1213 : (Jvm.Cond.methodLink "FlaringWordsModel" (226 : Nat) ({ cls := "FlaringWordsModel", name := "draw", desc := "(I)I" } : Jvm.MethodName)) ∈ lw_good := lw_in (List.mem_of_getElem? (i := 1213) (by decide +kernel)) (by decide +kernel)
theorem wd_1215 : (Jvm.Cond.instanceMethod ({ cls := "FlaringWordsModel", name := "draw", desc := "(I)I" } : Jvm.MethodName)) ∈ lw_good := lw_in (List.mem_of_getElem? (i := 1215) (by decide +kernel)) (by decide +kernel)
theorem wd_1216 : (Jvm.Cond.code ({ cls := "FlaringWordsModel", name := "draw", desc := "(I)I" } : Jvm.MethodName) prog_13_method_55_code (2 : Nat) (Option.some Jvm.ClassFile.FieldType.int)) ∈ lw_good := lw_in (List.mem_of_getElem? (i := 1216) (by decide +kernel)) (by decide +kernel)
theorem wd_1217 : (Jvm.Cond.constantLong "FlaringWordsModel" (219 : Nat) (1103515245 : Int64)) ∈ lw_good := lw_in (List.mem_of_getElem? (i := 1217) (by decide +kernel)) (by decide +kernel)
theorem wd_1218 : (Jvm.Cond.constantLong "FlaringWordsModel" (221 : Nat) (12345 : Int64)) ∈ lw_good := lw_in (List.mem_of_getElem? (i := 1218) (by decide +kernel)) (by decide +kernel)
theorem wd_1219 : (Jvm.Cond.constantLong "FlaringWordsModel" (223 : Nat) (2147483648 : Int64)) ∈ lw_good := lw_in (List.mem_of_getElem? (i := 1219) (by decide +kernel)) (by decide +kernel)
theorem wd_1220 : (Jvm.Cond.constant "FlaringWordsModel" (225 : Nat) (65536 : Int32)) ∈ lw_good := lw_in (List.mem_of_getElem? (i := 1220) (by decide +kernel)) (by decide +kernel)
theorem wd_1224 : (Jvm.Cond.code ({ cls := "FlaringWordsModel", name := "undo", desc := "(I)I" } : Jvm.MethodName) prog_13_method_57_code (3 : Nat) (Option.some Jvm.ClassFile.FieldType.int)) ∈ lw_good := lw_in (List.mem_of_getElem? (i := 1224) (by decide +kernel)) (by decide +kernel)
theorem wd_1225 : (Jvm.Cond.constantLong "FlaringWordsModel" (229 : Nat) (16 : Int64)) ∈ lw_good := lw_in (List.mem_of_getElem? (i := 1225) (by decide +kernel)) (by decide +kernel)
theorem wd_1229 : (Jvm.Cond.code ({ cls := "FlaringWordsModel", name := "write", desc := "(III)I" } : Jvm.MethodName) prog_13_method_58_code (4 : Nat) (Option.some Jvm.ClassFile.FieldType.int)) ∈ lw_good := lw_in (List.mem_of_getElem? (i := 1229) (by decide +kernel)) (by decide +kernel)
theorem wd_1233 : (Jvm.Cond.code ({ cls := "FlaringWordsModel", name := "tear", desc := "()I" } : Jvm.MethodName) prog_13_method_59_code (2 : Nat) (Option.some Jvm.ClassFile.FieldType.int)) ∈ lw_good := lw_in (List.mem_of_getElem? (i := 1233) (by decide +kernel)) (by decide +kernel)
theorem wd_1237 : (Jvm.Cond.code ({ cls := "FlaringWordsModel", name := "seed", desc := "(I)I" } : Jvm.MethodName) prog_13_method_60_code (3 : Nat) (Option.some Jvm.ClassFile.FieldType.int)) ∈ lw_good := lw_in (List.mem_of_getElem? (i := 1237) (by decide +kernel)) (by decide +kernel)
theorem wd_1241 : (Jvm.Cond.code ({ cls := "FlaringWordsModel", name := "keep", desc := "(I)I" } : Jvm.MethodName) prog_13_method_61_code (2 : Nat) (Option.some Jvm.ClassFile.FieldType.int)) ∈ lw_good := lw_in (List.mem_of_getElem? (i := 1241) (by decide +kernel)) (by decide +kernel)
theorem wd_1245 : (Jvm.Cond.code ({ cls := "FlaringWordsModel", name := "goBack", desc := "(I)I" } : Jvm.MethodName) prog_13_method_62_code (2 : Nat) (Option.some Jvm.ClassFile.FieldType.int)) ∈ lw_good := lw_in (List.mem_of_getElem? (i := 1245) (by decide +kernel)) (by decide +kernel)
theorem wd_1246 : (Jvm.Cond.methodLink "FlaringWordsModel" (234 : Nat) ({ cls := "FlaringWordsModel", name := "has", desc := "(II)Z" } : Jvm.MethodName)) ∈ lw_good := lw_in (List.mem_of_getElem? (i := 1246) (by decide +kernel)) (by decide +kernel)
theorem wd_1247 : (Jvm.Cond.static ({ cls := "FlaringWordsModel", name := "has", desc := "(II)Z" } : Jvm.MethodName)) ∈ lw_good := lw_in (List.mem_of_getElem? (i := 1247) (by decide +kernel)) (by decide +kernel)
theorem wd_1248 : (Jvm.Cond.code ({ cls := "FlaringWordsModel", name := "has", desc := "(II)Z" } : Jvm.MethodName) prog_13_method_3_code (2 : Nat) (Option.some Jvm.ClassFile.FieldType.boolean)) ∈ lw_good := lw_in (List.mem_of_getElem? (i := 1248) (by decide +kernel)) (by decide +kernel)
end
section
theorem inG0 : ∀ w ∈ u_ws RX0 TX0 4, w ∈ lw_good := fun w hw => by
  obtain ⟨k, hk, rfl⟩ := List.mem_map.mp hw
  exact match k, List.mem_range.mp hk with
    | 0, _ => wd_271
    | 1, _ => wd_273
    | 2, _ => wd_275
    | 3, _ => wd_277
theorem cl_0 : Cl 0 RX0 TX0 4 := ⟨rfl, by decide, inG0, tyX0_ok, nmX0⟩
theorem inG1 : ∀ w ∈ u_ws RX1 TX1 2, w ∈ lw_good := fun w hw => by
  obtain ⟨k, hk, rfl⟩ := List.mem_map.mp hw
  exact match k, List.mem_range.mp hk with
    | 0, _ => wd_256
    | 1, _ => wd_258
theorem cl_1 : Cl 1 RX1 TX1 2 := ⟨rfl, by decide, inG1, tyX1_ok, nmX1⟩
theorem inG2 : ∀ w ∈ u_ws RX2 TX2 4, w ∈ lw_good := fun w hw => by
  obtain ⟨k, hk, rfl⟩ := List.mem_map.mp hw
  exact match k, List.mem_range.mp hk with
    | 0, _ => wd_211
    | 1, _ => wd_213
    | 2, _ => wd_215
    | 3, _ => wd_217
theorem cl_2 : Cl 2 RX2 TX2 4 := ⟨rfl, by decide, inG2, tyX2_ok, nmX2⟩
theorem inG3 : ∀ w ∈ u_ws RX3 TX3 2, w ∈ lw_good := fun w hw => by
  obtain ⟨k, hk, rfl⟩ := List.mem_map.mp hw
  exact match k, List.mem_range.mp hk with
    | 0, _ => wd_181
    | 1, _ => wd_183
theorem cl_3 : Cl 3 RX3 TX3 2 := ⟨rfl, by decide, inG3, tyX3_ok, nmX3⟩
theorem inG4 : ∀ w ∈ u_ws RX4 TX4 3, w ∈ lw_good := fun w hw => by
  obtain ⟨k, hk, rfl⟩ := List.mem_map.mp hw
  exact match k, List.mem_range.mp hk with
    | 0, _ => wd_292
    | 1, _ => wd_294
    | 2, _ => wd_296
theorem cl_4 : Cl 4 RX4 TX4 3 := ⟨rfl, by decide, inG4, tyX4_ok, nmX4⟩
theorem inG5 : ∀ w ∈ u_ws RX5 TX5 3, w ∈ lw_good := fun w hw => by
  obtain ⟨k, hk, rfl⟩ := List.mem_map.mp hw
  exact match k, List.mem_range.mp hk with
    | 0, _ => wd_165
    | 1, _ => wd_167
    | 2, _ => wd_169
theorem cl_5 : Cl 5 RX5 TX5 3 := ⟨rfl, by decide, inG5, tyX5_ok, nmX5⟩
theorem inG6 : ∀ w ∈ u_ws RX6 TX6 5, w ∈ lw_good := fun w hw => by
  obtain ⟨k, hk, rfl⟩ := List.mem_map.mp hw
  exact match k, List.mem_range.mp hk with
    | 0, _ => wd_104
    | 1, _ => wd_106
    | 2, _ => wd_108
    | 3, _ => wd_110
    | 4, _ => wd_112
theorem cl_6 : Cl 6 RX6 TX6 5 := ⟨rfl, by decide, inG6, tyX6_ok, nmX6⟩
theorem inG7 : ∀ w ∈ u_ws RX7 TX7 3, w ∈ lw_good := fun w hw => by
  obtain ⟨k, hk, rfl⟩ := List.mem_map.mp hw
  exact match k, List.mem_range.mp hk with
    | 0, _ => wd_196
    | 1, _ => wd_198
    | 2, _ => wd_200
theorem cl_7 : Cl 7 RX7 TX7 3 := ⟨rfl, by decide, inG7, tyX7_ok, nmX7⟩
theorem inG8 : ∀ w ∈ u_ws RX8 TX8 8, w ∈ lw_good := fun w hw => by
  obtain ⟨k, hk, rfl⟩ := List.mem_map.mp hw
  exact match k, List.mem_range.mp hk with
    | 0, _ => wd_138
    | 1, _ => wd_140
    | 2, _ => wd_142
    | 3, _ => wd_144
    | 4, _ => wd_146
    | 5, _ => wd_148
    | 6, _ => wd_150
    | 7, _ => wd_152
theorem cl_8 : Cl 8 RX8 TX8 8 := ⟨rfl, by decide, inG8, tyX8_ok, nmX8⟩
theorem inG9 : ∀ w ∈ u_ws RX9 TX9 6, w ∈ lw_good := fun w hw => by
  obtain ⟨k, hk, rfl⟩ := List.mem_map.mp hw
  exact match k, List.mem_range.mp hk with
    | 0, _ => wd_232
    | 1, _ => wd_234
    | 2, _ => wd_236
    | 3, _ => wd_238
    | 4, _ => wd_240
    | 5, _ => wd_242
theorem cl_9 : Cl 9 RX9 TX9 6 := ⟨rfl, by decide, inG9, tyX9_ok, nmX9⟩
theorem inG10 : ∀ w ∈ u_ws RX10 TX10 9, w ∈ lw_good := fun w hw => by
  obtain ⟨k, hk, rfl⟩ := List.mem_map.mp hw
  exact match k, List.mem_range.mp hk with
    | 0, _ => wd_308
    | 1, _ => wd_310
    | 2, _ => wd_312
    | 3, _ => wd_314
    | 4, _ => wd_316
    | 5, _ => wd_318
    | 6, _ => wd_320
    | 7, _ => wd_322
    | 8, _ => wd_324
theorem cl_10 : Cl 10 RX10 TX10 9 := ⟨rfl, by decide, inG10, tyX10_ok, nmX10⟩
theorem inG11 : ∀ w ∈ u_ws RX11 TX11 24, w ∈ lw_good := fun w hw => by
  obtain ⟨k, hk, rfl⟩ := List.mem_map.mp hw
  exact match k, List.mem_range.mp hk with
    | 0, _ => wd_941
    | 1, _ => wd_943
    | 2, _ => wd_945
    | 3, _ => wd_947
    | 4, _ => wd_949
    | 5, _ => wd_951
    | 6, _ => wd_953
    | 7, _ => wd_955
    | 8, _ => wd_957
    | 9, _ => wd_959
    | 10, _ => wd_961
    | 11, _ => wd_963
    | 12, _ => wd_965
    | 13, _ => wd_967
    | 14, _ => wd_969
    | 15, _ => wd_971
    | 16, _ => wd_973
    | 17, _ => wd_975
    | 18, _ => wd_977
    | 19, _ => wd_979
    | 20, _ => wd_981
    | 21, _ => wd_983
    | 22, _ => wd_985
    | 23, _ => wd_987
    | n + 24, h => absurd h (by omega)
theorem cl_11 : Cl 11 RX11 TX11 24 := ⟨rfl, by decide, inG11, tyX11_ok, nmX11⟩
def D_X10_init : Md := (yX10_init, cX10_init, 2, none, { frames := 3, cells := 152, slots := 3944, locals := 81 }, RX10)
theorem cd_X10_init : Cd D_X10_init 0 := ⟨wd_80, wd_62, by decide +kernel⟩
def D_X10_feed : Md := (yX10_feed, cX10_feed, 2, (some .int), { frames := 2, cells := 0, slots := 0, locals := 41 }, RX10)
theorem cd_X10_feed : Cd D_X10_feed 1 := ⟨wd_330, wd_62, by decide +kernel⟩
def D_X10_pieces : Md := (yX10_pieces, cX10_pieces, 3, (some .int), { frames := 4, cells := 0, slots := 0, locals := 102 }, RX10)
theorem cd_X10_pieces : Cd D_X10_pieces 0 := ⟨wd_349, wd_62, by decide +kernel⟩
def D_X10_fault : Md := (yX10_fault, cX10_fault, 1, (some .int), { frames := 0, cells := 0, slots := 0, locals := 0 }, RX10)
theorem cd_X10_fault : Cd D_X10_fault 0 := ⟨wd_441, wd_62, by decide +kernel⟩
def D_X10_told : Md := (yX10_told, cX10_told, 2, (some .int), { frames := 6, cells := 0, slots := 0, locals := 140 }, RX10)
theorem cd_X10_told : Cd D_X10_told 1 := ⟨wd_445, wd_62, by decide +kernel⟩
def D_X10_at : Md := (yX10_at, cX10_at, 3, (some .int), { frames := 2, cells := 0, slots := 0, locals := 42 }, RX10)
theorem cd_X10_at : Cd D_X10_at 2 := ⟨wd_683, wd_62, by decide +kernel⟩
def D_X10_day : Md := (yX10_day, cX10_day, 3, (some .int), { frames := 6, cells := 0, slots := 0, locals := 140 }, RX10)
theorem cd_X10_day : Cd D_X10_day 2 := ⟨wd_691, wd_62, by decide +kernel⟩
def D_X10_word : Md := (yX10_word, cX10_word, 4, (some .int), { frames := 6, cells := 0, slots := 0, locals := 140 }, RX10)
theorem cd_X10_word : Cd D_X10_word 3 := ⟨wd_715, wd_62, by decide +kernel⟩
def D_X10_cost : Md := (yX10_cost, cX10_cost, 2, (some .int), { frames := 6, cells := 0, slots := 0, locals := 140 }, RX10)
theorem cd_X10_cost : Cd D_X10_cost 1 := ⟨wd_727, wd_62, by decide +kernel⟩
def D_X10_steady : Md := (yX10_steady, cX10_steady, 3, (some .int), { frames := 6, cells := 0, slots := 0, locals := 140 }, RX10)
theorem cd_X10_steady : Cd D_X10_steady 2 := ⟨wd_735, wd_62, by decide +kernel⟩
def D_X10_flare : Md := (yX10_flare, cX10_flare, 4, (some .int), { frames := 6, cells := 0, slots := 0, locals := 140 }, RX10)
theorem cd_X10_flare : Cd D_X10_flare 2 := ⟨wd_745, wd_62, by decide +kernel⟩
def D_X10_story : Md := (yX10_story, cX10_story, 4, (some .int), { frames := 6, cells := 0, slots := 0, locals := 140 }, RX10)
theorem cd_X10_story : Cd D_X10_story 2 := ⟨wd_752, wd_62, by decide +kernel⟩
def D_X10_together : Md := (yX10_together, cX10_together, 3, (some .int), { frames := 1, cells := 0, slots := 0, locals := 23 }, RX10)
theorem cd_X10_together : Cd D_X10_together 2 := ⟨wd_765, wd_62, by decide +kernel⟩
def D_X10_piece : Md := (yX10_piece, cX10_piece, 3, (some .int), { frames := 5, cells := 0, slots := 0, locals := 124 }, RX10)
theorem cd_X10_piece : Cd D_X10_piece 2 := ⟨wd_771, wd_62, by decide +kernel⟩
def D_X10_take : Md := (yX10_take, cX10_take, 2, (some .int), { frames := 4, cells := 0, slots := 0, locals := 102 }, RX10)
theorem cd_X10_take : Cd D_X10_take 1 := ⟨wd_780, wd_62, by decide +kernel⟩
def D_X10_move : Md := (yX10_move, cX10_move, 4, (some .int), { frames := 4, cells := 0, slots := 0, locals := 102 }, RX10)
theorem cd_X10_move : Cd D_X10_move 2 := ⟨wd_788, wd_62, by decide +kernel⟩
def D_X10_days : Md := (yX10_days, cX10_days, 3, (some .int), { frames := 4, cells := 0, slots := 0, locals := 102 }, RX10)
theorem cd_X10_days : Cd D_X10_days 1 := ⟨wd_796, wd_62, by decide +kernel⟩
def D_X10_term : Md := (yX10_term, cX10_term, 4, (some .int), { frames := 4, cells := 0, slots := 0, locals := 102 }, RX10)
theorem cd_X10_term : Cd D_X10_term 2 := ⟨wd_811, wd_62, by decide +kernel⟩
def D_X10_drift : Md := (yX10_drift, cX10_drift, 5, (some .int), { frames := 5, cells := 0, slots := 0, locals := 124 }, RX10)
theorem cd_X10_drift : Cd D_X10_drift 1 := ⟨wd_835, wd_62, by decide +kernel⟩
def D_X10_undo : Md := (yX10_undo, cX10_undo, 2, (some .int), { frames := 3, cells := 0, slots := 0, locals := 83 }, RX10)
theorem cd_X10_undo : Cd D_X10_undo 1 := ⟨wd_847, wd_62, by decide +kernel⟩
def D_X10_write : Md := (yX10_write, cX10_write, 4, (some .int), { frames := 2, cells := 0, slots := 0, locals := 43 }, RX10)
theorem cd_X10_write : Cd D_X10_write 3 := ⟨wd_855, wd_62, by decide +kernel⟩
def D_X10_tear : Md := (yX10_tear, cX10_tear, 2, (some .int), { frames := 1, cells := 0, slots := 0, locals := 20 }, RX10)
theorem cd_X10_tear : Cd D_X10_tear 0 := ⟨wd_868, wd_62, by decide +kernel⟩
def D_X10_seed : Md := (yX10_seed, cX10_seed, 3, (some .int), { frames := 0, cells := 0, slots := 0, locals := 0 }, RX10)
theorem cd_X10_seed : Cd D_X10_seed 1 := ⟨wd_876, wd_62, by decide +kernel⟩
def D_X10_keep : Md := (yX10_keep, cX10_keep, 3, (some .int), { frames := 3, cells := 0, slots := 0, locals := 83 }, RX10)
theorem cd_X10_keep : Cd D_X10_keep 1 := ⟨wd_880, wd_62, by decide +kernel⟩
def D_X10_goBack : Md := (yX10_goBack, cX10_goBack, 3, (some .int), { frames := 2, cells := 0, slots := 0, locals := 61 }, RX10)
theorem cd_X10_goBack : Cd D_X10_goBack 1 := ⟨wd_897, wd_62, by decide +kernel⟩
def D_X10_isWord : Md := (yX10_isWord, cX10_isWord, 1, (some .boolean), { frames := 0, cells := 0, slots := 0, locals := 0 }, RX10)
theorem cd_X10_isWord : Cd D_X10_isWord 1 := ⟨wd_387, wd_62, by decide +kernel⟩
def D_X10_setOfWord : Md := (yX10_setOfWord, cX10_setOfWord, 1, (some .int), { frames := 0, cells := 0, slots := 0, locals := 0 }, RX10)
theorem cd_X10_setOfWord : Cd D_X10_setOfWord 1 := ⟨wd_390, wd_62, by decide +kernel⟩
def D_X10_aheadOfDeed : Md := (yX10_aheadOfDeed, cX10_aheadOfDeed, 1, none, { frames := 3, cells := 0, slots := 0, locals := 82 }, RX10)
theorem cd_X10_aheadOfDeed : Cd D_X10_aheadOfDeed 0 := ⟨wd_402, wd_62, by decide +kernel⟩
def D_X10_comes : Md := (yX10_comes, cX10_comes, 3, none, { frames := 4, cells := 0, slots := 0, locals := 102 }, RX10)
theorem cd_X10_comes : Cd D_X10_comes 2 := ⟨wd_776, wd_62, by decide +kernel⟩
def D_X10_draw : Md := (yX10_draw, cX10_draw, 2, (some .int), { frames := 0, cells := 0, slots := 0, locals := 0 }, RX10)
theorem cd_X10_draw : Cd D_X10_draw 1 := ⟨wd_839, wd_62, by decide +kernel⟩
def D_X10_imageOf : Md := (yX10_imageOf, cX10_imageOf, 2, (some (.object "FlaringWords$Image")), { frames := 0, cells := 0, slots := 0, locals := 0 }, RX10)
theorem cd_X10_imageOf : Cd D_X10_imageOf 1 := ⟨wd_884, wd_62, by decide +kernel⟩
def D_X10_found : Md := (yX10_found, cX10_found, 1, (some (.object "FlaringWords$Findings")), { frames := 5, cells := 0, slots := 0, locals := 120 }, RX10)
theorem cd_X10_found : Cd D_X10_found 0 := ⟨wd_449, wd_62, by decide +kernel⟩
def D_X11_init : Md := (yX11_init, cX11_init, 1, none, { frames := 1, cells := 15, slots := 2700, locals := 40 }, RX11)
theorem cd_X11_init : Cd D_X11_init 0 := ⟨wd_915, wd_73, by decide +kernel⟩
def D_X11_in : Md := (yX11_in, cX11_in, 6, (some .boolean), { frames := 0, cells := 0, slots := 0, locals := 0 }, RX11)
theorem cd_X11_in : Cd D_X11_in 3 := ⟨wd_997, wd_73, by decide +kernel⟩
def D_X11_has : Md := (yX11_has, cX11_has, 2, (some .boolean), { frames := 0, cells := 0, slots := 0, locals := 0 }, RX11)
theorem cd_X11_has : Cd D_X11_has 2 := ⟨wd_1248, wd_73, by decide +kernel⟩
def D_X11_copyRow : Md := (yX11_copyRow, cX11_copyRow, 4, none, { frames := 0, cells := 0, slots := 0, locals := 0 }, RX11)
theorem cd_X11_copyRow : Cd D_X11_copyRow 2 := ⟨wd_1034, wd_73, by decide +kernel⟩
def D_X11_remember : Md := (yX11_remember, cX11_remember, 2, none, { frames := 1, cells := 0, slots := 0, locals := 23 }, RX11)
theorem cd_X11_remember : Cd D_X11_remember 0 := ⟨wd_1030, wd_73, by decide +kernel⟩
def D_X11_count : Md := (yX11_count, cX11_count, 5, (some .int), { frames := 0, cells := 0, slots := 0, locals := 0 }, RX11)
theorem cd_X11_count : Cd D_X11_count 2 := ⟨wd_1074, wd_73, by decide +kernel⟩
def D_X11_wanted : Md := (yX11_wanted, cX11_wanted, 5, (some .int), { frames := 1, cells := 0, slots := 0, locals := 24 }, RX11)
theorem cd_X11_wanted : Cd D_X11_wanted 3 := ⟨wd_1078, wd_73, by decide +kernel⟩
def D_X11_unlikely : Md := (yX11_unlikely, cX11_unlikely, 5, (some .int), { frames := 2, cells := 0, slots := 0, locals := 48 }, RX11)
theorem cd_X11_unlikely : Cd D_X11_unlikely 3 := ⟨wd_1070, wd_73, by decide +kernel⟩
def D_X11_through : Md := (yX11_through, cX11_through, 6, (some .int), { frames := 3, cells := 0, slots := 0, locals := 72 }, RX11)
theorem cd_X11_through : Cd D_X11_through 4 := ⟨wd_1066, wd_73, by decide +kernel⟩
def D_X11_bestLevel : Md := (yX11_bestLevel, cX11_bestLevel, 6, (some .int), { frames := 4, cells := 0, slots := 0, locals := 97 }, RX11)
theorem cd_X11_bestLevel : Cd D_X11_bestLevel 3 := ⟨wd_1062, wd_73, by decide +kernel⟩
def D_X11_layLevels : Md := (yX11_layLevels, cX11_layLevels, 4, none, { frames := 5, cells := 0, slots := 0, locals := 122 }, RX11)
theorem cd_X11_layLevels : Cd D_X11_layLevels 1 := ⟨wd_1058, wd_73, by decide +kernel⟩
def D_X11_levelOf : Md := (yX11_levelOf, cX11_levelOf, 3, (some .int), { frames := 6, cells := 0, slots := 0, locals := 145 }, RX11)
theorem cd_X11_levelOf : Cd D_X11_levelOf 2 := ⟨wd_1118, wd_73, by decide +kernel⟩
def D_X11_addFlares : Md := (yX11_addFlares, cX11_addFlares, 6, none, { frames := 0, cells := 0, slots := 0, locals := 0 }, RX11)
theorem cd_X11_addFlares : Cd D_X11_addFlares 2 := ⟨wd_1082, wd_73, by decide +kernel⟩
def D_X11_layFlares : Md := (yX11_layFlares, cX11_layFlares, 3, none, { frames := 6, cells := 0, slots := 0, locals := 145 }, RX11)
theorem cd_X11_layFlares : Cd D_X11_layFlares 0 := ⟨wd_1054, wd_73, by decide +kernel⟩
def D_X11_isIn : Md := (yX11_isIn, cX11_isIn, 3, (some .boolean), { frames := 1, cells := 0, slots := 0, locals := 25 }, RX11)
theorem cd_X11_isIn : Cd D_X11_isIn 2 := ⟨wd_1098, wd_73, by decide +kernel⟩
def D_X11_areTied : Md := (yX11_areTied, cX11_areTied, 6, (some .boolean), { frames := 2, cells := 0, slots := 0, locals := 47 }, RX11)
theorem cd_X11_areTied : Cd D_X11_areTied 2 := ⟨wd_1094, wd_73, by decide +kernel⟩
def D_X11_layHeaps : Md := (yX11_layHeaps, cX11_layHeaps, 4, none, { frames := 7, cells := 0, slots := 0, locals := 167 }, RX11)
theorem cd_X11_layHeaps : Cd D_X11_layHeaps 0 := ⟨wd_1090, wd_73, by decide +kernel⟩
def D_X11_begins : Md := (yX11_begins, cX11_begins, 2, (some .boolean), { frames := 0, cells := 0, slots := 0, locals := 0 }, RX11)
theorem cd_X11_begins : Cd D_X11_begins 1 := ⟨wd_1102, wd_73, by decide +kernel⟩
def D_X11_stories : Md := (yX11_stories, cX11_stories, 3, (some .int), { frames := 8, cells := 0, slots := 0, locals := 190 }, RX11)
theorem cd_X11_stories : Cd D_X11_stories 0 := ⟨wd_1086, wd_73, by decide +kernel⟩
def D_X11_storyOf : Md := (yX11_storyOf, cX11_storyOf, 4, (some .int), { frames := 1, cells := 0, slots := 0, locals := 21 }, RX11)
theorem cd_X11_storyOf : Cd D_X11_storyOf 1 := ⟨wd_1175, wd_73, by decide +kernel⟩
def D_X11_isFigure : Md := (yX11_isFigure, cX11_isFigure, 1, (some .boolean), { frames := 1, cells := 0, slots := 0, locals := 25 }, RX11)
theorem cd_X11_isFigure : Cd D_X11_isFigure 1 := ⟨wd_1014, wd_73, by decide +kernel⟩
def D_X11_dayAt : Md := (yX11_dayAt, cX11_dayAt, 4, (some .int), { frames := 0, cells := 0, slots := 0, locals := 0 }, RX11)
theorem cd_X11_dayAt : Cd D_X11_dayAt 1 := ⟨wd_1020, wd_73, by decide +kernel⟩
def D_X11_faultOf : Md := (yX11_faultOf, cX11_faultOf, 3, (some .int), { frames := 2, cells := 0, slots := 0, locals := 45 }, RX11)
theorem cd_X11_faultOf : Cd D_X11_faultOf 1 := ⟨wd_1011, wd_73, by decide +kernel⟩
def D_X11_goOn : Md := (yX11_goOn, cX11_goOn, 3, none, { frames := 1, cells := 0, slots := 0, locals := 23 }, RX11)
theorem cd_X11_goOn : Cd D_X11_goOn 1 := ⟨wd_1026, wd_73, by decide +kernel⟩
def D_X11_readText : Md := (yX11_readText, cX11_readText, 3, (some .int), { frames := 3, cells := 0, slots := 0, locals := 67 }, RX11)
theorem cd_X11_readText : Cd D_X11_readText 0 := ⟨wd_1007, wd_73, by decide +kernel⟩
def D_X11_feed : Md := (yX11_feed, cX11_feed, 2, (some .int), { frames := 1, cells := 0, slots := 0, locals := 25 }, RX11)
theorem cd_X11_feed : Cd D_X11_feed 1 := ⟨wd_993, wd_73, by decide +kernel⟩
def D_X11_add : Md := (yX11_add, cX11_add, 3, none, { frames := 0, cells := 0, slots := 0, locals := 0 }, RX11)
theorem cd_X11_add : Cd D_X11_add 2 := ⟨wd_1038, wd_73, by decide +kernel⟩
def D_X11_pieces : Md := (yX11_pieces, cX11_pieces, 3, (some .int), { frames := 4, cells := 0, slots := 0, locals := 89 }, RX11)
theorem cd_X11_pieces : Cd D_X11_pieces 0 := ⟨wd_1003, wd_73, by decide +kernel⟩
def D_X11_fault : Md := (yX11_fault, cX11_fault, 1, (some .int), { frames := 0, cells := 0, slots := 0, locals := 0 }, RX11)
theorem cd_X11_fault : Cd D_X11_fault 0 := ⟨wd_1042, wd_73, by decide +kernel⟩
def D_X11_isDay : Md := (yX11_isDay, cX11_isDay, 2, (some .boolean), { frames := 1, cells := 0, slots := 0, locals := 25 }, RX11)
theorem cd_X11_isDay : Cd D_X11_isDay 1 := ⟨wd_1114, wd_73, by decide +kernel⟩
def D_X11_isWord : Md := (yX11_isWord, cX11_isWord, 1, (some .boolean), { frames := 1, cells := 0, slots := 0, locals := 25 }, RX11)
theorem cd_X11_isWord : Cd D_X11_isWord 1 := ⟨wd_1146, wd_73, by decide +kernel⟩
def D_X11_wrong : Md := (yX11_wrong, cX11_wrong, 2, (some .int), { frames := 7, cells := 0, slots := 0, locals := 167 }, RX11)
theorem cd_X11_wrong : Cd D_X11_wrong 0 := ⟨wd_1110, wd_73, by decide +kernel⟩
def D_X11_flaresNow : Md := (yX11_flaresNow, cX11_flaresNow, 1, (some .int), { frames := 7, cells := 0, slots := 0, locals := 167 }, RX11)
theorem cd_X11_flaresNow : Cd D_X11_flaresNow 0 := ⟨wd_1050, wd_73, by decide +kernel⟩
def D_X11_toldMore : Md := (yX11_toldMore, cX11_toldMore, 2, (some .int), { frames := 8, cells := 0, slots := 0, locals := 188 }, RX11)
theorem cd_X11_toldMore : Cd D_X11_toldMore 1 := ⟨wd_1106, wd_73, by decide +kernel⟩
def D_X11_told : Md := (yX11_told, cX11_told, 2, (some .int), { frames := 9, cells := 0, slots := 0, locals := 212 }, RX11)
theorem cd_X11_told : Cd D_X11_told 1 := ⟨wd_1046, wd_73, by decide +kernel⟩
def D_X11_isPiece : Md := (yX11_isPiece, cX11_isPiece, 2, (some .boolean), { frames := 1, cells := 0, slots := 0, locals := 25 }, RX11)
theorem cd_X11_isPiece : Cd D_X11_isPiece 1 := ⟨wd_1126, wd_73, by decide +kernel⟩
def D_X11_at : Md := (yX11_at, cX11_at, 3, (some .int), { frames := 2, cells := 0, slots := 0, locals := 46 }, RX11)
theorem cd_X11_at : Cd D_X11_at 2 := ⟨wd_1122, wd_73, by decide +kernel⟩
def D_X11_hot : Md := (yX11_hot, cX11_hot, 4, (some .int), { frames := 7, cells := 0, slots := 0, locals := 167 }, RX11)
theorem cd_X11_hot : Cd D_X11_hot 1 := ⟨wd_1135, wd_73, by decide +kernel⟩
def D_X11_topOf : Md := (yX11_topOf, cX11_topOf, 7, (some .int), { frames := 7, cells := 0, slots := 0, locals := 167 }, RX11)
theorem cd_X11_topOf : Cd D_X11_topOf 1 := ⟨wd_1139, wd_73, by decide +kernel⟩
def D_X11_day : Md := (yX11_day, cX11_day, 3, (some .int), { frames := 8, cells := 0, slots := 0, locals := 193 }, RX11)
theorem cd_X11_day : Cd D_X11_day 2 := ⟨wd_1131, wd_73, by decide +kernel⟩
def D_X11_word : Md := (yX11_word, cX11_word, 4, (some .int), { frames := 7, cells := 0, slots := 0, locals := 167 }, RX11)
theorem cd_X11_word : Cd D_X11_word 3 := ⟨wd_1143, wd_73, by decide +kernel⟩
def D_X11_cost : Md := (yX11_cost, cX11_cost, 2, (some .int), { frames := 6, cells := 0, slots := 0, locals := 145 }, RX11)
theorem cd_X11_cost : Cd D_X11_cost 1 := ⟨wd_1151, wd_73, by decide +kernel⟩
def D_X11_steady : Md := (yX11_steady, cX11_steady, 5, (some .int), { frames := 3, cells := 0, slots := 0, locals := 72 }, RX11)
theorem cd_X11_steady : Cd D_X11_steady 2 := ⟨wd_1155, wd_73, by decide +kernel⟩
def D_X11_within : Md := (yX11_within, cX11_within, 5, (some .int), { frames := 2, cells := 0, slots := 0, locals := 47 }, RX11)
theorem cd_X11_within : Cd D_X11_within 1 := ⟨wd_1163, wd_73, by decide +kernel⟩
def D_X11_weight : Md := (yX11_weight, cX11_weight, 4, (some .int), { frames := 3, cells := 0, slots := 0, locals := 72 }, RX11)
theorem cd_X11_weight : Cd D_X11_weight 1 := ⟨wd_1167, wd_73, by decide +kernel⟩
def D_X11_peak : Md := (yX11_peak, cX11_peak, 4, (some .int), { frames := 1, cells := 0, slots := 0, locals := 24 }, RX11)
theorem cd_X11_peak : Cd D_X11_peak 1 := ⟨wd_1171, wd_73, by decide +kernel⟩
def D_X11_flare : Md := (yX11_flare, cX11_flare, 3, (some .int), { frames := 8, cells := 0, slots := 0, locals := 190 }, RX11)
theorem cd_X11_flare : Cd D_X11_flare 2 := ⟨wd_1159, wd_73, by decide +kernel⟩
def D_X11_story : Md := (yX11_story, cX11_story, 8, (some .int), { frames := 9, cells := 0, slots := 0, locals := 212 }, RX11)
theorem cd_X11_story : Cd D_X11_story 2 := ⟨wd_1179, wd_73, by decide +kernel⟩
def D_X11_together : Md := (yX11_together, cX11_together, 3, (some .int), { frames := 2, cells := 0, slots := 0, locals := 45 }, RX11)
theorem cd_X11_together : Cd D_X11_together 2 := ⟨wd_1183, wd_73, by decide +kernel⟩
def D_X11_piece : Md := (yX11_piece, cX11_piece, 3, (some .int), { frames := 2, cells := 0, slots := 0, locals := 46 }, RX11)
theorem cd_X11_piece : Cd D_X11_piece 2 := ⟨wd_1187, wd_73, by decide +kernel⟩
def D_X11_take : Md := (yX11_take, cX11_take, 3, (some .int), { frames := 2, cells := 0, slots := 0, locals := 46 }, RX11)
theorem cd_X11_take : Cd D_X11_take 1 := ⟨wd_1191, wd_73, by decide +kernel⟩
def D_X11_move : Md := (yX11_move, cX11_move, 4, (some .int), { frames := 2, cells := 0, slots := 0, locals := 46 }, RX11)
theorem cd_X11_move : Cd D_X11_move 2 := ⟨wd_1195, wd_73, by decide +kernel⟩
def D_X11_days : Md := (yX11_days, cX11_days, 3, (some .int), { frames := 2, cells := 0, slots := 0, locals := 44 }, RX11)
theorem cd_X11_days : Cd D_X11_days 1 := ⟨wd_1199, wd_73, by decide +kernel⟩
def D_X11_term : Md := (yX11_term, cX11_term, 4, (some .int), { frames := 2, cells := 0, slots := 0, locals := 44 }, RX11)
theorem cd_X11_term : Cd D_X11_term 2 := ⟨wd_1205, wd_73, by decide +kernel⟩
def D_X11_draw : Md := (yX11_draw, cX11_draw, 2, (some .int), { frames := 0, cells := 0, slots := 0, locals := 0 }, RX11)
theorem cd_X11_draw : Cd D_X11_draw 1 := ⟨wd_1216, wd_73, by decide +kernel⟩
def D_X11_drift : Md := (yX11_drift, cX11_drift, 4, (some .int), { frames := 2, cells := 0, slots := 0, locals := 44 }, RX11)
theorem cd_X11_drift : Cd D_X11_drift 1 := ⟨wd_1212, wd_73, by decide +kernel⟩
def D_X11_undo : Md := (yX11_undo, cX11_undo, 3, (some .int), { frames := 1, cells := 0, slots := 0, locals := 25 }, RX11)
theorem cd_X11_undo : Cd D_X11_undo 1 := ⟨wd_1224, wd_73, by decide +kernel⟩
def D_X11_write : Md := (yX11_write, cX11_write, 4, (some .int), { frames := 2, cells := 0, slots := 0, locals := 46 }, RX11)
theorem cd_X11_write : Cd D_X11_write 3 := ⟨wd_1229, wd_73, by decide +kernel⟩
def D_X11_tear : Md := (yX11_tear, cX11_tear, 2, (some .int), { frames := 0, cells := 0, slots := 0, locals := 0 }, RX11)
theorem cd_X11_tear : Cd D_X11_tear 0 := ⟨wd_1233, wd_73, by decide +kernel⟩
def D_X11_seed : Md := (yX11_seed, cX11_seed, 3, (some .int), { frames := 0, cells := 0, slots := 0, locals := 0 }, RX11)
theorem cd_X11_seed : Cd D_X11_seed 1 := ⟨wd_1237, wd_73, by decide +kernel⟩
def D_X11_keep : Md := (yX11_keep, cX11_keep, 2, (some .int), { frames := 1, cells := 0, slots := 0, locals := 25 }, RX11)
theorem cd_X11_keep : Cd D_X11_keep 1 := ⟨wd_1241, wd_73, by decide +kernel⟩
def D_X11_goBack : Md := (yX11_goBack, cX11_goBack, 2, (some .int), { frames := 1, cells := 0, slots := 0, locals := 25 }, RX11)
theorem cd_X11_goBack : Cd D_X11_goBack 1 := ⟨wd_1245, wd_73, by decide +kernel⟩
def D_X0_init : Md := (yX0_init, cX0_init, 1, none, { frames := 1, cells := 3, slots := 60, locals := 40 }, RX0)
theorem cd_X0_init : Cd D_X0_init 0 := ⟨wd_265, wd_71, by decide +kernel⟩
def D_X0_hasRoom : Md := (yX0_hasRoom, cX0_hasRoom, 1, (some .boolean), { frames := 0, cells := 0, slots := 0, locals := 0 }, RX0)
theorem cd_X0_hasRoom : Cd D_X0_hasRoom 0 := ⟨wd_859, wd_71, by decide +kernel⟩
def D_X0_entries : Md := (yX0_entries, cX0_entries, 1, (some .int), { frames := 0, cells := 0, slots := 0, locals := 0 }, RX0)
theorem cd_X0_entries : Cd D_X0_entries 0 := ⟨wd_666, wd_71, by decide +kernel⟩
def D_X0_add : Md := (yX0_add, cX0_add, 4, none, { frames := 1, cells := 0, slots := 0, locals := 20 }, RX0)
theorem cd_X0_add : Cd D_X0_add 3 := ⟨wd_863, wd_71, by decide +kernel⟩
def D_X0_clear : Md := (yX0_clear, cX0_clear, 1, none, { frames := 0, cells := 0, slots := 0, locals := 0 }, RX0)
theorem cd_X0_clear : Cd D_X0_clear 0 := ⟨wd_872, wd_71, by decide +kernel⟩
def D_X0_firstWrong : Md := (yX0_firstWrong, cX0_firstWrong, 4, (some .int), { frames := 2, cells := 0, slots := 0, locals := 42 }, RX0)
theorem cd_X0_firstWrong : Cd D_X0_firstWrong 2 := ⟨wd_670, wd_71, by decide +kernel⟩
def D_X1_init : Md := (yX1_init, cX1_init, 2, none, { frames := 2, cells := 65, slots := 1440, locals := 60 }, RX1)
theorem cd_X1_init : Cd D_X1_init 0 := ⟨wd_249, wd_70, by decide +kernel⟩
def D_X1_number : Md := (yX1_number, cX1_number, 1, (some .int), { frames := 0, cells := 0, slots := 0, locals := 0 }, RX1)
theorem cd_X1_number : Cd D_X1_number 0 := ⟨wd_679, wd_70, by decide +kernel⟩
def D_X1_forget : Md := (yX1_forget, cX1_forget, 1, none, { frames := 0, cells := 0, slots := 0, locals := 0 }, RX1)
theorem cd_X1_forget : Cd D_X1_forget 0 := ⟨wd_893, wd_70, by decide +kernel⟩
def D_X1_remember : Md := (yX1_remember, cX1_remember, 2, none, { frames := 2, cells := 0, slots := 0, locals := 61 }, RX1)
theorem cd_X1_remember : Cd D_X1_remember 1 := ⟨wd_406, wd_70, by decide +kernel⟩
def D_X1_takeBack : Md := (yX1_takeBack, cX1_takeBack, 3, none, { frames := 2, cells := 0, slots := 0, locals := 61 }, RX1)
theorem cd_X1_takeBack : Cd D_X1_takeBack 2 := ⟨wd_851, wd_70, by decide +kernel⟩
def D_X1_dropOldest : Md := (yX1_dropOldest, cX1_dropOldest, 3, none, { frames := 0, cells := 0, slots := 0, locals := 0 }, RX1)
theorem cd_X1_dropOldest : Cd D_X1_dropOldest 0 := ⟨wd_410, wd_70, by decide +kernel⟩
def D_X2_init : Md := (yX2_init, cX2_init, 1, none, { frames := 2, cells := 62, slots := 2053, locals := 60 }, RX2)
theorem cd_X2_init : Cd D_X2_init 0 := ⟨wd_120, wd_64, by decide +kernel⟩
def D_X2_hot : Md := (yX2_hot, cX2_hot, 4, (some .int), { frames := 2, cells := 0, slots := 0, locals := 42 }, RX2)
theorem cd_X2_hot : Cd D_X2_hot 1 := ⟨wd_700, wd_64, by decide +kernel⟩
def D_X2_top : Md := (yX2_top, cX2_top, 4, (some .int), { frames := 3, cells := 0, slots := 0, locals := 65 }, RX2)
theorem cd_X2_top : Cd D_X2_top 1 := ⟨wd_706, wd_64, by decide +kernel⟩
def D_X2_isAbove : Md := (yX2_isAbove, cX2_isAbove, 4, (some .boolean), { frames := 2, cells := 0, slots := 0, locals := 42 }, RX2)
theorem cd_X2_isAbove : Cd D_X2_isAbove 3 := ⟨wd_710, wd_64, by decide +kernel⟩
def D_X3_init : Md := (yX3_init, cX3_init, 1, none, { frames := 1, cells := 10, slots := 1305, locals := 40 }, RX3)
theorem cd_X3_init : Cd D_X3_init 0 := ⟨wd_176, wd_67, by decide +kernel⟩
def D_X3_number : Md := (yX3_number, cX3_number, 1, (some .int), { frames := 0, cells := 0, slots := 0, locals := 0 }, RX3)
theorem cd_X3_number : Cd D_X3_number 0 := ⟨wd_589, wd_67, by decide +kernel⟩
def D_X3_has : Md := (yX3_has, cX3_has, 2, (some .boolean), { frames := 0, cells := 0, slots := 0, locals := 0 }, RX3)
theorem cd_X3_has : Cd D_X3_has 1 := ⟨wd_567, wd_67, by decide +kernel⟩
def D_X3_hasDay : Md := (yX3_hasDay, cX3_hasDay, 3, (some .boolean), { frames := 1, cells := 0, slots := 0, locals := 21 }, RX3)
theorem cd_X3_hasDay : Cd D_X3_hasDay 2 := ⟨wd_563, wd_67, by decide +kernel⟩
def D_X3_isAtOne : Md := (yX3_isAtOne, cX3_isAtOne, 2, (some .boolean), { frames := 1, cells := 0, slots := 0, locals := 21 }, RX3)
theorem cd_X3_isAtOne : Cd D_X3_isAtOne 1 := ⟨wd_593, wd_67, by decide +kernel⟩
def D_X3_setOf : Md := (yX3_setOf, cX3_setOf, 2, (some .int), { frames := 1, cells := 0, slots := 0, locals := 21 }, RX3)
theorem cd_X3_setOf : Cd D_X3_setOf 1 := ⟨wd_615, wd_67, by decide +kernel⟩
def D_X3_isFact : Md := (yX3_isFact, cX3_isFact, 1, (some .boolean), { frames := 0, cells := 0, slots := 0, locals := 0 }, RX3)
theorem cd_X3_isFact : Cd D_X3_isFact 1 := ⟨wd_641, wd_67, by decide +kernel⟩
def D_X3_fact : Md := (yX3_fact, cX3_fact, 3, (some .int), { frames := 1, cells := 0, slots := 0, locals := 21 }, RX3)
theorem cd_X3_fact : Cd D_X3_fact 2 := ⟨wd_638, wd_67, by decide +kernel⟩
def D_X3_putStory : Md := (yX3_putStory, cX3_putStory, 3, none, { frames := 1, cells := 0, slots := 0, locals := 21 }, RX3)
theorem cd_X3_putStory : Cd D_X3_putStory 2 := ⟨wd_645, wd_67, by decide +kernel⟩
def D_X3_findAll : Md := (yX3_findAll, cX3_findAll, 5, none, { frames := 4, cells := 0, slots := 0, locals := 92 }, RX3)
theorem cd_X3_findAll : Cd D_X3_findAll 2 := ⟨wd_540, wd_67, by decide +kernel⟩
def D_X3_findAt : Md := (yX3_findAt, cX3_findAt, 8, none, { frames := 2, cells := 0, slots := 0, locals := 42 }, RX3)
theorem cd_X3_findAt : Cd D_X3_findAt 4 := ⟨wd_546, wd_67, by decide +kernel⟩
def D_X3_add : Md := (yX3_add, cX3_add, 5, none, { frames := 0, cells := 0, slots := 0, locals := 0 }, RX3)
theorem cd_X3_add : Cd D_X3_add 4 := ⟨wd_555, wd_67, by decide +kernel⟩
def D_X3_around : Md := (yX3_around, cX3_around, 3, (some .int), { frames := 2, cells := 0, slots := 0, locals := 43 }, RX3)
theorem cd_X3_around : Cd D_X3_around 1 := ⟨wd_559, wd_67, by decide +kernel⟩
def D_X3_weightOf : Md := (yX3_weightOf, cX3_weightOf, 7, (some .int), { frames := 3, cells := 0, slots := 0, locals := 66 }, RX3)
theorem cd_X3_weightOf : Cd D_X3_weightOf 2 := ⟨wd_571, wd_67, by decide +kernel⟩
def D_X3_peakOf : Md := (yX3_peakOf, cX3_peakOf, 6, (some .int), { frames := 2, cells := 0, slots := 0, locals := 42 }, RX3)
theorem cd_X3_peakOf : Cd D_X3_peakOf 2 := ⟨wd_576, wd_67, by decide +kernel⟩
def D_X3_fadeOf : Md := (yX3_fadeOf, cX3_fadeOf, 4, (some .int), { frames := 2, cells := 0, slots := 0, locals := 42 }, RX3)
theorem cd_X3_fadeOf : Cd D_X3_fadeOf 2 := ⟨wd_581, wd_67, by decide +kernel⟩
def D_X4_init : Md := (yX4_init, cX4_init, 1, none, { frames := 2, cells := 4, slots := 89, locals := 60 }, RX4)
theorem cd_X4_init : Cd D_X4_init 0 := ⟨wd_285, wd_72, by decide +kernel⟩
def D_X4_hold : Md := (yX4_hold, cX4_hold, 3, none, { frames := 2, cells := 0, slots := 0, locals := 61 }, RX4)
theorem cd_X4_hold : Cd D_X4_hold 2 := ⟨wd_888, wd_72, by decide +kernel⟩
def D_X4_isHeld : Md := (yX4_isHeld, cX4_isHeld, 1, (some .boolean), { frames := 0, cells := 0, slots := 0, locals := 0 }, RX4)
theorem cd_X4_isHeld : Cd D_X4_isHeld 0 := ⟨wd_901, wd_72, by decide +kernel⟩
def D_X4_heldNews : Md := (yX4_heldNews, cX4_heldNews, 1, (some (.object "FlaringWords$News")), { frames := 0, cells := 0, slots := 0, locals := 0 }, RX4)
theorem cd_X4_heldNews : Cd D_X4_heldNews 0 := ⟨wd_905, wd_72, by decide +kernel⟩
def D_X4_heldSeed : Md := (yX4_heldSeed, cX4_heldSeed, 1, (some .int), { frames := 0, cells := 0, slots := 0, locals := 0 }, RX4)
theorem cd_X4_heldSeed : Cd D_X4_heldSeed 0 := ⟨wd_910, wd_72, by decide +kernel⟩
def D_X5_init : Md := (yX5_init, cX5_init, 1, none, { frames := 1, cells := 23, slots := 172, locals := 40 }, RX5)
theorem cd_X5_init : Cd D_X5_init 0 := ⟨wd_159, wd_66, by decide +kernel⟩
def D_X5_findAll : Md := (yX5_findAll, cX5_findAll, 3, none, { frames := 4, cells := 0, slots := 0, locals := 98 }, RX5)
theorem cd_X5_findAll : Cd D_X5_findAll 1 := ⟨wd_488, wd_66, by decide +kernel⟩
def D_X5_of : Md := (yX5_of, cX5_of, 3, (some .int), { frames := 1, cells := 0, slots := 0, locals := 20 }, RX5)
theorem cd_X5_of : Cd D_X5_of 2 := ⟨wd_550, wd_66, by decide +kernel⟩
def D_X5_costOf : Md := (yX5_costOf, cX5_costOf, 2, (some .int), { frames := 1, cells := 0, slots := 0, locals := 20 }, RX5)
theorem cd_X5_costOf : Cd D_X5_costOf 1 := ⟨wd_731, wd_66, by decide +kernel⟩
def D_X5_costRests : Md := (yX5_costRests, cX5_costRests, 7, none, { frames := 3, cells := 0, slots := 0, locals := 72 }, RX5)
theorem cd_X5_costRests : Cd D_X5_costRests 2 := ⟨wd_492, wd_66, by decide +kernel⟩
def D_X5_walk : Md := (yX5_walk, cX5_walk, 5, none, { frames := 3, cells := 0, slots := 0, locals := 72 }, RX5)
theorem cd_X5_walk : Cd D_X5_walk 2 := ⟨wd_536, wd_66, by decide +kernel⟩
def D_X5_leastFrom : Md := (yX5_leastFrom, cX5_leastFrom, 6, (some .int), { frames := 2, cells := 0, slots := 0, locals := 47 }, RX5)
theorem cd_X5_leastFrom : Cd D_X5_leastFrom 3 := ⟨wd_504, wd_66, by decide +kernel⟩
def D_X5_costFrom : Md := (yX5_costFrom, cX5_costFrom, 6, (some .int), { frames := 1, cells := 0, slots := 0, locals := 22 }, RX5)
theorem cd_X5_costFrom : Cd D_X5_costFrom 4 := ⟨wd_508, wd_66, by decide +kernel⟩
def D_X6_init : Md := (yX6_init, cX6_init, 1, none, { frames := 1, cells := 3, slots := 84, locals := 40 }, RX6)
theorem cd_X6_init : Cd D_X6_init 0 := ⟨wd_88, wd_63, by decide +kernel⟩
def D_X6_isTerm : Md := (yX6_isTerm, cX6_isTerm, 1, (some .boolean), { frames := 0, cells := 0, slots := 0, locals := 0 }, RX6)
theorem cd_X6_isTerm : Cd D_X6_isTerm 1 := ⟨wd_814, wd_63, by decide +kernel⟩
def D_X6_isInBounds : Md := (yX6_isInBounds, cX6_isInBounds, 2, (some .boolean), { frames := 1, cells := 0, slots := 0, locals := 20 }, RX6)
theorem cd_X6_isInBounds : Cd D_X6_isInBounds 2 := ⟨wd_817, wd_63, by decide +kernel⟩
def D_X6_termOf : Md := (yX6_termOf, cX6_termOf, 2, (some .int), { frames := 1, cells := 0, slots := 0, locals := 20 }, RX6)
theorem cd_X6_termOf : Cd D_X6_termOf 1 := ⟨wd_826, wd_63, by decide +kernel⟩
def D_X6_setTerm : Md := (yX6_setTerm, cX6_setTerm, 3, none, { frames := 2, cells := 0, slots := 0, locals := 41 }, RX6)
theorem cd_X6_setTerm : Cd D_X6_setTerm 2 := ⟨wd_830, wd_63, by decide +kernel⟩
def D_X6_levels : Md := (yX6_levels, cX6_levels, 1, (some .int), { frames := 0, cells := 0, slots := 0, locals := 0 }, RX6)
theorem cd_X6_levels : Cd D_X6_levels 0 := ⟨wd_458, wd_63, by decide +kernel⟩
def D_X6_base : Md := (yX6_base, cX6_base, 1, (some .int), { frames := 0, cells := 0, slots := 0, locals := 0 }, RX6)
theorem cd_X6_base : Cd D_X6_base 0 := ⟨wd_462, wd_63, by decide +kernel⟩
def D_X6_step : Md := (yX6_step, cX6_step, 1, (some .int), { frames := 0, cells := 0, slots := 0, locals := 0 }, RX6)
theorem cd_X6_step : Cd D_X6_step 0 := ⟨wd_466, wd_63, by decide +kernel⟩
def D_X6_rise : Md := (yX6_rise, cX6_rise, 1, (some .int), { frames := 0, cells := 0, slots := 0, locals := 0 }, RX6)
theorem cd_X6_rise : Cd D_X6_rise 0 := ⟨wd_470, wd_63, by decide +kernel⟩
def D_X6_hasLevel : Md := (yX6_hasLevel, cX6_hasLevel, 2, (some .boolean), { frames := 0, cells := 0, slots := 0, locals := 0 }, RX6)
theorem cd_X6_hasLevel : Cd D_X6_hasLevel 1 := ⟨wd_722, wd_63, by decide +kernel⟩
def D_X6_dayCount : Md := (yX6_dayCount, cX6_dayCount, 1, (some .int), { frames := 0, cells := 0, slots := 0, locals := 0 }, RX6)
theorem cd_X6_dayCount : Cd D_X6_dayCount 0 := ⟨wd_353, wd_63, by decide +kernel⟩
def D_X6_hasDay : Md := (yX6_hasDay, cX6_hasDay, 2, (some .boolean), { frames := 0, cells := 0, slots := 0, locals := 0 }, RX6)
theorem cd_X6_hasDay : Cd D_X6_hasDay 1 := ⟨wd_674, wd_63, by decide +kernel⟩
def D_X6_setDayCount : Md := (yX6_setDayCount, cX6_setDayCount, 2, none, { frames := 1, cells := 0, slots := 0, locals := 40 }, RX6)
theorem cd_X6_setDayCount : Cd D_X6_setDayCount 1 := ⟨wd_805, wd_63, by decide +kernel⟩
def D_X6_count : Md := (yX6_count, cX6_count, 1, (some .int), { frames := 0, cells := 0, slots := 0, locals := 0 }, RX6)
theorem cd_X6_count : Cd D_X6_count 0 := ⟨wd_357, wd_63, by decide +kernel⟩
def D_X6_hasPiece : Md := (yX6_hasPiece, cX6_hasPiece, 2, (some .boolean), { frames := 0, cells := 0, slots := 0, locals := 0 }, RX6)
theorem cd_X6_hasPiece : Cd D_X6_hasPiece 1 := ⟨wd_602, wd_63, by decide +kernel⟩
def D_X6_hasRoom : Md := (yX6_hasRoom, cX6_hasRoom, 1, (some .boolean), { frames := 0, cells := 0, slots := 0, locals := 0 }, RX6)
theorem cd_X6_hasRoom : Cd D_X6_hasRoom 0 := ⟨wd_437, wd_63, by decide +kernel⟩
def D_X6_dayOf : Md := (yX6_dayOf, cX6_dayOf, 2, (some .int), { frames := 1, cells := 0, slots := 0, locals := 21 }, RX6)
theorem cd_X6_dayOf : Cd D_X6_dayOf 1 := ⟨wd_598, wd_63, by decide +kernel⟩
def D_X6_setOf : Md := (yX6_setOf, cX6_setOf, 2, (some .int), { frames := 1, cells := 0, slots := 0, locals := 21 }, RX6)
theorem cd_X6_setOf : Cd D_X6_setOf 1 := ⟨wd_606, wd_63, by decide +kernel⟩
def D_X6_add : Md := (yX6_add, cX6_add, 3, none, { frames := 1, cells := 0, slots := 0, locals := 20 }, RX6)
theorem cd_X6_add : Cd D_X6_add 2 := ⟨wd_433, wd_63, by decide +kernel⟩
def D_X6_remove : Md := (yX6_remove, cX6_remove, 3, none, { frames := 1, cells := 0, slots := 0, locals := 21 }, RX6)
theorem cd_X6_remove : Cd D_X6_remove 1 := ⟨wd_784, wd_63, by decide +kernel⟩
def D_X6_putOn : Md := (yX6_putOn, cX6_putOn, 3, none, { frames := 1, cells := 0, slots := 0, locals := 21 }, RX6)
theorem cd_X6_putOn : Cd D_X6_putOn 2 := ⟨wd_792, wd_63, by decide +kernel⟩
def D_X6_hasPieceFrom : Md := (yX6_hasPieceFrom, cX6_hasPieceFrom, 3, (some .boolean), { frames := 0, cells := 0, slots := 0, locals := 0 }, RX6)
theorem cd_X6_hasPieceFrom : Cd D_X6_hasPieceFrom 1 := ⟨wd_800, wd_63, by decide +kernel⟩
def D_X6_countWith : Md := (yX6_countWith, cX6_countWith, 4, (some .int), { frames := 0, cells := 0, slots := 0, locals := 0 }, RX6)
theorem cd_X6_countWith : Cd D_X6_countWith 1 := ⟨wd_484, wd_63, by decide +kernel⟩
def D_X6_countWithOn : Md := (yX6_countWithOn, cX6_countWithOn, 5, (some .int), { frames := 0, cells := 0, slots := 0, locals := 0 }, RX6)
theorem cd_X6_countWithOn : Cd D_X6_countWithOn 2 := ⟨wd_474, wd_63, by decide +kernel⟩
def D_X6_become : Md := (yX6_become, cX6_become, 2, none, { frames := 1, cells := 0, slots := 0, locals := 40 }, RX6)
theorem cd_X6_become : Cd D_X6_become 1 := ⟨wd_414, wd_63, by decide +kernel⟩
def D_X7_init : Md := (yX7_init, cX7_init, 1, none, { frames := 1, cells := 6, slots := 340, locals := 40 }, RX7)
theorem cd_X7_init : Cd D_X7_init 0 := ⟨wd_190, wd_68, by decide +kernel⟩
def D_X7_number : Md := (yX7_number, cX7_number, 1, (some .int), { frames := 0, cells := 0, slots := 0, locals := 0 }, RX7)
theorem cd_X7_number : Cd D_X7_number 0 := ⟨wd_658, wd_68, by decide +kernel⟩
def D_X7_has : Md := (yX7_has, cX7_has, 2, (some .boolean), { frames := 0, cells := 0, slots := 0, locals := 0 }, RX7)
theorem cd_X7_has : Cd D_X7_has 1 := ⟨wd_653, wd_68, by decide +kernel⟩
def D_X7_isFact : Md := (yX7_isFact, cX7_isFact, 1, (some .boolean), { frames := 0, cells := 0, slots := 0, locals := 0 }, RX7)
theorem cd_X7_isFact : Cd D_X7_isFact 1 := ⟨wd_756, wd_68, by decide +kernel⟩
def D_X7_fact : Md := (yX7_fact, cX7_fact, 3, (some .int), { frames := 1, cells := 0, slots := 0, locals := 21 }, RX7)
theorem cd_X7_fact : Cd D_X7_fact 2 := ⟨wd_760, wd_68, by decide +kernel⟩
def D_X7_findAll : Md := (yX7_findAll, cX7_findAll, 4, none, { frames := 4, cells := 0, slots := 0, locals := 92 }, RX7)
theorem cd_X7_findAll : Cd D_X7_findAll 2 := ⟨wd_585, wd_68, by decide +kernel⟩
def D_X7_tieBy : Md := (yX7_tieBy, cX7_tieBy, 7, none, { frames := 2, cells := 0, slots := 0, locals := 66 }, RX7)
theorem cd_X7_tieBy : Cd D_X7_tieBy 3 := ⟨wd_610, wd_68, by decide +kernel⟩
def D_X7_joined : Md := (yX7_joined, cX7_joined, 7, (some .int), { frames := 1, cells := 0, slots := 0, locals := 40 }, RX7)
theorem cd_X7_joined : Cd D_X7_joined 3 := ⟨wd_620, wd_68, by decide +kernel⟩
def D_X7_numberHeaps : Md := (yX7_numberHeaps, cX7_numberHeaps, 4, none, { frames := 3, cells := 0, slots := 0, locals := 66 }, RX7)
theorem cd_X7_numberHeaps : Cd D_X7_numberHeaps 1 := ⟨wd_630, wd_68, by decide +kernel⟩
def D_X7_begun : Md := (yX7_begun, cX7_begun, 3, (some .int), { frames := 2, cells := 0, slots := 0, locals := 43 }, RX7)
theorem cd_X7_begun : Cd D_X7_begun 2 := ⟨wd_634, wd_68, by decide +kernel⟩
def D_X7_grow : Md := (yX7_grow, cX7_grow, 4, none, { frames := 2, cells := 0, slots := 0, locals := 43 }, RX7)
theorem cd_X7_grow : Cd D_X7_grow 3 := ⟨wd_649, wd_68, by decide +kernel⟩
def D_X8_init : Md := (yX8_init, cX8_init, 1, none, { frames := 1, cells := 19, slots := 220, locals := 40 }, RX8)
theorem cd_X8_init : Cd D_X8_init 0 := ⟨wd_126, wd_65, by decide +kernel⟩
def D_X8_countAll : Md := (yX8_countAll, cX8_countAll, 3, none, { frames := 2, cells := 0, slots := 0, locals := 49 }, RX8)
theorem cd_X8_countAll : Cd D_X8_countAll 1 := ⟨wd_453, wd_65, by decide +kernel⟩
def D_X8_countWord : Md := (yX8_countWord, cX8_countWord, 6, none, { frames := 1, cells := 0, slots := 0, locals := 24 }, RX8)
theorem cd_X8_countWord : Cd D_X8_countWord 2 := ⟨wd_478, wd_65, by decide +kernel⟩
def D_X8_isDay : Md := (yX8_isDay, cX8_isDay, 1, (some .boolean), { frames := 0, cells := 0, slots := 0, locals := 0 }, RX8)
theorem cd_X8_isDay : Cd D_X8_isDay 1 := ⟨wd_511, wd_65, by decide +kernel⟩
def D_X8_dayCount : Md := (yX8_dayCount, cX8_dayCount, 1, (some .int), { frames := 0, cells := 0, slots := 0, locals := 0 }, RX8)
theorem cd_X8_dayCount : Cd D_X8_dayCount 0 := ⟨wd_496, wd_65, by decide +kernel⟩
def D_X8_highest : Md := (yX8_highest, cX8_highest, 1, (some .int), { frames := 0, cells := 0, slots := 0, locals := 0 }, RX8)
theorem cd_X8_highest : Cd D_X8_highest 0 := ⟨wd_500, wd_65, by decide +kernel⟩
def D_X8_all : Md := (yX8_all, cX8_all, 2, (some .int), { frames := 1, cells := 0, slots := 0, locals := 20 }, RX8)
theorem cd_X8_all : Cd D_X8_all 1 := ⟨wd_696, wd_65, by decide +kernel⟩
def D_X8_count : Md := (yX8_count, cX8_count, 3, (some .int), { frames := 1, cells := 0, slots := 0, locals := 20 }, RX8)
theorem cd_X8_count : Cd D_X8_count 2 := ⟨wd_523, wd_65, by decide +kernel⟩
def D_X8_wanted : Md := (yX8_wanted, cX8_wanted, 4, (some .int), { frames := 1, cells := 0, slots := 0, locals := 20 }, RX8)
theorem cd_X8_wanted : Cd D_X8_wanted 3 := ⟨wd_529, wd_65, by decide +kernel⟩
def D_X8_unlikely : Md := (yX8_unlikely, cX8_unlikely, 4, (some .int), { frames := 2, cells := 0, slots := 0, locals := 43 }, RX8)
theorem cd_X8_unlikely : Cd D_X8_unlikely 3 := ⟨wd_519, wd_65, by decide +kernel⟩
def D_X8_costOfRise : Md := (yX8_costOfRise, cX8_costOfRise, 3, (some .int), { frames := 0, cells := 0, slots := 0, locals := 0 }, RX8)
theorem cd_X8_costOfRise : Cd D_X8_costOfRise 2 := ⟨wd_515, wd_65, by decide +kernel⟩
def D_X8_costOfSteady : Md := (yX8_costOfSteady, cX8_costOfSteady, 5, (some .int), { frames := 3, cells := 0, slots := 0, locals := 66 }, RX8)
theorem cd_X8_costOfSteady : Cd D_X8_costOfSteady 2 := ⟨wd_739, wd_65, by decide +kernel⟩
def D_X9_init : Md := (yX9_init, cX9_init, 1, none, { frames := 1, cells := 3, slots := 100, locals := 40 }, RX9)
theorem cd_X9_init : Cd D_X9_init 0 := ⟨wd_224, wd_69, by decide +kernel⟩
def D_X9_hasRoom : Md := (yX9_hasRoom, cX9_hasRoom, 1, (some .boolean), { frames := 0, cells := 0, slots := 0, locals := 0 }, RX9)
theorem cd_X9_hasRoom : Cd D_X9_hasRoom 0 := ⟨wd_335, wd_69, by decide +kernel⟩
def D_X9_length : Md := (yX9_length, cX9_length, 1, (some .int), { frames := 0, cells := 0, slots := 0, locals := 0 }, RX9)
theorem cd_X9_length : Cd D_X9_length 0 := ⟨wd_345, wd_69, by decide +kernel⟩
def D_X9_add : Md := (yX9_add, cX9_add, 2, none, { frames := 1, cells := 0, slots := 0, locals := 20 }, RX9)
theorem cd_X9_add : Cd D_X9_add 1 := ⟨wd_340, wd_69, by decide +kernel⟩
def D_X9_clear : Md := (yX9_clear, cX9_clear, 1, none, { frames := 0, cells := 0, slots := 0, locals := 0 }, RX9)
theorem cd_X9_clear : Cd D_X9_clear 0 := ⟨wd_398, wd_69, by decide +kernel⟩
def D_X9_place : Md := (yX9_place, cX9_place, 1, (some .int), { frames := 0, cells := 0, slots := 0, locals := 0 }, RX9)
theorem cd_X9_place : Cd D_X9_place 0 := ⟨wd_394, wd_69, by decide +kernel⟩
def D_X9_readCount : Md := (yX9_readCount, cX9_readCount, 1, (some .int), { frames := 0, cells := 0, slots := 0, locals := 0 }, RX9)
theorem cd_X9_readCount : Cd D_X9_readCount 0 := ⟨wd_421, wd_69, by decide +kernel⟩
def D_X9_dayRead : Md := (yX9_dayRead, cX9_dayRead, 2, (some .int), { frames := 0, cells := 0, slots := 0, locals := 0 }, RX9)
theorem cd_X9_dayRead : Cd D_X9_dayRead 1 := ⟨wd_425, wd_69, by decide +kernel⟩
def D_X9_setRead : Md := (yX9_setRead, cX9_setRead, 2, (some .int), { frames := 0, cells := 0, slots := 0, locals := 0 }, RX9)
theorem cd_X9_setRead : Cd D_X9_setRead 1 := ⟨wd_429, wd_69, by decide +kernel⟩
def D_X9_read : Md := (yX9_read, cX9_read, 5, (some .int), { frames := 3, cells := 0, slots := 0, locals := 68 }, RX9)
theorem cd_X9_read : Cd D_X9_read 2 := ⟨wd_361, wd_69, by decide +kernel⟩
def D_X9_readPiece : Md := (yX9_readPiece, cX9_readPiece, 6, (some .int), { frames := 2, cells := 0, slots := 0, locals := 43 }, RX9)
theorem cd_X9_readPiece : Cd D_X9_readPiece 2 := ⟨wd_365, wd_69, by decide +kernel⟩
def D_X9_hasTwoFigures : Md := (yX9_hasTwoFigures, cX9_hasTwoFigures, 2, (some .boolean), { frames := 1, cells := 0, slots := 0, locals := 21 }, RX9)
theorem cd_X9_hasTwoFigures : Cd D_X9_hasTwoFigures 0 := ⟨wd_376, wd_69, by decide +kernel⟩
def D_X9_readWords : Md := (yX9_readWords, cX9_readWords, 2, (some .int), { frames := 1, cells := 0, slots := 0, locals := 21 }, RX9)
theorem cd_X9_readWords : Cd D_X9_readWords 0 := ⟨wd_384, wd_69, by decide +kernel⟩
def D_X9_passes : Md := (yX9_passes, cX9_passes, 3, (some .boolean), { frames := 1, cells := 0, slots := 0, locals := 21 }, RX9)
theorem cd_X9_passes : Cd D_X9_passes 1 := ⟨wd_380, wd_69, by decide +kernel⟩
def D_X9_letterAt : Md := (yX9_letterAt, cX9_letterAt, 2, (some .int), { frames := 0, cells := 0, slots := 0, locals := 0 }, RX9)
theorem cd_X9_letterAt : Cd D_X9_letterAt 1 := ⟨wd_369, wd_69, by decide +kernel⟩
def D_X9_isFigure : Md := (yX9_isFigure, cX9_isFigure, 1, (some .boolean), { frames := 0, cells := 0, slots := 0, locals := 0 }, RX9)
theorem cd_X9_isFigure : Cd D_X9_isFigure 1 := ⟨wd_372, wd_69, by decide +kernel⟩
theorem fl_X10_10 : Fl RX10 10 10 0 true := ⟨RX10, TX10, 9, cl_10, by decide, wd_299, rfl, rfl⟩
theorem fl_X10_19 : Fl RX10 19 10 1 true := ⟨RX10, TX10, 9, cl_10, by decide, wd_300, rfl, rfl⟩
theorem fl_X10_26 : Fl RX10 26 10 2 true := ⟨RX10, TX10, 9, cl_10, by decide, wd_301, rfl, rfl⟩
theorem fl_X10_33 : Fl RX10 33 10 3 true := ⟨RX10, TX10, 9, cl_10, by decide, wd_302, rfl, rfl⟩
theorem fl_X10_40 : Fl RX10 40 10 4 true := ⟨RX10, TX10, 9, cl_10, by decide, wd_303, rfl, rfl⟩
theorem fl_X10_46 : Fl RX10 46 10 5 true := ⟨RX10, TX10, 9, cl_10, by decide, wd_304, rfl, rfl⟩
theorem fl_X10_50 : Fl RX10 50 10 6 false := ⟨RX10, TX10, 9, cl_10, by decide, wd_305, rfl, rfl⟩
theorem fl_X10_54 : Fl RX10 54 10 7 false := ⟨RX10, TX10, 9, cl_10, by decide, wd_306, rfl, rfl⟩
theorem fl_X10_57 : Fl RX10 57 10 8 false := ⟨RX10, TX10, 9, cl_10, by decide, wd_307, rfl, rfl⟩
theorem fl_X10_112 : Fl RX10 112 2 2 true := ⟨RX2, TX2, 4, cl_2, by decide, wd_208, rfl, rfl⟩
theorem fl_X10_121 : Fl RX10 121 2 3 true := ⟨RX2, TX2, 4, cl_2, by decide, wd_210, rfl, rfl⟩
theorem fl_X10_143 : Fl RX10 143 2 1 true := ⟨RX2, TX2, 4, cl_2, by decide, wd_206, rfl, rfl⟩
theorem fl_X10_165 : Fl RX10 165 2 0 true := ⟨RX2, TX2, 4, cl_2, by decide, wd_204, rfl, rfl⟩
theorem fl_X0_11 : Fl RX0 11 0 0 true := ⟨RX0, TX0, 4, cl_0, by decide, wd_267, rfl, rfl⟩
theorem fl_X0_15 : Fl RX0 15 0 1 true := ⟨RX0, TX0, 4, cl_0, by decide, wd_268, rfl, rfl⟩
theorem fl_X0_18 : Fl RX0 18 0 2 true := ⟨RX0, TX0, 4, cl_0, by decide, wd_269, rfl, rfl⟩
theorem fl_X0_21 : Fl RX0 21 0 3 false := ⟨RX0, TX0, 4, cl_0, by decide, wd_270, rfl, rfl⟩
theorem fl_X1_11 : Fl RX1 11 1 0 true := ⟨RX1, TX1, 2, cl_1, by decide, wd_254, rfl, rfl⟩
theorem fl_X1_17 : Fl RX1 17 1 1 false := ⟨RX1, TX1, 2, cl_1, by decide, wd_255, rfl, rfl⟩
theorem fl_X2_12 : Fl RX2 12 2 0 true := ⟨RX2, TX2, 4, cl_2, by decide, wd_203, rfl, rfl⟩
theorem fl_X2_21 : Fl RX2 21 2 1 true := ⟨RX2, TX2, 4, cl_2, by decide, wd_205, rfl, rfl⟩
theorem fl_X2_28 : Fl RX2 28 2 2 true := ⟨RX2, TX2, 4, cl_2, by decide, wd_207, rfl, rfl⟩
theorem fl_X2_35 : Fl RX2 35 2 3 true := ⟨RX2, TX2, 4, cl_2, by decide, wd_209, rfl, rfl⟩
theorem fl_X3_13 : Fl RX3 13 3 0 true := ⟨RX3, TX3, 2, cl_3, by decide, wd_179, rfl, rfl⟩
theorem fl_X3_16 : Fl RX3 16 3 1 false := ⟨RX3, TX3, 2, cl_3, by decide, wd_180, rfl, rfl⟩
theorem fl_X4_10 : Fl RX4 10 4 0 true := ⟨RX4, TX4, 3, cl_4, by decide, wd_289, rfl, rfl⟩
theorem fl_X4_16 : Fl RX4 16 4 1 false := ⟨RX4, TX4, 3, cl_4, by decide, wd_290, rfl, rfl⟩
theorem fl_X4_20 : Fl RX4 20 4 2 false := ⟨RX4, TX4, 3, cl_4, by decide, wd_291, rfl, rfl⟩
theorem fl_X5_11 : Fl RX5 11 5 0 true := ⟨RX5, TX5, 3, cl_5, by decide, wd_162, rfl, rfl⟩
theorem fl_X5_16 : Fl RX5 16 5 1 true := ⟨RX5, TX5, 3, cl_5, by decide, wd_163, rfl, rfl⟩
theorem fl_X5_20 : Fl RX5 20 5 2 true := ⟨RX5, TX5, 3, cl_5, by decide, wd_164, rfl, rfl⟩
theorem fl_X6_20 : Fl RX6 20 6 0 true := ⟨RX6, TX6, 5, cl_6, by decide, wd_99, rfl, rfl⟩
theorem fl_X6_23 : Fl RX6 23 6 1 true := ⟨RX6, TX6, 5, cl_6, by decide, wd_100, rfl, rfl⟩
theorem fl_X6_26 : Fl RX6 26 6 2 true := ⟨RX6, TX6, 5, cl_6, by decide, wd_101, rfl, rfl⟩
theorem fl_X6_29 : Fl RX6 29 6 3 false := ⟨RX6, TX6, 5, cl_6, by decide, wd_102, rfl, rfl⟩
theorem fl_X6_33 : Fl RX6 33 6 4 false := ⟨RX6, TX6, 5, cl_6, by decide, wd_103, rfl, rfl⟩
theorem fl_X7_11 : Fl RX7 11 7 0 true := ⟨RX7, TX7, 3, cl_7, by decide, wd_193, rfl, rfl⟩
theorem fl_X7_19 : Fl RX7 19 7 1 true := ⟨RX7, TX7, 3, cl_7, by decide, wd_194, rfl, rfl⟩
theorem fl_X7_22 : Fl RX7 22 7 2 false := ⟨RX7, TX7, 3, cl_7, by decide, wd_195, rfl, rfl⟩
theorem fl_X8_9 : Fl RX8 9 8 0 true := ⟨RX8, TX8, 8, cl_8, by decide, wd_130, rfl, rfl⟩
theorem fl_X8_17 : Fl RX8 17 8 1 true := ⟨RX8, TX8, 8, cl_8, by decide, wd_131, rfl, rfl⟩
theorem fl_X8_20 : Fl RX8 20 8 2 true := ⟨RX8, TX8, 8, cl_8, by decide, wd_132, rfl, rfl⟩
theorem fl_X8_23 : Fl RX8 23 8 3 false := ⟨RX8, TX8, 8, cl_8, by decide, wd_133, rfl, rfl⟩
theorem fl_X8_27 : Fl RX8 27 8 4 false := ⟨RX8, TX8, 8, cl_8, by decide, wd_134, rfl, rfl⟩
theorem fl_X8_30 : Fl RX8 30 8 5 false := ⟨RX8, TX8, 8, cl_8, by decide, wd_135, rfl, rfl⟩
theorem fl_X8_33 : Fl RX8 33 8 6 false := ⟨RX8, TX8, 8, cl_8, by decide, wd_136, rfl, rfl⟩
theorem fl_X8_36 : Fl RX8 36 8 7 false := ⟨RX8, TX8, 8, cl_8, by decide, wd_137, rfl, rfl⟩
theorem fl_X9_11 : Fl RX9 11 9 0 true := ⟨RX9, TX9, 6, cl_9, by decide, wd_226, rfl, rfl⟩
theorem fl_X9_15 : Fl RX9 15 9 1 true := ⟨RX9, TX9, 6, cl_9, by decide, wd_227, rfl, rfl⟩
theorem fl_X9_18 : Fl RX9 18 9 2 true := ⟨RX9, TX9, 6, cl_9, by decide, wd_228, rfl, rfl⟩
theorem fl_X9_21 : Fl RX9 21 9 3 false := ⟨RX9, TX9, 6, cl_9, by decide, wd_229, rfl, rfl⟩
theorem fl_X9_25 : Fl RX9 25 9 4 false := ⟨RX9, TX9, 6, cl_9, by decide, wd_230, rfl, rfl⟩
theorem fl_X9_28 : Fl RX9 28 9 5 false := ⟨RX9, TX9, 6, cl_9, by decide, wd_231, rfl, rfl⟩
theorem fl_X11_7 : Fl RX11 7 11 0 true := ⟨RX11, TX11, 24, cl_11, by decide, wd_917, rfl, rfl⟩
theorem fl_X11_13 : Fl RX11 13 11 4 true := ⟨RX11, TX11, 24, cl_11, by decide, wd_921, rfl, rfl⟩
theorem fl_X11_16 : Fl RX11 16 11 5 true := ⟨RX11, TX11, 24, cl_11, by decide, wd_922, rfl, rfl⟩
theorem fl_X11_19 : Fl RX11 19 11 7 false := ⟨RX11, TX11, 24, cl_11, by decide, wd_924, rfl, rfl⟩
theorem fl_X11_23 : Fl RX11 23 11 8 true := ⟨RX11, TX11, 24, cl_11, by decide, wd_925, rfl, rfl⟩
theorem fl_X11_26 : Fl RX11 26 11 9 true := ⟨RX11, TX11, 24, cl_11, by decide, wd_926, rfl, rfl⟩
theorem fl_X11_29 : Fl RX11 29 11 10 true := ⟨RX11, TX11, 24, cl_11, by decide, wd_927, rfl, rfl⟩
theorem fl_X11_32 : Fl RX11 32 11 12 true := ⟨RX11, TX11, 24, cl_11, by decide, wd_929, rfl, rfl⟩
theorem fl_X11_35 : Fl RX11 35 11 13 true := ⟨RX11, TX11, 24, cl_11, by decide, wd_930, rfl, rfl⟩
theorem fl_X11_38 : Fl RX11 38 11 14 true := ⟨RX11, TX11, 24, cl_11, by decide, wd_931, rfl, rfl⟩
theorem fl_X11_41 : Fl RX11 41 11 15 true := ⟨RX11, TX11, 24, cl_11, by decide, wd_932, rfl, rfl⟩
theorem fl_X11_44 : Fl RX11 44 11 16 true := ⟨RX11, TX11, 24, cl_11, by decide, wd_933, rfl, rfl⟩
theorem fl_X11_47 : Fl RX11 47 11 17 true := ⟨RX11, TX11, 24, cl_11, by decide, wd_934, rfl, rfl⟩
theorem fl_X11_50 : Fl RX11 50 11 18 true := ⟨RX11, TX11, 24, cl_11, by decide, wd_935, rfl, rfl⟩
theorem fl_X11_53 : Fl RX11 53 11 21 true := ⟨RX11, TX11, 24, cl_11, by decide, wd_938, rfl, rfl⟩
theorem fl_X11_56 : Fl RX11 56 11 22 true := ⟨RX11, TX11, 24, cl_11, by decide, wd_939, rfl, rfl⟩
theorem fl_X11_63 : Fl RX11 63 11 1 false := ⟨RX11, TX11, 24, cl_11, by decide, wd_918, rfl, rfl⟩
theorem fl_X11_88 : Fl RX11 88 11 19 false := ⟨RX11, TX11, 24, cl_11, by decide, wd_936, rfl, rfl⟩
theorem fl_X11_119 : Fl RX11 119 11 6 false := ⟨RX11, TX11, 24, cl_11, by decide, wd_923, rfl, rfl⟩
theorem fl_X11_122 : Fl RX11 122 11 20 false := ⟨RX11, TX11, 24, cl_11, by decide, wd_937, rfl, rfl⟩
theorem fl_X11_132 : Fl RX11 132 11 23 false := ⟨RX11, TX11, 24, cl_11, by decide, wd_940, rfl, rfl⟩
theorem fl_X11_161 : Fl RX11 161 11 11 false := ⟨RX11, TX11, 24, cl_11, by decide, wd_928, rfl, rfl⟩
theorem fl_X11_173 : Fl RX11 173 11 3 false := ⟨RX11, TX11, 24, cl_11, by decide, wd_920, rfl, rfl⟩
theorem fl_X11_231 : Fl RX11 231 11 2 false := ⟨RX11, TX11, 24, cl_11, by decide, wd_919, rfl, rfl⟩
theorem cv_X10_9 : CIN RX10 D_X6_init 9 0 "FlaringWords" := ⟨cd_X6_init, List.mem_of_getElem? (i := 86) (by decide +kernel), wd_87, rfl, rfl⟩
theorem cv_X10_18 : CIN RX10 D_X2_init 18 0 "FlaringWords" := ⟨cd_X2_init, List.mem_of_getElem? (i := 118) (by decide +kernel), wd_119, rfl, rfl⟩
theorem cv_X10_25 : CIN RX10 D_X9_init 25 0 "FlaringWords" := ⟨cd_X9_init, List.mem_of_getElem? (i := 222) (by decide +kernel), wd_223, rfl, rfl⟩
theorem cv_X10_32 : CI RX10 D_X1_init 32 0 := ⟨cd_X1_init, wd_247, wd_248, rfl, rfl⟩
theorem cv_X10_39 : CIN RX10 D_X0_init 39 0 "FlaringWords" := ⟨cd_X0_init, List.mem_of_getElem? (i := 263) (by decide +kernel), wd_264, rfl, rfl⟩
theorem cv_X10_61 : CIN RX10 D_X4_init 61 0 "FlaringWords" := ⟨cd_X4_init, List.mem_of_getElem? (i := 283) (by decide +kernel), wd_284, rfl, rfl⟩
theorem cv_X10_180 : CS RX10 D_X10_isWord 180 1 := ⟨cd_X10_isWord, wd_716, wd_386⟩
theorem cv_X10_206 : CS RX10 D_X3_isFact 206 1 := ⟨cd_X3_isFact, wd_747, wd_640⟩
theorem cv_X10_213 : CS RX10 D_X7_isFact 213 1 := ⟨cd_X7_isFact, wd_754, wd_755⟩
theorem cv_X10_215 : CS RX10 D_X10_setOfWord 215 1 := ⟨cd_X10_setOfWord, wd_766, wd_389⟩
theorem cv_X10_238 : CS RX10 D_X6_isTerm 238 1 := ⟨cd_X6_isTerm, wd_812, wd_813⟩
theorem cv_X10_241 : CS RX10 D_X6_isInBounds 241 2 := ⟨cd_X6_isInBounds, wd_815, wd_816⟩
theorem cv_X10_63 : CV RX10 D_X9_hasRoom 63 9 0 := ⟨cd_X9_hasRoom, wd_332, wd_333, wd_334, RX9, TX9, 6, cl_9, rfl⟩
theorem cv_X10_68 : CV RX10 D_X9_add 68 9 1 := ⟨cd_X9_add, wd_337, wd_338, wd_339, RX9, TX9, 6, cl_9, rfl⟩
theorem cv_X10_72 : CV RX10 D_X9_length 72 9 0 := ⟨cd_X9_length, wd_342, wd_343, wd_344, RX9, TX9, 6, cl_9, rfl⟩
theorem cv_X10_76 : CV RX10 D_X6_dayCount 76 6 0 := ⟨cd_X6_dayCount, wd_350, wd_351, wd_352, RX6, TX6, 5, cl_6, rfl⟩
theorem cv_X10_79 : CV RX10 D_X6_count 79 6 0 := ⟨cd_X6_count, wd_354, wd_355, wd_356, RX6, TX6, 5, cl_6, rfl⟩
theorem cv_X10_82 : CV RX10 D_X9_read 82 9 2 := ⟨cd_X9_read, wd_358, wd_359, wd_360, RX9, TX9, 6, cl_9, rfl⟩
theorem cv_X10_86 : CV RX10 D_X9_place 86 9 0 := ⟨cd_X9_place, wd_391, wd_392, wd_393, RX9, TX9, 6, cl_9, rfl⟩
theorem cv_X10_89 : CV RX10 D_X9_clear 89 9 0 := ⟨cd_X9_clear, wd_395, wd_396, wd_397, RX9, TX9, 6, cl_9, rfl⟩
theorem cv_X10_92 : CV RX10 D_X10_aheadOfDeed 92 10 0 := ⟨cd_X10_aheadOfDeed, wd_399, wd_401, wd_5, RX10, TX10, 9, cl_10, rfl⟩
theorem cv_X10_95 : CV RX10 D_X9_readCount 95 9 0 := ⟨cd_X9_readCount, wd_418, wd_419, wd_420, RX9, TX9, 6, cl_9, rfl⟩
theorem cv_X10_98 : CV RX10 D_X9_dayRead 98 9 1 := ⟨cd_X9_dayRead, wd_422, wd_423, wd_424, RX9, TX9, 6, cl_9, rfl⟩
theorem cv_X10_102 : CV RX10 D_X9_setRead 102 9 1 := ⟨cd_X9_setRead, wd_426, wd_427, wd_428, RX9, TX9, 6, cl_9, rfl⟩
theorem cv_X10_105 : CV RX10 D_X6_add 105 6 2 := ⟨cd_X6_add, wd_430, wd_431, wd_432, RX6, TX6, 5, cl_6, rfl⟩
theorem cv_X10_108 : CV RX10 D_X10_found 108 10 0 := ⟨cd_X10_found, wd_446, wd_448, wd_7, RX10, TX10, 9, cl_10, rfl⟩
theorem cv_X10_116 : CV RX10 D_X3_number 116 3 0 := ⟨cd_X3_number, wd_654, wd_587, wd_588, RX3, TX3, 2, cl_3, rfl⟩
theorem cv_X10_125 : CV RX10 D_X7_number 125 7 0 := ⟨cd_X7_number, wd_655, wd_656, wd_657, RX7, TX7, 3, cl_7, rfl⟩
theorem cv_X10_128 : CV RX10 D_X6_levels 128 6 0 := ⟨cd_X6_levels, wd_659, wd_456, wd_457, RX6, TX6, 5, cl_6, rfl⟩
theorem cv_X10_131 : CV RX10 D_X6_base 131 6 0 := ⟨cd_X6_base, wd_660, wd_460, wd_461, RX6, TX6, 5, cl_6, rfl⟩
theorem cv_X10_134 : CV RX10 D_X6_step 134 6 0 := ⟨cd_X6_step, wd_661, wd_464, wd_465, RX6, TX6, 5, cl_6, rfl⟩
theorem cv_X10_137 : CV RX10 D_X6_rise 137 6 0 := ⟨cd_X6_rise, wd_662, wd_468, wd_469, RX6, TX6, 5, cl_6, rfl⟩
theorem cv_X10_140 : CV RX10 D_X0_entries 140 0 0 := ⟨cd_X0_entries, wd_663, wd_664, wd_665, RX0, TX0, 4, cl_0, rfl⟩
theorem cv_X10_146 : CV RX10 D_X0_firstWrong 146 0 2 := ⟨cd_X0_firstWrong, wd_667, wd_668, wd_669, RX0, TX0, 4, cl_0, rfl⟩
theorem cv_X10_150 : CV RX10 D_X1_number 150 1 0 := ⟨cd_X1_number, wd_676, wd_677, wd_678, RX1, TX1, 2, cl_1, rfl⟩
theorem cv_X10_151 : CV RX10 D_X6_hasPiece 151 6 1 := ⟨cd_X6_hasPiece, wd_684, wd_600, wd_601, RX6, TX6, 5, cl_6, rfl⟩
theorem cv_X10_156 : CV RX10 D_X6_dayOf 156 6 1 := ⟨cd_X6_dayOf, wd_686, wd_596, wd_597, RX6, TX6, 5, cl_6, rfl⟩
theorem cv_X10_159 : CV RX10 D_X6_setOf 159 6 1 := ⟨cd_X6_setOf, wd_687, wd_604, wd_605, RX6, TX6, 5, cl_6, rfl⟩
theorem cv_X10_162 : CV RX10 D_X6_hasDay 162 6 1 := ⟨cd_X6_hasDay, wd_692, wd_672, wd_673, RX6, TX6, 5, cl_6, rfl⟩
theorem cv_X10_169 : CV RX10 D_X8_all 169 8 1 := ⟨cd_X8_all, wd_693, wd_694, wd_695, RX8, TX8, 8, cl_8, rfl⟩
theorem cv_X10_174 : CV RX10 D_X2_hot 174 2 1 := ⟨cd_X2_hot, wd_697, wd_698, wd_699, RX2, TX2, 4, cl_2, rfl⟩
theorem cv_X10_177 : CV RX10 D_X2_top 177 2 1 := ⟨cd_X2_top, wd_703, wd_704, wd_705, RX2, TX2, 4, cl_2, rfl⟩
theorem cv_X10_183 : CV RX10 D_X8_count 183 8 2 := ⟨cd_X8_count, wd_717, wd_521, wd_522, RX8, TX8, 8, cl_8, rfl⟩
theorem cv_X10_185 : CV RX10 D_X5_of 185 5 2 := ⟨cd_X5_of, wd_718, wd_548, wd_549, RX5, TX5, 3, cl_5, rfl⟩
theorem cv_X10_190 : CV RX10 D_X6_hasLevel 190 6 1 := ⟨cd_X6_hasLevel, wd_719, wd_720, wd_721, RX6, TX6, 5, cl_6, rfl⟩
theorem cv_X10_193 : CV RX10 D_X8_wanted 193 8 3 := ⟨cd_X8_wanted, wd_723, wd_527, wd_528, RX8, TX8, 8, cl_8, rfl⟩
theorem cv_X10_197 : CV RX10 D_X5_costOf 197 5 1 := ⟨cd_X5_costOf, wd_728, wd_729, wd_730, RX5, TX5, 3, cl_5, rfl⟩
theorem cv_X10_200 : CV RX10 D_X8_costOfSteady 200 8 2 := ⟨cd_X8_costOfSteady, wd_736, wd_737, wd_738, RX8, TX8, 8, cl_8, rfl⟩
theorem cv_X10_203 : CV RX10 D_X3_has 203 3 1 := ⟨cd_X3_has, wd_746, wd_565, wd_566, RX3, TX3, 2, cl_3, rfl⟩
theorem cv_X10_209 : CV RX10 D_X3_fact 209 3 2 := ⟨cd_X3_fact, wd_748, wd_636, wd_637, RX3, TX3, 2, cl_3, rfl⟩
theorem cv_X10_212 : CV RX10 D_X7_has 212 7 1 := ⟨cd_X7_has, wd_753, wd_651, wd_652, RX7, TX7, 3, cl_7, rfl⟩
theorem cv_X10_214 : CV RX10 D_X7_fact 214 7 2 := ⟨cd_X7_fact, wd_757, wd_758, wd_759, RX7, TX7, 3, cl_7, rfl⟩
theorem cv_X10_218 : CV RX10 D_X6_countWith 218 6 1 := ⟨cd_X6_countWith, wd_767, wd_482, wd_483, RX6, TX6, 5, cl_6, rfl⟩
theorem cv_X10_221 : CV RX10 D_X6_hasRoom 221 6 0 := ⟨cd_X6_hasRoom, wd_772, wd_435, wd_436, RX6, TX6, 5, cl_6, rfl⟩
theorem cv_X10_222 : CV RX10 D_X10_comes 222 10 2 := ⟨cd_X10_comes, wd_773, wd_775, wd_25, RX10, TX10, 9, cl_10, rfl⟩
theorem cv_X10_225 : CV RX10 D_X6_remove 225 6 1 := ⟨cd_X6_remove, wd_781, wd_782, wd_783, RX6, TX6, 5, cl_6, rfl⟩
theorem cv_X10_228 : CV RX10 D_X6_putOn 228 6 2 := ⟨cd_X6_putOn, wd_789, wd_790, wd_791, RX6, TX6, 5, cl_6, rfl⟩
theorem cv_X10_231 : CV RX10 D_X6_hasPieceFrom 231 6 1 := ⟨cd_X6_hasPieceFrom, wd_797, wd_798, wd_799, RX6, TX6, 5, cl_6, rfl⟩
theorem cv_X10_235 : CV RX10 D_X6_setDayCount 235 6 1 := ⟨cd_X6_setDayCount, wd_802, wd_803, wd_804, RX6, TX6, 5, cl_6, rfl⟩
theorem cv_X10_245 : CV RX10 D_X6_termOf 245 6 1 := ⟨cd_X6_termOf, wd_823, wd_824, wd_825, RX6, TX6, 5, cl_6, rfl⟩
theorem cv_X10_248 : CV RX10 D_X6_setTerm 248 6 2 := ⟨cd_X6_setTerm, wd_827, wd_828, wd_829, RX6, TX6, 5, cl_6, rfl⟩
theorem cv_X10_251 : CV RX10 D_X10_draw 251 10 1 := ⟨cd_X10_draw, wd_836, wd_838, wd_26, RX10, TX10, 9, cl_10, rfl⟩
theorem cv_X10_254 : CV RX10 D_X1_takeBack 254 1 2 := ⟨cd_X1_takeBack, wd_848, wd_849, wd_850, RX1, TX1, 2, cl_1, rfl⟩
theorem cv_X10_258 : CV RX10 D_X0_hasRoom 258 0 0 := ⟨cd_X0_hasRoom, wd_856, wd_857, wd_858, RX0, TX0, 4, cl_0, rfl⟩
theorem cv_X10_259 : CV RX10 D_X0_add 259 0 3 := ⟨cd_X0_add, wd_860, wd_861, wd_862, RX0, TX0, 4, cl_0, rfl⟩
theorem cv_X10_262 : CV RX10 D_X0_clear 262 0 0 := ⟨cd_X0_clear, wd_869, wd_870, wd_871, RX0, TX0, 4, cl_0, rfl⟩
theorem cv_X10_263 : CV RX10 D_X10_imageOf 263 10 1 := ⟨cd_X10_imageOf, wd_881, wd_883, wd_27, RX10, TX10, 9, cl_10, rfl⟩
theorem cv_X10_267 : CV RX10 D_X4_hold 267 4 2 := ⟨cd_X4_hold, wd_885, wd_886, wd_887, RX4, TX4, 3, cl_4, rfl⟩
theorem cv_X10_271 : CV RX10 D_X1_forget 271 1 0 := ⟨cd_X1_forget, wd_890, wd_891, wd_892, RX1, TX1, 2, cl_1, rfl⟩
theorem cv_X10_274 : CV RX10 D_X4_isHeld 274 4 0 := ⟨cd_X4_isHeld, wd_898, wd_899, wd_900, RX4, TX4, 3, cl_4, rfl⟩
theorem cv_X10_277 : CV RX10 D_X4_heldNews 277 4 0 := ⟨cd_X4_heldNews, wd_902, wd_903, wd_904, RX4, TX4, 3, cl_4, rfl⟩
theorem cv_X10_281 : CV RX10 D_X6_become 281 6 1 := ⟨cd_X6_become, wd_906, wd_412, wd_413, RX6, TX6, 5, cl_6, rfl⟩
theorem cv_X10_285 : CV RX10 D_X4_heldSeed 285 4 0 := ⟨cd_X4_heldSeed, wd_907, wd_908, wd_909, RX4, TX4, 3, cl_4, rfl⟩
theorem cv_X10_288 : CV RX10 D_X1_remember 288 1 1 := ⟨cd_X1_remember, wd_403, wd_404, wd_405, RX1, TX1, 2, cl_1, rfl⟩
theorem cv_X10_298 : CV RX10 D_X8_countAll 298 8 1 := ⟨cd_X8_countAll, wd_450, wd_451, wd_452, RX8, TX8, 8, cl_8, rfl⟩
theorem cv_X10_301 : CV RX10 D_X5_findAll 301 5 1 := ⟨cd_X5_findAll, wd_485, wd_486, wd_487, RX5, TX5, 3, cl_5, rfl⟩
theorem cv_X10_305 : CV RX10 D_X3_findAll 305 3 2 := ⟨cd_X3_findAll, wd_537, wd_538, wd_539, RX3, TX3, 2, cl_3, rfl⟩
theorem cv_X10_308 : CV RX10 D_X7_findAll 308 7 2 := ⟨cd_X7_findAll, wd_582, wd_583, wd_584, RX7, TX7, 3, cl_7, rfl⟩
theorem cv_X0_25 : CV RX0 D_X0_hasRoom 25 0 0 := ⟨cd_X0_hasRoom, wd_864, wd_857, wd_858, RX0, TX0, 4, cl_0, rfl⟩
theorem cv_X0_29 : CV RX0 D_X6_hasDay 29 6 1 := ⟨cd_X6_hasDay, wd_671, wd_672, wd_673, RX6, TX6, 5, cl_6, rfl⟩
theorem cv_X0_35 : CV RX0 D_X5_of 35 5 2 := ⟨cd_X5_of, wd_675, wd_548, wd_549, RX5, TX5, 3, cl_5, rfl⟩
theorem cv_X1_21 : CIN RX1 D_X6_init 21 0 "FlaringWords" := ⟨cd_X6_init, List.mem_of_getElem? (i := 253) (by decide +kernel), wd_87, rfl, rfl⟩
theorem cv_X1_22 : CV RX1 D_X1_dropOldest 22 1 0 := ⟨cd_X1_dropOldest, wd_407, wd_409, wd_6, RX1, TX1, 2, cl_1, rfl⟩
theorem cv_X1_25 : CV RX1 D_X6_become 25 6 1 := ⟨cd_X6_become, wd_411, wd_412, wd_413, RX6, TX6, 5, cl_6, rfl⟩
theorem cv_X2_11 : CIN RX2 D_X8_init 11 0 "FlaringWords" := ⟨cd_X8_init, List.mem_of_getElem? (i := 124) (by decide +kernel), wd_125, rfl, rfl⟩
theorem cv_X2_20 : CIN RX2 D_X5_init 20 0 "FlaringWords" := ⟨cd_X5_init, List.mem_of_getElem? (i := 157) (by decide +kernel), wd_158, rfl, rfl⟩
theorem cv_X2_27 : CIN RX2 D_X3_init 27 0 "FlaringWords" := ⟨cd_X3_init, List.mem_of_getElem? (i := 174) (by decide +kernel), wd_175, rfl, rfl⟩
theorem cv_X2_34 : CIN RX2 D_X7_init 34 0 "FlaringWords" := ⟨cd_X7_init, List.mem_of_getElem? (i := 188) (by decide +kernel), wd_189, rfl, rfl⟩
theorem cv_X2_43 : CSN RX2 D_X10_setOfWord 43 1 "FlaringWords" := ⟨cd_X10_setOfWord, List.mem_of_getElem? (i := 702) (by decide +kernel), wd_389⟩
theorem cv_X2_39 : CV RX2 D_X5_of 39 5 2 := ⟨cd_X5_of, wd_701, wd_548, wd_549, RX5, TX5, 3, cl_5, rfl⟩
theorem cv_X2_47 : CV RX2 D_X2_isAbove 47 2 3 := ⟨cd_X2_isAbove, wd_707, wd_709, wd_24, RX2, TX2, 4, cl_2, rfl⟩
theorem cv_X2_51 : CV RX2 D_X8_count 51 8 2 := ⟨cd_X8_count, wd_711, wd_521, wd_522, RX8, TX8, 8, cl_8, rfl⟩
theorem cv_X3_24 : CSN RX3 D_X10_setOfWord 24 1 "FlaringWords" := ⟨cd_X10_setOfWord, List.mem_of_getElem? (i := 616) (by decide +kernel), wd_389⟩
theorem cv_X3_28 : CS RX3 D_X3_isFact 28 1 := ⟨cd_X3_isFact, wd_639, wd_640⟩
theorem cv_X3_20 : CV RX3 D_X3_has 20 3 1 := ⟨cd_X3_has, wd_564, wd_565, wd_566, RX3, TX3, 2, cl_3, rfl⟩
theorem cv_X3_31 : CV RX3 D_X8_highest 31 8 0 := ⟨cd_X8_highest, wd_541, wd_498, wd_499, RX8, TX8, 8, cl_8, rfl⟩
theorem cv_X3_37 : CV RX3 D_X8_dayCount 37 8 0 := ⟨cd_X8_dayCount, wd_542, wd_494, wd_495, RX8, TX8, 8, cl_8, rfl⟩
theorem cv_X3_40 : CV RX3 D_X3_findAt 40 3 4 := ⟨cd_X3_findAt, wd_543, wd_545, wd_13, RX3, TX3, 2, cl_3, rfl⟩
theorem cv_X3_44 : CV RX3 D_X3_around 44 3 1 := ⟨cd_X3_around, wd_556, wd_558, wd_15, RX3, TX3, 2, cl_3, rfl⟩
theorem cv_X3_47 : CV RX3 D_X3_weightOf 47 3 2 := ⟨cd_X3_weightOf, wd_568, wd_570, wd_16, RX3, TX3, 2, cl_3, rfl⟩
theorem cv_X3_51 : CV RX3 D_X3_peakOf 51 3 2 := ⟨cd_X3_peakOf, wd_573, wd_575, wd_17, RX3, TX3, 2, cl_3, rfl⟩
theorem cv_X3_54 : CV RX3 D_X3_fadeOf 54 3 2 := ⟨cd_X3_fadeOf, wd_578, wd_580, wd_18, RX3, TX3, 2, cl_3, rfl⟩
theorem cv_X3_57 : CV RX3 D_X5_of 57 5 2 := ⟨cd_X5_of, wd_547, wd_548, wd_549, RX5, TX5, 3, cl_5, rfl⟩
theorem cv_X3_63 : CV RX3 D_X3_add 63 3 4 := ⟨cd_X3_add, wd_552, wd_554, wd_14, RX3, TX3, 2, cl_3, rfl⟩
theorem cv_X3_67 : CV RX3 D_X3_hasDay 67 3 2 := ⟨cd_X3_hasDay, wd_560, wd_561, wd_562, RX3, TX3, 2, cl_3, rfl⟩
theorem cv_X3_71 : CV RX3 D_X8_unlikely 71 8 3 := ⟨cd_X8_unlikely, wd_572, wd_517, wd_518, RX8, TX8, 8, cl_8, rfl⟩
theorem cv_X3_75 : CV RX3 D_X8_count 75 8 2 := ⟨cd_X8_count, wd_577, wd_521, wd_522, RX8, TX8, 8, cl_8, rfl⟩
theorem cv_X4_9 : CIN RX4 D_X6_init 9 0 "FlaringWords" := ⟨cd_X6_init, List.mem_of_getElem? (i := 288) (by decide +kernel), wd_87, rfl, rfl⟩
theorem cv_X4_24 : CV RX4 D_X6_become 24 6 1 := ⟨cd_X6_become, wd_889, wd_412, wd_413, RX6, TX6, 5, cl_6, rfl⟩
theorem cv_X5_38 : CSN RX5 D_X10_isWord 38 1 "FlaringWords" := ⟨cd_X10_isWord, List.mem_of_getElem? (i := 551) (by decide +kernel), wd_386⟩
theorem cv_X5_42 : CS RX5 D_X8_isDay 42 1 := ⟨cd_X8_isDay, wd_509, wd_510⟩
theorem cv_X5_23 : CV RX5 D_X5_costRests 23 5 2 := ⟨cd_X5_costRests, wd_489, wd_491, wd_9, RX5, TX5, 3, cl_5, rfl⟩
theorem cv_X5_27 : CV RX5 D_X5_leastFrom 27 5 3 := ⟨cd_X5_leastFrom, wd_501, wd_503, wd_10, RX5, TX5, 3, cl_5, rfl⟩
theorem cv_X5_31 : CV RX5 D_X5_costFrom 31 5 4 := ⟨cd_X5_costFrom, wd_505, wd_507, wd_11, RX5, TX5, 3, cl_5, rfl⟩
theorem cv_X5_35 : CV RX5 D_X5_walk 35 5 2 := ⟨cd_X5_walk, wd_533, wd_535, wd_12, RX5, TX5, 3, cl_5, rfl⟩
theorem cv_X5_47 : CV RX5 D_X8_dayCount 47 8 0 := ⟨cd_X8_dayCount, wd_493, wd_494, wd_495, RX8, TX8, 8, cl_8, rfl⟩
theorem cv_X5_51 : CV RX5 D_X8_highest 51 8 0 := ⟨cd_X8_highest, wd_497, wd_498, wd_499, RX8, TX8, 8, cl_8, rfl⟩
theorem cv_X5_54 : CV RX5 D_X8_unlikely 54 8 3 := ⟨cd_X8_unlikely, wd_516, wd_517, wd_518, RX8, TX8, 8, cl_8, rfl⟩
theorem cv_X5_58 : CV RX5 D_X8_costOfRise 58 8 2 := ⟨cd_X8_costOfRise, wd_512, wd_513, wd_514, RX8, TX8, 8, cl_8, rfl⟩
theorem cv_X6_36 : CS RX6 D_X6_isTerm 36 1 := ⟨cd_X6_isTerm, wd_818, wd_813⟩
theorem cv_X6_46 : CS RX6 D_X6_isInBounds 46 2 := ⟨cd_X6_isInBounds, wd_831, wd_816⟩
theorem cv_X6_50 : Mt RX6 50 Lib.Math.min.name Lib.Math.min.code 2 := ⟨wd_806, wd_622, wd_75, wd_623⟩
theorem cv_X6_56 : Mt RX6 56 Lib.Math.max.name Lib.Math.max.code 2 := ⟨wd_807, wd_625, wd_75, wd_626⟩
theorem cv_X6_59 : CV RX6 D_X6_hasPiece 59 6 1 := ⟨cd_X6_hasPiece, wd_599, wd_600, wd_601, RX6, TX6, 5, cl_6, rfl⟩
theorem cv_X6_62 : CV RX6 D_X6_hasRoom 62 6 0 := ⟨cd_X6_hasRoom, wd_434, wd_435, wd_436, RX6, TX6, 5, cl_6, rfl⟩
theorem cv_X7_30 : CS RX7 D_X7_isFact 30 1 := ⟨cd_X7_isFact, wd_761, wd_755⟩
theorem cv_X7_68 : Mt RX7 68 Lib.Math.min.name Lib.Math.min.code 2 := ⟨wd_621, wd_622, wd_75, wd_623⟩
theorem cv_X7_74 : Mt RX7 74 Lib.Math.max.name Lib.Math.max.code 2 := ⟨wd_624, wd_625, wd_75, wd_626⟩
theorem cv_X7_26 : CV RX7 D_X7_has 26 7 1 := ⟨cd_X7_has, wd_650, wd_651, wd_652, RX7, TX7, 3, cl_7, rfl⟩
theorem cv_X7_33 : CV RX7 D_X3_number 33 3 0 := ⟨cd_X3_number, wd_586, wd_587, wd_588, RX3, TX3, 2, cl_3, rfl⟩
theorem cv_X7_36 : CV RX7 D_X3_isAtOne 36 3 1 := ⟨cd_X3_isAtOne, wd_590, wd_591, wd_592, RX3, TX3, 2, cl_3, rfl⟩
theorem cv_X7_39 : CV RX7 D_X6_count 39 6 0 := ⟨cd_X6_count, wd_594, wd_355, wd_356, RX6, TX6, 5, cl_6, rfl⟩
theorem cv_X7_44 : CV RX7 D_X6_dayOf 44 6 1 := ⟨cd_X6_dayOf, wd_595, wd_596, wd_597, RX6, TX6, 5, cl_6, rfl⟩
theorem cv_X7_48 : CV RX7 D_X6_setOf 48 6 1 := ⟨cd_X6_setOf, wd_603, wd_604, wd_605, RX6, TX6, 5, cl_6, rfl⟩
theorem cv_X7_51 : CV RX7 D_X7_tieBy 51 7 3 := ⟨cd_X7_tieBy, wd_607, wd_609, wd_19, RX7, TX7, 3, cl_7, rfl⟩
theorem cv_X7_55 : CV RX7 D_X7_numberHeaps 55 7 1 := ⟨cd_X7_numberHeaps, wd_627, wd_629, wd_21, RX7, TX7, 3, cl_7, rfl⟩
theorem cv_X7_59 : CV RX7 D_X3_hasDay 59 3 2 := ⟨cd_X3_hasDay, wd_611, wd_561, wd_562, RX3, TX3, 2, cl_3, rfl⟩
theorem cv_X7_63 : CV RX7 D_X3_setOf 63 3 1 := ⟨cd_X3_setOf, wd_612, wd_613, wd_614, RX3, TX3, 2, cl_3, rfl⟩
theorem cv_X7_64 : CV RX7 D_X7_joined 64 7 3 := ⟨cd_X7_joined, wd_617, wd_619, wd_20, RX7, TX7, 3, cl_7, rfl⟩
theorem cv_X7_77 : CV RX7 D_X7_begun 77 7 2 := ⟨cd_X7_begun, wd_631, wd_633, wd_22, RX7, TX7, 3, cl_7, rfl⟩
theorem cv_X7_81 : CV RX7 D_X3_fact 81 3 2 := ⟨cd_X3_fact, wd_635, wd_636, wd_637, RX3, TX3, 2, cl_3, rfl⟩
theorem cv_X7_84 : CV RX7 D_X3_putStory 84 3 2 := ⟨cd_X3_putStory, wd_642, wd_643, wd_644, RX3, TX3, 2, cl_3, rfl⟩
theorem cv_X7_88 : CV RX7 D_X7_grow 88 7 3 := ⟨cd_X7_grow, wd_646, wd_648, wd_23, RX7, TX7, 3, cl_7, rfl⟩
theorem cv_X8_64 : CSN RX8 D_X10_setOfWord 64 1 "FlaringWords" := ⟨cd_X10_setOfWord, List.mem_of_getElem? (i := 480) (by decide +kernel), wd_389⟩
theorem cv_X8_71 : CS RX8 D_X8_isDay 71 1 := ⟨cd_X8_isDay, wd_525, wd_510⟩
theorem cv_X8_75 : CSN RX8 D_X10_isWord 75 1 "FlaringWords" := ⟨cd_X10_isWord, List.mem_of_getElem? (i := 524) (by decide +kernel), wd_386⟩
theorem cv_X8_84 : Mt RX8 84 Lib.Math.abs.name Lib.Math.abs.code 1 := ⟨wd_530, wd_531, wd_75, wd_532⟩
theorem cv_X8_39 : CV RX8 D_X6_dayCount 39 6 0 := ⟨cd_X6_dayCount, wd_454, wd_351, wd_352, RX6, TX6, 5, cl_6, rfl⟩
theorem cv_X8_44 : CV RX8 D_X6_levels 44 6 0 := ⟨cd_X6_levels, wd_455, wd_456, wd_457, RX6, TX6, 5, cl_6, rfl⟩
theorem cv_X8_47 : CV RX8 D_X6_base 47 6 0 := ⟨cd_X6_base, wd_459, wd_460, wd_461, RX6, TX6, 5, cl_6, rfl⟩
theorem cv_X8_49 : CV RX8 D_X6_step 49 6 0 := ⟨cd_X6_step, wd_463, wd_464, wd_465, RX6, TX6, 5, cl_6, rfl⟩
theorem cv_X8_51 : CV RX8 D_X6_rise 51 6 0 := ⟨cd_X6_rise, wd_467, wd_468, wd_469, RX6, TX6, 5, cl_6, rfl⟩
theorem cv_X8_53 : CV RX8 D_X6_countWithOn 53 6 2 := ⟨cd_X6_countWithOn, wd_471, wd_472, wd_473, RX6, TX6, 5, cl_6, rfl⟩
theorem cv_X8_57 : CV RX8 D_X8_countWord 57 8 2 := ⟨cd_X8_countWord, wd_475, wd_477, wd_8, RX8, TX8, 8, cl_8, rfl⟩
theorem cv_X8_61 : CV RX8 D_X6_count 61 6 0 := ⟨cd_X6_count, wd_479, wd_355, wd_356, RX6, TX6, 5, cl_6, rfl⟩
theorem cv_X8_68 : CV RX8 D_X6_countWith 68 6 1 := ⟨cd_X6_countWith, wd_481, wd_482, wd_483, RX6, TX6, 5, cl_6, rfl⟩
theorem cv_X8_78 : CV RX8 D_X8_count 78 8 2 := ⟨cd_X8_count, wd_520, wd_521, wd_522, RX8, TX8, 8, cl_8, rfl⟩
theorem cv_X8_80 : CV RX8 D_X8_wanted 80 8 3 := ⟨cd_X8_wanted, wd_526, wd_527, wd_528, RX8, TX8, 8, cl_8, rfl⟩
theorem cv_X8_89 : CV RX8 D_X8_costOfRise 89 8 2 := ⟨cd_X8_costOfRise, wd_740, wd_513, wd_514, RX8, TX8, 8, cl_8, rfl⟩
theorem cv_X8_92 : CV RX8 D_X8_unlikely 92 8 3 := ⟨cd_X8_unlikely, wd_741, wd_517, wd_518, RX8, TX8, 8, cl_8, rfl⟩
theorem cv_X9_43 : CS RX9 D_X9_isFigure 43 1 := ⟨cd_X9_isFigure, wd_370, wd_371⟩
theorem cv_X9_58 : CSN RX9 D_X10_isWord 58 1 "FlaringWords" := ⟨cd_X10_isWord, List.mem_of_getElem? (i := 385) (by decide +kernel), wd_386⟩
theorem cv_X9_61 : CSN RX9 D_X10_setOfWord 61 1 "FlaringWords" := ⟨cd_X10_setOfWord, List.mem_of_getElem? (i := 388) (by decide +kernel), wd_389⟩
theorem cv_X9_31 : CV RX9 D_X9_hasRoom 31 9 0 := ⟨cd_X9_hasRoom, wd_341, wd_333, wd_334, RX9, TX9, 6, cl_9, rfl⟩
theorem cv_X9_35 : CV RX9 D_X9_readPiece 35 9 2 := ⟨cd_X9_readPiece, wd_362, wd_364, wd_0, RX9, TX9, 6, cl_9, rfl⟩
theorem cv_X9_39 : CV RX9 D_X9_letterAt 39 9 1 := ⟨cd_X9_letterAt, wd_366, wd_368, wd_1, RX9, TX9, 6, cl_9, rfl⟩
theorem cv_X9_47 : CV RX9 D_X9_hasTwoFigures 47 9 0 := ⟨cd_X9_hasTwoFigures, wd_373, wd_375, wd_2, RX9, TX9, 6, cl_9, rfl⟩
theorem cv_X9_50 : CV RX9 D_X9_passes 50 9 1 := ⟨cd_X9_passes, wd_377, wd_379, wd_3, RX9, TX9, 6, cl_9, rfl⟩
theorem cv_X9_54 : CV RX9 D_X9_readWords 54 9 0 := ⟨cd_X9_readWords, wd_381, wd_383, wd_4, RX9, TX9, 6, cl_9, rfl⟩
theorem cv_X11_94 : CS RX11 D_X11_in 94 3 := ⟨cd_X11_in, wd_995, wd_996⟩
theorem cv_X11_125 : CS RX11 D_X11_isFigure 125 1 := ⟨cd_X11_isFigure, wd_1012, wd_1013⟩
theorem cv_X11_195 : CS RX11 D_X11_isWord 195 1 := ⟨cd_X11_isWord, wd_1144, wd_1145⟩
theorem cv_X11_234 : CS RX11 D_X11_has 234 2 := ⟨cd_X11_has, wd_1246, wd_1247⟩
theorem cv_X11_59 : CV RX11 D_X11_copyRow 59 11 2 := ⟨cd_X11_copyRow, wd_1031, wd_1033, wd_33, RX11, TX11, 24, cl_11, rfl⟩
theorem cv_X11_66 : CV RX11 D_X11_count 66 11 2 := ⟨cd_X11_count, wd_1071, wd_1073, wd_41, RX11, TX11, 24, cl_11, rfl⟩
theorem cv_X11_70 : CV RX11 D_X11_wanted 70 11 3 := ⟨cd_X11_wanted, wd_1075, wd_1077, wd_42, RX11, TX11, 24, cl_11, rfl⟩
theorem cv_X11_74 : CV RX11 D_X11_unlikely 74 11 3 := ⟨cd_X11_unlikely, wd_1067, wd_1069, wd_40, RX11, TX11, 24, cl_11, rfl⟩
theorem cv_X11_77 : CV RX11 D_X11_through 77 11 4 := ⟨cd_X11_through, wd_1063, wd_1065, wd_39, RX11, TX11, 24, cl_11, rfl⟩
theorem cv_X11_81 : CV RX11 D_X11_bestLevel 81 11 3 := ⟨cd_X11_bestLevel, wd_1059, wd_1061, wd_38, RX11, TX11, 24, cl_11, rfl⟩
theorem cv_X11_84 : CV RX11 D_X11_layLevels 84 11 1 := ⟨cd_X11_layLevels, wd_1055, wd_1057, wd_37, RX11, TX11, 24, cl_11, rfl⟩
theorem cv_X11_91 : CV RX11 D_X11_addFlares 91 11 2 := ⟨cd_X11_addFlares, wd_1079, wd_1081, wd_43, RX11, TX11, 24, cl_11, rfl⟩
theorem cv_X11_98 : CV RX11 D_X11_isIn 98 11 2 := ⟨cd_X11_isIn, wd_1095, wd_1097, wd_47, RX11, TX11, 24, cl_11, rfl⟩
theorem cv_X11_102 : CV RX11 D_X11_layFlares 102 11 0 := ⟨cd_X11_layFlares, wd_1051, wd_1053, wd_36, RX11, TX11, 24, cl_11, rfl⟩
theorem cv_X11_105 : CV RX11 D_X11_areTied 105 11 2 := ⟨cd_X11_areTied, wd_1091, wd_1093, wd_46, RX11, TX11, 24, cl_11, rfl⟩
theorem cv_X11_108 : CV RX11 D_X11_layHeaps 108 11 0 := ⟨cd_X11_layHeaps, wd_1087, wd_1089, wd_45, RX11, TX11, 24, cl_11, rfl⟩
theorem cv_X11_111 : CV RX11 D_X11_begins 111 11 1 := ⟨cd_X11_begins, wd_1099, wd_1101, wd_48, RX11, TX11, 24, cl_11, rfl⟩
theorem cv_X11_128 : CV RX11 D_X11_dayAt 128 11 1 := ⟨cd_X11_dayAt, wd_1017, wd_1019, wd_30, RX11, TX11, 24, cl_11, rfl⟩
theorem cv_X11_139 : CV RX11 D_X11_faultOf 139 11 1 := ⟨cd_X11_faultOf, wd_1008, wd_1010, wd_29, RX11, TX11, 24, cl_11, rfl⟩
theorem cv_X11_142 : CV RX11 D_X11_goOn 142 11 1 := ⟨cd_X11_goOn, wd_1023, wd_1025, wd_31, RX11, TX11, 24, cl_11, rfl⟩
theorem cv_X11_149 : CV RX11 D_X11_readText 149 11 0 := ⟨cd_X11_readText, wd_1004, wd_1006, wd_28, RX11, TX11, 24, cl_11, rfl⟩
theorem cv_X11_153 : CV RX11 D_X11_remember 153 11 0 := ⟨cd_X11_remember, wd_1027, wd_1029, wd_32, RX11, TX11, 24, cl_11, rfl⟩
theorem cv_X11_156 : CV RX11 D_X11_add 156 11 2 := ⟨cd_X11_add, wd_1035, wd_1037, wd_34, RX11, TX11, 24, cl_11, rfl⟩
theorem cv_X11_164 : CV RX11 D_X11_isDay 164 11 1 := ⟨cd_X11_isDay, wd_1111, wd_1113, wd_51, RX11, TX11, 24, cl_11, rfl⟩
theorem cv_X11_167 : CV RX11 D_X11_levelOf 167 11 2 := ⟨cd_X11_levelOf, wd_1115, wd_1117, wd_52, RX11, TX11, 24, cl_11, rfl⟩
theorem cv_X11_170 : CV RX11 D_X11_wrong 170 11 0 := ⟨cd_X11_wrong, wd_1107, wd_1109, wd_50, RX11, TX11, 24, cl_11, rfl⟩
theorem cv_X11_176 : CV RX11 D_X11_flaresNow 176 11 0 := ⟨cd_X11_flaresNow, wd_1047, wd_1049, wd_35, RX11, TX11, 24, cl_11, rfl⟩
theorem cv_X11_179 : CV RX11 D_X11_stories 179 11 0 := ⟨cd_X11_stories, wd_1083, wd_1085, wd_44, RX11, TX11, 24, cl_11, rfl⟩
theorem cv_X11_182 : CV RX11 D_X11_toldMore 182 11 1 := ⟨cd_X11_toldMore, wd_1103, wd_1105, wd_49, RX11, TX11, 24, cl_11, rfl⟩
theorem cv_X11_185 : CV RX11 D_X11_isPiece 185 11 1 := ⟨cd_X11_isPiece, wd_1123, wd_1125, wd_53, RX11, TX11, 24, cl_11, rfl⟩
theorem cv_X11_189 : CV RX11 D_X11_hot 189 11 1 := ⟨cd_X11_hot, wd_1132, wd_1134, wd_54, RX11, TX11, 24, cl_11, rfl⟩
theorem cv_X11_192 : CV RX11 D_X11_topOf 192 11 1 := ⟨cd_X11_topOf, wd_1136, wd_1138, wd_55, RX11, TX11, 24, cl_11, rfl⟩
theorem cv_X11_198 : CV RX11 D_X11_within 198 11 1 := ⟨cd_X11_within, wd_1160, wd_1162, wd_56, RX11, TX11, 24, cl_11, rfl⟩
theorem cv_X11_201 : CV RX11 D_X11_weight 201 11 1 := ⟨cd_X11_weight, wd_1164, wd_1166, wd_57, RX11, TX11, 24, cl_11, rfl⟩
theorem cv_X11_204 : CV RX11 D_X11_peak 204 11 1 := ⟨cd_X11_peak, wd_1168, wd_1170, wd_58, RX11, TX11, 24, cl_11, rfl⟩
theorem cv_X11_207 : CV RX11 D_X11_storyOf 207 11 1 := ⟨cd_X11_storyOf, wd_1172, wd_1174, wd_59, RX11, TX11, 24, cl_11, rfl⟩
theorem cv_X11_226 : CV RX11 D_X11_draw 226 11 1 := ⟨cd_X11_draw, wd_1213, wd_1215, wd_60, RX11, TX11, 24, cl_11, rfl⟩
end
