-- ===== PART A: goes FIRST, ahead of the names: the tables' words, and 'selects' of the private methods out of them =====
/-- a private method of a class that the tables say can be made, by its rows of tables_1 -/
def lw_okq (q : MethodName × Nat) : Prop := (q.1.cls ≠ "java/lang/invoke/MethodHandle" ∧ q.1.cls ≠ "java/lang/invoke/VarHandle") ∧ Cond.instantiable q.1.cls q.2 ∈ tables_1 ∧ Cond.privateMethod q.1 ∈ tables_1 ∧ Cond.instanceMethod q.1 ∈ tables_1
theorem lw_p0 : lw_okq (⟨"PouredScreen", "remember", "()LPouredScreen$Sheet;"⟩, 5) := ⟨⟨by decide +kernel, by decide +kernel⟩, List.mem_of_getElem? (i := 10) (by decide +kernel), List.mem_of_getElem? (i := 187) (by decide +kernel), List.mem_of_getElem? (i := 188) (by decide +kernel)⟩
theorem lw_p1 : lw_okq (⟨"PouredScreen", "stateAt", "(I)LPouredScreen$Sheet;"⟩, 5) := ⟨⟨by decide +kernel, by decide +kernel⟩, List.mem_of_getElem? (i := 10) (by decide +kernel), List.mem_of_getElem? (i := 191) (by decide +kernel), List.mem_of_getElem? (i := 192) (by decide +kernel)⟩
theorem lw_p2 : lw_okq (⟨"PouredScreen$Sheet", "goOn", "()Z"⟩, 9) := ⟨⟨by decide +kernel, by decide +kernel⟩, List.mem_of_getElem? (i := 18) (by decide +kernel), List.mem_of_getElem? (i := 225) (by decide +kernel), List.mem_of_getElem? (i := 226) (by decide +kernel)⟩
theorem lw_p3 : lw_okq (⟨"PouredScreen$Sheet", "pushTopRow", "()V"⟩, 9) := ⟨⟨by decide +kernel, by decide +kernel⟩, List.mem_of_getElem? (i := 18) (by decide +kernel), List.mem_of_getElem? (i := 233) (by decide +kernel), List.mem_of_getElem? (i := 234) (by decide +kernel)⟩
theorem lw_p4 : lw_okq (⟨"PouredScreen$Sheet", "carryBlank", "(II)V"⟩, 9) := ⟨⟨by decide +kernel, by decide +kernel⟩, List.mem_of_getElem? (i := 18) (by decide +kernel), List.mem_of_getElem? (i := 241) (by decide +kernel), List.mem_of_getElem? (i := 242) (by decide +kernel)⟩
theorem lw_p5 : lw_okq (⟨"PouredScreen$Sheet", "takeRow", "(I)V"⟩, 9) := ⟨⟨by decide +kernel, by decide +kernel⟩, List.mem_of_getElem? (i := 18) (by decide +kernel), List.mem_of_getElem? (i := 246) (by decide +kernel), List.mem_of_getElem? (i := 247) (by decide +kernel)⟩
theorem lw_p6 : lw_okq (⟨"PouredScreen$Sheet", "unmarkAbove", "(I)V"⟩, 9) := ⟨⟨by decide +kernel, by decide +kernel⟩, List.mem_of_getElem? (i := 18) (by decide +kernel), List.mem_of_getElem? (i := 250) (by decide +kernel), List.mem_of_getElem? (i := 251) (by decide +kernel)⟩
theorem lw_p7 : lw_okq (⟨"PouredScreen$Row", "set", "(II)V"⟩, 3) := ⟨⟨by decide +kernel, by decide +kernel⟩, List.mem_of_getElem? (i := 50) (by decide +kernel), List.mem_of_getElem? (i := 274) (by decide +kernel), List.mem_of_getElem? (i := 275) (by decide +kernel)⟩
theorem lw_p8 : lw_okq (⟨"PouredScreen", "obey", "(I)V"⟩, 5) := ⟨⟨by decide +kernel, by decide +kernel⟩, List.mem_of_getElem? (i := 10) (by decide +kernel), List.mem_of_getElem? (i := 283) (by decide +kernel), List.mem_of_getElem? (i := 284) (by decide +kernel)⟩
theorem lw_p9 : lw_okq (⟨"PouredScreen$Pouring", "rowsBefore", "(LPouredScreen$Sheet;II)I"⟩, 13) := ⟨⟨by decide +kernel, by decide +kernel⟩, List.mem_of_getElem? (i := 117) (by decide +kernel), List.mem_of_getElem? (i := 416) (by decide +kernel), List.mem_of_getElem? (i := 417) (by decide +kernel)⟩
theorem lw_p10 : lw_okq (⟨"PouredScreen$Pouring", "pourLines", "(LPouredScreen$Sheet;LPouredScreen$Sheet;I)V"⟩, 13) := ⟨⟨by decide +kernel, by decide +kernel⟩, List.mem_of_getElem? (i := 117) (by decide +kernel), List.mem_of_getElem? (i := 445) (by decide +kernel), List.mem_of_getElem? (i := 446) (by decide +kernel)⟩
theorem lw_p11 : lw_okq (⟨"PouredScreen$Pouring", "pourLine", "(LPouredScreen$Sheet;I)V"⟩, 13) := ⟨⟨by decide +kernel, by decide +kernel⟩, List.mem_of_getElem? (i := 117) (by decide +kernel), List.mem_of_getElem? (i := 449) (by decide +kernel), List.mem_of_getElem? (i := 450) (by decide +kernel)⟩
theorem lw_p12 : lw_okq (⟨"PouredScreen$Pouring", "follow", "(LPouredScreen$Sheet;LPouredScreen$Place;LPouredScreen$Sheet;LPouredScreen$Place;I)V"⟩, 13) := ⟨⟨by decide +kernel, by decide +kernel⟩, List.mem_of_getElem? (i := 117) (by decide +kernel), List.mem_of_getElem? (i := 454) (by decide +kernel), List.mem_of_getElem? (i := 455) (by decide +kernel)⟩
theorem lw_p13 : lw_okq (⟨"PouredScreen$Pouring", "readUpTo", "(I)Z"⟩, 13) := ⟨⟨by decide +kernel, by decide +kernel⟩, List.mem_of_getElem? (i := 117) (by decide +kernel), List.mem_of_getElem? (i := 479) (by decide +kernel), List.mem_of_getElem? (i := 480) (by decide +kernel)⟩
theorem lw_p14 : lw_okq (⟨"PouredScreen$Sheet", "linesBefore", "(I)I"⟩, 9) := ⟨⟨by decide +kernel, by decide +kernel⟩, List.mem_of_getElem? (i := 18) (by decide +kernel), List.mem_of_getElem? (i := 532) (by decide +kernel), List.mem_of_getElem? (i := 533) (by decide +kernel)⟩
theorem lw_p15 : lw_okq (⟨"PouredScreen", "mixRows", "(J)J"⟩, 5) := ⟨⟨by decide +kernel, by decide +kernel⟩, List.mem_of_getElem? (i := 10) (by decide +kernel), List.mem_of_getElem? (i := 569) (by decide +kernel), List.mem_of_getElem? (i := 570) (by decide +kernel)⟩
def lw_privs_1 : List (MethodName × Nat) := [(⟨"PouredScreen", "remember", "()LPouredScreen$Sheet;"⟩, 5), (⟨"PouredScreen", "stateAt", "(I)LPouredScreen$Sheet;"⟩, 5), (⟨"PouredScreen$Sheet", "goOn", "()Z"⟩, 9), (⟨"PouredScreen$Sheet", "pushTopRow", "()V"⟩, 9), (⟨"PouredScreen$Sheet", "carryBlank", "(II)V"⟩, 9), (⟨"PouredScreen$Sheet", "takeRow", "(I)V"⟩, 9), (⟨"PouredScreen$Sheet", "unmarkAbove", "(I)V"⟩, 9), (⟨"PouredScreen$Row", "set", "(II)V"⟩, 3), (⟨"PouredScreen", "obey", "(I)V"⟩, 5), (⟨"PouredScreen$Pouring", "rowsBefore", "(LPouredScreen$Sheet;II)I"⟩, 13), (⟨"PouredScreen$Pouring", "pourLines", "(LPouredScreen$Sheet;LPouredScreen$Sheet;I)V"⟩, 13), (⟨"PouredScreen$Pouring", "pourLine", "(LPouredScreen$Sheet;I)V"⟩, 13), (⟨"PouredScreen$Pouring", "follow", "(LPouredScreen$Sheet;LPouredScreen$Place;LPouredScreen$Sheet;LPouredScreen$Place;I)V"⟩, 13), (⟨"PouredScreen$Pouring", "readUpTo", "(I)Z"⟩, 13), (⟨"PouredScreen$Sheet", "linesBefore", "(I)I"⟩, 9), (⟨"PouredScreen", "mixRows", "(J)J"⟩, 5)]
theorem lw_r1 : ∀ q ∈ lw_privs_1, lw_okq q := List.forall_mem_cons.mpr ⟨lw_p0, List.forall_mem_cons.mpr ⟨lw_p1, List.forall_mem_cons.mpr ⟨lw_p2, List.forall_mem_cons.mpr ⟨lw_p3, List.forall_mem_cons.mpr ⟨lw_p4, List.forall_mem_cons.mpr ⟨lw_p5, List.forall_mem_cons.mpr ⟨lw_p6, List.forall_mem_cons.mpr ⟨lw_p7, List.forall_mem_cons.mpr ⟨lw_p8, List.forall_mem_cons.mpr ⟨lw_p9, List.forall_mem_cons.mpr ⟨lw_p10, List.forall_mem_cons.mpr ⟨lw_p11, List.forall_mem_cons.mpr ⟨lw_p12, List.forall_mem_cons.mpr ⟨lw_p13, List.forall_mem_cons.mpr ⟨lw_p14, List.forall_mem_cons.mpr ⟨lw_p15, fun _ h => absurd h List.not_mem_nil⟩⟩⟩⟩⟩⟩⟩⟩⟩⟩⟩⟩⟩⟩⟩⟩
theorem lw_p16 : lw_okq (⟨"PouredScreen", "mixCells", "(J)J"⟩, 5) := ⟨⟨by decide +kernel, by decide +kernel⟩, List.mem_of_getElem? (i := 10) (by decide +kernel), List.mem_of_getElem? (i := 574) (by decide +kernel), List.mem_of_getElem? (i := 575) (by decide +kernel)⟩
theorem lw_p17 : lw_okq (⟨"PouredScreen", "mixLines", "(J)J"⟩, 5) := ⟨⟨by decide +kernel, by decide +kernel⟩, List.mem_of_getElem? (i := 10) (by decide +kernel), List.mem_of_getElem? (i := 579) (by decide +kernel), List.mem_of_getElem? (i := 580) (by decide +kernel)⟩
theorem lw_p18 : lw_okq (⟨"PouredScreen", "mixCursors", "(J)J"⟩, 5) := ⟨⟨by decide +kernel, by decide +kernel⟩, List.mem_of_getElem? (i := 10) (by decide +kernel), List.mem_of_getElem? (i := 586) (by decide +kernel), List.mem_of_getElem? (i := 587) (by decide +kernel)⟩
theorem lw_p19 : lw_okq (⟨"PouredScreenModel", "blanks", "(I)V"⟩, 13) := ⟨⟨by decide +kernel, by decide +kernel⟩, List.mem_of_getElem? (i := 592) (by decide +kernel), List.mem_of_getElem? (i := 598) (by decide +kernel), List.mem_of_getElem? (i := 599) (by decide +kernel)⟩
theorem lw_p20 : lw_okq (⟨"PouredScreenModel", "unwraps", "(I)V"⟩, 13) := ⟨⟨by decide +kernel, by decide +kernel⟩, List.mem_of_getElem? (i := 592) (by decide +kernel), List.mem_of_getElem? (i := 605) (by decide +kernel), List.mem_of_getElem? (i := 606) (by decide +kernel)⟩
theorem lw_p21 : lw_okq (⟨"PouredScreenModel", "records", "()V"⟩, 13) := ⟨⟨by decide +kernel, by decide +kernel⟩, List.mem_of_getElem? (i := 592) (by decide +kernel), List.mem_of_getElem? (i := 657) (by decide +kernel), List.mem_of_getElem? (i := 658) (by decide +kernel)⟩
theorem lw_p22 : lw_okq (⟨"PouredScreenModel", "moves", "(I)V"⟩, 13) := ⟨⟨by decide +kernel, by decide +kernel⟩, List.mem_of_getElem? (i := 592) (by decide +kernel), List.mem_of_getElem? (i := 661) (by decide +kernel), List.mem_of_getElem? (i := 662) (by decide +kernel)⟩
theorem lw_p23 : lw_okq (⟨"PouredScreenModel", "feedsLine", "()Z"⟩, 13) := ⟨⟨by decide +kernel, by decide +kernel⟩, List.mem_of_getElem? (i := 592) (by decide +kernel), List.mem_of_getElem? (i := 665) (by decide +kernel), List.mem_of_getElem? (i := 666) (by decide +kernel)⟩
theorem lw_p24 : lw_okq (⟨"PouredScreenModel", "scrolls", "()V"⟩, 13) := ⟨⟨by decide +kernel, by decide +kernel⟩, List.mem_of_getElem? (i := 592) (by decide +kernel), List.mem_of_getElem? (i := 669) (by decide +kernel), List.mem_of_getElem? (i := 670) (by decide +kernel)⟩
theorem lw_p25 : lw_okq (⟨"PouredScreenModel", "keepsRow", "(I)V"⟩, 13) := ⟨⟨by decide +kernel, by decide +kernel⟩, List.mem_of_getElem? (i := 592) (by decide +kernel), List.mem_of_getElem? (i := 673) (by decide +kernel), List.mem_of_getElem? (i := 674) (by decide +kernel)⟩
theorem lw_p26 : lw_okq (⟨"PouredScreenModel", "copies", "(II)V"⟩, 13) := ⟨⟨by decide +kernel, by decide +kernel⟩, List.mem_of_getElem? (i := 592) (by decide +kernel), List.mem_of_getElem? (i := 677) (by decide +kernel), List.mem_of_getElem? (i := 678) (by decide +kernel)⟩
theorem lw_p27 : lw_okq (⟨"PouredScreenModel", "unwrapsAhead", "(I)V"⟩, 13) := ⟨⟨by decide +kernel, by decide +kernel⟩, List.mem_of_getElem? (i := 592) (by decide +kernel), List.mem_of_getElem? (i := 681) (by decide +kernel), List.mem_of_getElem? (i := 682) (by decide +kernel)⟩
theorem lw_p28 : lw_okq (⟨"PouredScreenModel", "writes", "(I)V"⟩, 13) := ⟨⟨by decide +kernel, by decide +kernel⟩, List.mem_of_getElem? (i := 592) (by decide +kernel), List.mem_of_getElem? (i := 685) (by decide +kernel), List.mem_of_getElem? (i := 686) (by decide +kernel)⟩
theorem lw_p29 : lw_okq (⟨"PouredScreenModel", "goesOn", "(Z)V"⟩, 13) := ⟨⟨by decide +kernel, by decide +kernel⟩, List.mem_of_getElem? (i := 592) (by decide +kernel), List.mem_of_getElem? (i := 689) (by decide +kernel), List.mem_of_getElem? (i := 690) (by decide +kernel)⟩
theorem lw_p30 : lw_okq (⟨"PouredScreenModel", "erases", "(III)V"⟩, 13) := ⟨⟨by decide +kernel, by decide +kernel⟩, List.mem_of_getElem? (i := 592) (by decide +kernel), List.mem_of_getElem? (i := 696) (by decide +kernel), List.mem_of_getElem? (i := 697) (by decide +kernel)⟩
theorem lw_p31 : lw_okq (⟨"PouredScreenModel", "frees", "(III)V"⟩, 13) := ⟨⟨by decide +kernel, by decide +kernel⟩, List.mem_of_getElem? (i := 592) (by decide +kernel), List.mem_of_getElem? (i := 700) (by decide +kernel), List.mem_of_getElem? (i := 701) (by decide +kernel)⟩
def lw_privs_2 : List (MethodName × Nat) := [(⟨"PouredScreen", "mixCells", "(J)J"⟩, 5), (⟨"PouredScreen", "mixLines", "(J)J"⟩, 5), (⟨"PouredScreen", "mixCursors", "(J)J"⟩, 5), (⟨"PouredScreenModel", "blanks", "(I)V"⟩, 13), (⟨"PouredScreenModel", "unwraps", "(I)V"⟩, 13), (⟨"PouredScreenModel", "records", "()V"⟩, 13), (⟨"PouredScreenModel", "moves", "(I)V"⟩, 13), (⟨"PouredScreenModel", "feedsLine", "()Z"⟩, 13), (⟨"PouredScreenModel", "scrolls", "()V"⟩, 13), (⟨"PouredScreenModel", "keepsRow", "(I)V"⟩, 13), (⟨"PouredScreenModel", "copies", "(II)V"⟩, 13), (⟨"PouredScreenModel", "unwrapsAhead", "(I)V"⟩, 13), (⟨"PouredScreenModel", "writes", "(I)V"⟩, 13), (⟨"PouredScreenModel", "goesOn", "(Z)V"⟩, 13), (⟨"PouredScreenModel", "erases", "(III)V"⟩, 13), (⟨"PouredScreenModel", "frees", "(III)V"⟩, 13)]
theorem lw_r2 : ∀ q ∈ lw_privs_2, lw_okq q := List.forall_mem_cons.mpr ⟨lw_p16, List.forall_mem_cons.mpr ⟨lw_p17, List.forall_mem_cons.mpr ⟨lw_p18, List.forall_mem_cons.mpr ⟨lw_p19, List.forall_mem_cons.mpr ⟨lw_p20, List.forall_mem_cons.mpr ⟨lw_p21, List.forall_mem_cons.mpr ⟨lw_p22, List.forall_mem_cons.mpr ⟨lw_p23, List.forall_mem_cons.mpr ⟨lw_p24, List.forall_mem_cons.mpr ⟨lw_p25, List.forall_mem_cons.mpr ⟨lw_p26, List.forall_mem_cons.mpr ⟨lw_p27, List.forall_mem_cons.mpr ⟨lw_p28, List.forall_mem_cons.mpr ⟨lw_p29, List.forall_mem_cons.mpr ⟨lw_p30, List.forall_mem_cons.mpr ⟨lw_p31, fun _ h => absurd h List.not_mem_nil⟩⟩⟩⟩⟩⟩⟩⟩⟩⟩⟩⟩⟩⟩⟩⟩
theorem lw_p32 : lw_okq (⟨"PouredScreenModel", "code", "(II)I"⟩, 13) := ⟨⟨by decide +kernel, by decide +kernel⟩, List.mem_of_getElem? (i := 592) (by decide +kernel), List.mem_of_getElem? (i := 704) (by decide +kernel), List.mem_of_getElem? (i := 705) (by decide +kernel)⟩
theorem lw_p33 : lw_okq (⟨"PouredScreenModel", "sets", "(III)V"⟩, 13) := ⟨⟨by decide +kernel, by decide +kernel⟩, List.mem_of_getElem? (i := 592) (by decide +kernel), List.mem_of_getElem? (i := 711) (by decide +kernel), List.mem_of_getElem? (i := 712) (by decide +kernel)⟩
theorem lw_p34 : lw_okq (⟨"PouredScreenModel", "isRow", "(I)Z"⟩, 13) := ⟨⟨by decide +kernel, by decide +kernel⟩, List.mem_of_getElem? (i := 592) (by decide +kernel), List.mem_of_getElem? (i := 719) (by decide +kernel), List.mem_of_getElem? (i := 720) (by decide +kernel)⟩
theorem lw_p35 : lw_okq (⟨"PouredScreenModel", "isColumn", "(I)Z"⟩, 13) := ⟨⟨by decide +kernel, by decide +kernel⟩, List.mem_of_getElem? (i := 592) (by decide +kernel), List.mem_of_getElem? (i := 723) (by decide +kernel), List.mem_of_getElem? (i := 724) (by decide +kernel)⟩
theorem lw_p36 : lw_okq (⟨"PouredScreenModel", "goes", "(II)V"⟩, 13) := ⟨⟨by decide +kernel, by decide +kernel⟩, List.mem_of_getElem? (i := 592) (by decide +kernel), List.mem_of_getElem? (i := 727) (by decide +kernel), List.mem_of_getElem? (i := 728) (by decide +kernel)⟩
theorem lw_p37 : lw_okq (⟨"PouredScreenModel", "filledAll", "()I"⟩, 13) := ⟨⟨by decide +kernel, by decide +kernel⟩, List.mem_of_getElem? (i := 592) (by decide +kernel), List.mem_of_getElem? (i := 739) (by decide +kernel), List.mem_of_getElem? (i := 740) (by decide +kernel)⟩
theorem lw_p38 : lw_okq (⟨"PouredScreenModel", "filled", "(I)I"⟩, 13) := ⟨⟨by decide +kernel, by decide +kernel⟩, List.mem_of_getElem? (i := 592) (by decide +kernel), List.mem_of_getElem? (i := 743) (by decide +kernel), List.mem_of_getElem? (i := 744) (by decide +kernel)⟩
theorem lw_p39 : lw_okq (⟨"PouredScreenModel", "erasesLine", "(I)V"⟩, 13) := ⟨⟨by decide +kernel, by decide +kernel⟩, List.mem_of_getElem? (i := 592) (by decide +kernel), List.mem_of_getElem? (i := 747) (by decide +kernel), List.mem_of_getElem? (i := 748) (by decide +kernel)⟩
theorem lw_p40 : lw_okq (⟨"PouredScreenModel", "isInRegion", "()Z"⟩, 13) := ⟨⟨by decide +kernel, by decide +kernel⟩, List.mem_of_getElem? (i := 592) (by decide +kernel), List.mem_of_getElem? (i := 759) (by decide +kernel), List.mem_of_getElem? (i := 760) (by decide +kernel)⟩
theorem lw_p41 : lw_okq (⟨"PouredScreenModel", "filledRows", "(II)I"⟩, 13) := ⟨⟨by decide +kernel, by decide +kernel⟩, List.mem_of_getElem? (i := 592) (by decide +kernel), List.mem_of_getElem? (i := 763) (by decide +kernel), List.mem_of_getElem? (i := 764) (by decide +kernel)⟩
theorem lw_p42 : lw_okq (⟨"PouredScreenModel", "splits", "(Z)V"⟩, 13) := ⟨⟨by decide +kernel, by decide +kernel⟩, List.mem_of_getElem? (i := 592) (by decide +kernel), List.mem_of_getElem? (i := 775) (by decide +kernel), List.mem_of_getElem? (i := 776) (by decide +kernel)⟩
theorem lw_p43 : lw_okq (⟨"PouredScreenModel", "counted", "()I"⟩, 13) := ⟨⟨by decide +kernel, by decide +kernel⟩, List.mem_of_getElem? (i := 592) (by decide +kernel), List.mem_of_getElem? (i := 795) (by decide +kernel), List.mem_of_getElem? (i := 796) (by decide +kernel)⟩
theorem lw_p44 : lw_okq (⟨"PouredScreenModel", "lineBegin", "(II)I"⟩, 13) := ⟨⟨by decide +kernel, by decide +kernel⟩, List.mem_of_getElem? (i := 592) (by decide +kernel), List.mem_of_getElem? (i := 799) (by decide +kernel), List.mem_of_getElem? (i := 800) (by decide +kernel)⟩
theorem lw_p45 : lw_okq (⟨"PouredScreenModel", "lineEnd", "(II)I"⟩, 13) := ⟨⟨by decide +kernel, by decide +kernel⟩, List.mem_of_getElem? (i := 592) (by decide +kernel), List.mem_of_getElem? (i := 803) (by decide +kernel), List.mem_of_getElem? (i := 804) (by decide +kernel)⟩
theorem lw_p46 : lw_okq (⟨"PouredScreenModel", "slot", "(I)I"⟩, 13) := ⟨⟨by decide +kernel, by decide +kernel⟩, List.mem_of_getElem? (i := 592) (by decide +kernel), List.mem_of_getElem? (i := 807) (by decide +kernel), List.mem_of_getElem? (i := 808) (by decide +kernel)⟩
theorem lw_p47 : lw_okq (⟨"PouredScreenModel", "isIt", "(II)Z"⟩, 13) := ⟨⟨by decide +kernel, by decide +kernel⟩, List.mem_of_getElem? (i := 592) (by decide +kernel), List.mem_of_getElem? (i := 811) (by decide +kernel), List.mem_of_getElem? (i := 812) (by decide +kernel)⟩
def lw_privs_3 : List (MethodName × Nat) := [(⟨"PouredScreenModel", "code", "(II)I"⟩, 13), (⟨"PouredScreenModel", "sets", "(III)V"⟩, 13), (⟨"PouredScreenModel", "isRow", "(I)Z"⟩, 13), (⟨"PouredScreenModel", "isColumn", "(I)Z"⟩, 13), (⟨"PouredScreenModel", "goes", "(II)V"⟩, 13), (⟨"PouredScreenModel", "filledAll", "()I"⟩, 13), (⟨"PouredScreenModel", "filled", "(I)I"⟩, 13), (⟨"PouredScreenModel", "erasesLine", "(I)V"⟩, 13), (⟨"PouredScreenModel", "isInRegion", "()Z"⟩, 13), (⟨"PouredScreenModel", "filledRows", "(II)I"⟩, 13), (⟨"PouredScreenModel", "splits", "(Z)V"⟩, 13), (⟨"PouredScreenModel", "counted", "()I"⟩, 13), (⟨"PouredScreenModel", "lineBegin", "(II)I"⟩, 13), (⟨"PouredScreenModel", "lineEnd", "(II)I"⟩, 13), (⟨"PouredScreenModel", "slot", "(I)I"⟩, 13), (⟨"PouredScreenModel", "isIt", "(II)Z"⟩, 13)]
theorem lw_r3 : ∀ q ∈ lw_privs_3, lw_okq q := List.forall_mem_cons.mpr ⟨lw_p32, List.forall_mem_cons.mpr ⟨lw_p33, List.forall_mem_cons.mpr ⟨lw_p34, List.forall_mem_cons.mpr ⟨lw_p35, List.forall_mem_cons.mpr ⟨lw_p36, List.forall_mem_cons.mpr ⟨lw_p37, List.forall_mem_cons.mpr ⟨lw_p38, List.forall_mem_cons.mpr ⟨lw_p39, List.forall_mem_cons.mpr ⟨lw_p40, List.forall_mem_cons.mpr ⟨lw_p41, List.forall_mem_cons.mpr ⟨lw_p42, List.forall_mem_cons.mpr ⟨lw_p43, List.forall_mem_cons.mpr ⟨lw_p44, List.forall_mem_cons.mpr ⟨lw_p45, List.forall_mem_cons.mpr ⟨lw_p46, List.forall_mem_cons.mpr ⟨lw_p47, fun _ h => absurd h List.not_mem_nil⟩⟩⟩⟩⟩⟩⟩⟩⟩⟩⟩⟩⟩⟩⟩⟩
theorem lw_p48 : lw_okq (⟨"PouredScreenModel", "lineOf", "(III)I"⟩, 13) := ⟨⟨by decide +kernel, by decide +kernel⟩, List.mem_of_getElem? (i := 592) (by decide +kernel), List.mem_of_getElem? (i := 815) (by decide +kernel), List.mem_of_getElem? (i := 816) (by decide +kernel)⟩
theorem lw_p49 : lw_okq (⟨"PouredScreenModel", "signsOf", "(II)I"⟩, 13) := ⟨⟨by decide +kernel, by decide +kernel⟩, List.mem_of_getElem? (i := 592) (by decide +kernel), List.mem_of_getElem? (i := 819) (by decide +kernel), List.mem_of_getElem? (i := 820) (by decide +kernel)⟩
theorem lw_p50 : lw_okq (⟨"PouredScreenModel", "cellsOf", "(II)I"⟩, 13) := ⟨⟨by decide +kernel, by decide +kernel⟩, List.mem_of_getElem? (i := 592) (by decide +kernel), List.mem_of_getElem? (i := 823) (by decide +kernel), List.mem_of_getElem? (i := 824) (by decide +kernel)⟩
theorem lw_p51 : lw_okq (⟨"PouredScreenModel", "usedCells", "(I)I"⟩, 13) := ⟨⟨by decide +kernel, by decide +kernel⟩, List.mem_of_getElem? (i := 592) (by decide +kernel), List.mem_of_getElem? (i := 827) (by decide +kernel), List.mem_of_getElem? (i := 828) (by decide +kernel)⟩
theorem lw_p52 : lw_okq (⟨"PouredScreenModel", "signsIn", "(II)I"⟩, 13) := ⟨⟨by decide +kernel, by decide +kernel⟩, List.mem_of_getElem? (i := 592) (by decide +kernel), List.mem_of_getElem? (i := 831) (by decide +kernel), List.mem_of_getElem? (i := 832) (by decide +kernel)⟩
theorem lw_p53 : lw_okq (⟨"PouredScreenModel", "signOf", "(III)I"⟩, 13) := ⟨⟨by decide +kernel, by decide +kernel⟩, List.mem_of_getElem? (i := 592) (by decide +kernel), List.mem_of_getElem? (i := 839) (by decide +kernel), List.mem_of_getElem? (i := 840) (by decide +kernel)⟩
theorem lw_p54 : lw_okq (⟨"PouredScreenModel", "cursorOf", "(II)I"⟩, 13) := ⟨⟨by decide +kernel, by decide +kernel⟩, List.mem_of_getElem? (i := 592) (by decide +kernel), List.mem_of_getElem? (i := 847) (by decide +kernel), List.mem_of_getElem? (i := 848) (by decide +kernel)⟩
theorem lw_p55 : lw_okq (⟨"PouredScreenModel", "columnOf", "(I)I"⟩, 13) := ⟨⟨by decide +kernel, by decide +kernel⟩, List.mem_of_getElem? (i := 592) (by decide +kernel), List.mem_of_getElem? (i := 851) (by decide +kernel), List.mem_of_getElem? (i := 852) (by decide +kernel)⟩
theorem lw_p56 : lw_okq (⟨"PouredScreenModel", "rowOf", "(I)I"⟩, 13) := ⟨⟨by decide +kernel, by decide +kernel⟩, List.mem_of_getElem? (i := 592) (by decide +kernel), List.mem_of_getElem? (i := 855) (by decide +kernel), List.mem_of_getElem? (i := 856) (by decide +kernel)⟩
theorem lw_p57 : lw_okq (⟨"PouredScreenModel", "lineAt", "(I)I"⟩, 13) := ⟨⟨by decide +kernel, by decide +kernel⟩, List.mem_of_getElem? (i := 592) (by decide +kernel), List.mem_of_getElem? (i := 859) (by decide +kernel), List.mem_of_getElem? (i := 860) (by decide +kernel)⟩
theorem lw_p58 : lw_okq (⟨"PouredScreenModel", "markOf", "(II)I"⟩, 13) := ⟨⟨by decide +kernel, by decide +kernel⟩, List.mem_of_getElem? (i := 592) (by decide +kernel), List.mem_of_getElem? (i := 863) (by decide +kernel), List.mem_of_getElem? (i := 864) (by decide +kernel)⟩
theorem lw_p59 : lw_okq (⟨"PouredScreenModel", "rowsWith", "(I)I"⟩, 13) := ⟨⟨by decide +kernel, by decide +kernel⟩, List.mem_of_getElem? (i := 592) (by decide +kernel), List.mem_of_getElem? (i := 871) (by decide +kernel), List.mem_of_getElem? (i := 872) (by decide +kernel)⟩
theorem lw_p60 : lw_okq (⟨"PouredScreenModel", "poursAll", "()I"⟩, 13) := ⟨⟨by decide +kernel, by decide +kernel⟩, List.mem_of_getElem? (i := 592) (by decide +kernel), List.mem_of_getElem? (i := 875) (by decide +kernel), List.mem_of_getElem? (i := 876) (by decide +kernel)⟩
theorem lw_p61 : lw_okq (⟨"PouredScreenModel", "pours", "(I)V"⟩, 13) := ⟨⟨by decide +kernel, by decide +kernel⟩, List.mem_of_getElem? (i := 592) (by decide +kernel), List.mem_of_getElem? (i := 879) (by decide +kernel), List.mem_of_getElem? (i := 880) (by decide +kernel)⟩
theorem lw_p62 : lw_okq (⟨"PouredScreenModel", "lays", "(II)V"⟩, 13) := ⟨⟨by decide +kernel, by decide +kernel⟩, List.mem_of_getElem? (i := 592) (by decide +kernel), List.mem_of_getElem? (i := 883) (by decide +kernel), List.mem_of_getElem? (i := 884) (by decide +kernel)⟩
theorem lw_p63 : lw_okq (⟨"PouredScreenModel", "meets", "(II)V"⟩, 13) := ⟨⟨by decide +kernel, by decide +kernel⟩, List.mem_of_getElem? (i := 592) (by decide +kernel), List.mem_of_getElem? (i := 887) (by decide +kernel), List.mem_of_getElem? (i := 888) (by decide +kernel)⟩
def lw_privs_4 : List (MethodName × Nat) := [(⟨"PouredScreenModel", "lineOf", "(III)I"⟩, 13), (⟨"PouredScreenModel", "signsOf", "(II)I"⟩, 13), (⟨"PouredScreenModel", "cellsOf", "(II)I"⟩, 13), (⟨"PouredScreenModel", "usedCells", "(I)I"⟩, 13), (⟨"PouredScreenModel", "signsIn", "(II)I"⟩, 13), (⟨"PouredScreenModel", "signOf", "(III)I"⟩, 13), (⟨"PouredScreenModel", "cursorOf", "(II)I"⟩, 13), (⟨"PouredScreenModel", "columnOf", "(I)I"⟩, 13), (⟨"PouredScreenModel", "rowOf", "(I)I"⟩, 13), (⟨"PouredScreenModel", "lineAt", "(I)I"⟩, 13), (⟨"PouredScreenModel", "markOf", "(II)I"⟩, 13), (⟨"PouredScreenModel", "rowsWith", "(I)I"⟩, 13), (⟨"PouredScreenModel", "poursAll", "()I"⟩, 13), (⟨"PouredScreenModel", "pours", "(I)V"⟩, 13), (⟨"PouredScreenModel", "lays", "(II)V"⟩, 13), (⟨"PouredScreenModel", "meets", "(II)V"⟩, 13)]
theorem lw_r4 : ∀ q ∈ lw_privs_4, lw_okq q := List.forall_mem_cons.mpr ⟨lw_p48, List.forall_mem_cons.mpr ⟨lw_p49, List.forall_mem_cons.mpr ⟨lw_p50, List.forall_mem_cons.mpr ⟨lw_p51, List.forall_mem_cons.mpr ⟨lw_p52, List.forall_mem_cons.mpr ⟨lw_p53, List.forall_mem_cons.mpr ⟨lw_p54, List.forall_mem_cons.mpr ⟨lw_p55, List.forall_mem_cons.mpr ⟨lw_p56, List.forall_mem_cons.mpr ⟨lw_p57, List.forall_mem_cons.mpr ⟨lw_p58, List.forall_mem_cons.mpr ⟨lw_p59, List.forall_mem_cons.mpr ⟨lw_p60, List.forall_mem_cons.mpr ⟨lw_p61, List.forall_mem_cons.mpr ⟨lw_p62, List.forall_mem_cons.mpr ⟨lw_p63, fun _ h => absurd h List.not_mem_nil⟩⟩⟩⟩⟩⟩⟩⟩⟩⟩⟩⟩⟩⟩⟩⟩
theorem lw_p64 : lw_okq (⟨"PouredScreenModel", "ends", "(II)V"⟩, 13) := ⟨⟨by decide +kernel, by decide +kernel⟩, List.mem_of_getElem? (i := 592) (by decide +kernel), List.mem_of_getElem? (i := 891) (by decide +kernel), List.mem_of_getElem? (i := 892) (by decide +kernel)⟩
theorem lw_p65 : lw_okq (⟨"PouredScreenModel", "marks", "()V"⟩, 13) := ⟨⟨by decide +kernel, by decide +kernel⟩, List.mem_of_getElem? (i := 592) (by decide +kernel), List.mem_of_getElem? (i := 903) (by decide +kernel), List.mem_of_getElem? (i := 904) (by decide +kernel)⟩
theorem lw_p66 : lw_okq (⟨"PouredScreenModel", "takes", "(II)V"⟩, 13) := ⟨⟨by decide +kernel, by decide +kernel⟩, List.mem_of_getElem? (i := 592) (by decide +kernel), List.mem_of_getElem? (i := 907) (by decide +kernel), List.mem_of_getElem? (i := 908) (by decide +kernel)⟩
theorem lw_p67 : lw_okq (⟨"PouredScreenModel", "lands", "(I)V"⟩, 13) := ⟨⟨by decide +kernel, by decide +kernel⟩, List.mem_of_getElem? (i := 592) (by decide +kernel), List.mem_of_getElem? (i := 911) (by decide +kernel), List.mem_of_getElem? (i := 912) (by decide +kernel)⟩
theorem lw_p68 : lw_okq (⟨"PouredScreenModel", "rowOfSlot", "(II)I"⟩, 13) := ⟨⟨by decide +kernel, by decide +kernel⟩, List.mem_of_getElem? (i := 592) (by decide +kernel), List.mem_of_getElem? (i := 923) (by decide +kernel), List.mem_of_getElem? (i := 924) (by decide +kernel)⟩
theorem lw_p69 : lw_okq (⟨"PouredScreenModel", "signsFilled", "(I)I"⟩, 13) := ⟨⟨by decide +kernel, by decide +kernel⟩, List.mem_of_getElem? (i := 592) (by decide +kernel), List.mem_of_getElem? (i := 927) (by decide +kernel), List.mem_of_getElem? (i := 928) (by decide +kernel)⟩
theorem lw_p70 : lw_okq (⟨"PouredScreenModel", "lines", "()I"⟩, 13) := ⟨⟨by decide +kernel, by decide +kernel⟩, List.mem_of_getElem? (i := 592) (by decide +kernel), List.mem_of_getElem? (i := 935) (by decide +kernel), List.mem_of_getElem? (i := 936) (by decide +kernel)⟩
theorem lw_p71 : lw_okq (⟨"PouredScreenModel", "mixedLines", "(J)J"⟩, 13) := ⟨⟨by decide +kernel, by decide +kernel⟩, List.mem_of_getElem? (i := 592) (by decide +kernel), List.mem_of_getElem? (i := 951) (by decide +kernel), List.mem_of_getElem? (i := 952) (by decide +kernel)⟩
def lw_privs_5 : List (MethodName × Nat) := [(⟨"PouredScreenModel", "ends", "(II)V"⟩, 13), (⟨"PouredScreenModel", "marks", "()V"⟩, 13), (⟨"PouredScreenModel", "takes", "(II)V"⟩, 13), (⟨"PouredScreenModel", "lands", "(I)V"⟩, 13), (⟨"PouredScreenModel", "rowOfSlot", "(II)I"⟩, 13), (⟨"PouredScreenModel", "signsFilled", "(I)I"⟩, 13), (⟨"PouredScreenModel", "lines", "()I"⟩, 13), (⟨"PouredScreenModel", "mixedLines", "(J)J"⟩, 13)]
theorem lw_r5 : ∀ q ∈ lw_privs_5, lw_okq q := List.forall_mem_cons.mpr ⟨lw_p64, List.forall_mem_cons.mpr ⟨lw_p65, List.forall_mem_cons.mpr ⟨lw_p66, List.forall_mem_cons.mpr ⟨lw_p67, List.forall_mem_cons.mpr ⟨lw_p68, List.forall_mem_cons.mpr ⟨lw_p69, List.forall_mem_cons.mpr ⟨lw_p70, List.forall_mem_cons.mpr ⟨lw_p71, fun _ h => absurd h List.not_mem_nil⟩⟩⟩⟩⟩⟩⟩⟩
def lw_privs : List (MethodName × Nat) := lw_privs_1 ++ (lw_privs_2 ++ (lw_privs_3 ++ (lw_privs_4 ++ (lw_privs_5))))
def lw_tbl : List Cond := k2_sels lw_privs ++ tables_1
theorem lw_privs_ok : ∀ q ∈ lw_privs, lw_okq q := by
  show ∀ q ∈ lw_privs_1 ++ (lw_privs_2 ++ (lw_privs_3 ++ (lw_privs_4 ++ (lw_privs_5)))), lw_okq q
  exact List.forall_mem_append.mpr ⟨lw_r1, List.forall_mem_append.mpr ⟨lw_r2, List.forall_mem_append.mpr ⟨lw_r3, List.forall_mem_append.mpr ⟨lw_r4, lw_r5⟩⟩⟩⟩

def RX0 : String := "PouredScreen$Place"
def TX0 : u_T := fun k => match k with
  | 0 => ("PouredScreen$Place", "row", "I", false)
  | 1 => ("PouredScreen$Place", "column", "I", false)
  | _ => ("PouredScreen$Place", "pending", "Z", false)
def tyX0 : Nat → FieldType := fun k => match k with
  | 0 => .int
  | 1 => .int
  | _ => .boolean
abbrev wsX00 : List Cond := u_ws RX0 TX0 3
theorem nmX0 : ∀ a, a < 3 → ∀ b, b < 3 → a ≠ b → (TX0 a).2.1 ≠ (TX0 b).2.1 := by decide +kernel
theorem tyX0_ok : ∀ k, k < 3 → parseFieldDescriptor (TX0 k).2.2.1 = some (tyX0 k) := by decide +kernel
abbrev cX0_init : ByteArray := prog_2_method_1_code
def yX0_init : MethodName := ⟨RX0, "<init>", "()V"⟩
abbrev cX0_set : ByteArray := prog_2_method_2_code
def yX0_set : MethodName := ⟨RX0, "set", "(II)V"⟩
abbrev cX0_copyFrom : ByteArray := prog_2_method_3_code
def yX0_copyFrom : MethodName := ⟨RX0, "copyFrom", "(LPouredScreen$Place;)V"⟩
def RX1 : String := "PouredScreen$Pouring"
def TX1 : u_T := fun k => match k with
  | 0 => ("PouredScreen$Pouring", "from", "LPouredScreen$Sheet;", false)
  | 1 => ("PouredScreen$Pouring", "inRow", "I", false)
  | 2 => ("PouredScreen$Pouring", "inColumn", "I", false)
  | 3 => ("PouredScreen$Pouring", "endRow", "I", false)
  | 4 => ("PouredScreen$Pouring", "cells", "I", false)
  | 5 => ("PouredScreen$Pouring", "width", "I", false)
  | 6 => ("PouredScreen$Pouring", "sign", "I", false)
  | 7 => ("PouredScreen$Pouring", "read", "I", false)
  | 8 => ("PouredScreen$Pouring", "row", "I", false)
  | 9 => ("PouredScreen$Pouring", "column", "I", false)
  | 10 => ("PouredScreen$Pouring", "behind", "I", false)
  | 11 => ("PouredScreen$Pouring", "wraps", "Z", false)
  | _ => ("PouredScreen$Pouring", "leftGap", "Z", false)
def tyX1 : Nat → FieldType := fun k => match k with
  | 0 => .object "PouredScreen$Sheet"
  | 1 => .int
  | 2 => .int
  | 3 => .int
  | 4 => .int
  | 5 => .int
  | 6 => .int
  | 7 => .int
  | 8 => .int
  | 9 => .int
  | 10 => .int
  | 11 => .boolean
  | _ => .boolean
abbrev wsX10 : List Cond := u_ws RX1 TX1 13
theorem nmX1 : ∀ a, a < 13 → ∀ b, b < 13 → a ≠ b → (TX1 a).2.1 ≠ (TX1 b).2.1 := by decide +kernel
theorem tyX1_ok : ∀ k, k < 13 → parseFieldDescriptor (TX1 k).2.2.1 = some (tyX1 k) := by decide +kernel
abbrev cX1_init : ByteArray := prog_3_method_1_code
def yX1_init : MethodName := ⟨RX1, "<init>", "()V"⟩
abbrev cX1_begin : ByteArray := prog_3_method_2_code
def yX1_begin : MethodName := ⟨RX1, "begin", "(LPouredScreen$Sheet;III)V"⟩
abbrev cX1_next : ByteArray := prog_3_method_3_code
def yX1_next : MethodName := ⟨RX1, "next", "()Z"⟩
abbrev cX1_signOf : ByteArray := prog_3_method_4_code
def yX1_signOf : MethodName := ⟨RX1, "signOf", "(LPouredScreen$Sheet;III)I"⟩
abbrev cX1_readUpTo : ByteArray := prog_3_method_5_code
def yX1_readUpTo : MethodName := ⟨RX1, "readUpTo", "(I)Z"⟩
abbrev cX1_rowsBefore : ByteArray := prog_3_method_6_code
def yX1_rowsBefore : MethodName := ⟨RX1, "rowsBefore", "(LPouredScreen$Sheet;II)I"⟩
abbrev cX1_rowsIn : ByteArray := prog_3_method_7_code
def yX1_rowsIn : MethodName := ⟨RX1, "rowsIn", "(LPouredScreen$Sheet;I)I"⟩
abbrev cX1_pour : ByteArray := prog_3_method_8_code
def yX1_pour : MethodName := ⟨RX1, "pour", "(LPouredScreen$Sheet;LPouredScreen$Sheet;II)I"⟩
abbrev cX1_pourLines : ByteArray := prog_3_method_9_code
def yX1_pourLines : MethodName := ⟨RX1, "pourLines", "(LPouredScreen$Sheet;LPouredScreen$Sheet;I)V"⟩
abbrev cX1_pourLine : ByteArray := prog_3_method_10_code
def yX1_pourLine : MethodName := ⟨RX1, "pourLine", "(LPouredScreen$Sheet;I)V"⟩
abbrev cX1_follow : ByteArray := prog_3_method_11_code
def yX1_follow : MethodName := ⟨RX1, "follow", "(LPouredScreen$Sheet;LPouredScreen$Place;LPouredScreen$Sheet;LPouredScreen$Place;I)V"⟩
def RX2 : String := "PouredScreen$Row"
def TX2 : u_T := fun k => match k with
  | 0 => ("PouredScreen$Row", "cells", "[I", true)
  | 1 => ("PouredScreen$Row", "wrap", "Z", false)
  | _ => ("PouredScreen$Row", "gap", "Z", false)
def tyX2 : Nat → FieldType := fun k => match k with
  | 0 => .array .int
  | 1 => .boolean
  | _ => .boolean
abbrev wsX20 : List Cond := u_ws RX2 TX2 3
theorem nmX2 : ∀ a, a < 3 → ∀ b, b < 3 → a ≠ b → (TX2 a).2.1 ≠ (TX2 b).2.1 := by decide +kernel
theorem tyX2_ok : ∀ k, k < 3 → parseFieldDescriptor (TX2 k).2.2.1 = some (tyX2 k) := by decide +kernel
abbrev cX2_init : ByteArray := prog_4_method_1_code
def yX2_init : MethodName := ⟨RX2, "<init>", "()V"⟩
abbrev cX2_at : ByteArray := prog_4_method_2_code
def yX2_at : MethodName := ⟨RX2, "at", "(I)I"⟩
abbrev cX2_set : ByteArray := prog_4_method_3_code
def yX2_set : MethodName := ⟨RX2, "set", "(II)V"⟩
abbrev cX2_clear : ByteArray := prog_4_method_4_code
def yX2_clear : MethodName := ⟨RX2, "clear", "()V"⟩
abbrev cX2_unmark : ByteArray := prog_4_method_5_code
def yX2_unmark : MethodName := ⟨RX2, "unmark", "()V"⟩
abbrev cX2_copyFrom : ByteArray := prog_4_method_6_code
def yX2_copyFrom : MethodName := ⟨RX2, "copyFrom", "(LPouredScreen$Row;)V"⟩
abbrev cX2_taken : ByteArray := prog_4_method_7_code
def yX2_taken : MethodName := ⟨RX2, "taken", "()I"⟩
abbrev cX2_filled : ByteArray := prog_4_method_8_code
def yX2_filled : MethodName := ⟨RX2, "filled", "()I"⟩
abbrev cX2_isBlank : ByteArray := prog_4_method_9_code
def yX2_isBlank : MethodName := ⟨RX2, "isBlank", "()Z"⟩
abbrev cX2_signs : ByteArray := prog_4_method_10_code
def yX2_signs : MethodName := ⟨RX2, "signs", "()I"⟩
abbrev cX2_signsBefore : ByteArray := prog_4_method_11_code
def yX2_signsBefore : MethodName := ⟨RX2, "signsBefore", "(I)I"⟩
abbrev cX2_erase : ByteArray := prog_4_method_12_code
def yX2_erase : MethodName := ⟨RX2, "erase", "(III)V"⟩
abbrev cX2_put : ByteArray := prog_4_method_13_code
def yX2_put : MethodName := ⟨RX2, "put", "(II)V"⟩
abbrev cX2_overwrite : ByteArray := prog_4_method_14_code
def yX2_overwrite : MethodName := ⟨RX2, "overwrite", "(III)V"⟩
abbrev cX2_openCells : ByteArray := prog_4_method_15_code
def yX2_openCells : MethodName := ⟨RX2, "openCells", "(III)V"⟩
abbrev cX2_closeCells : ByteArray := prog_4_method_16_code
def yX2_closeCells : MethodName := ⟨RX2, "closeCells", "(III)V"⟩
def RX3 : String := "PouredScreen$Sheet"
def TX3 : u_T := fun k => match k with
  | 0 => ("PouredScreen$Sheet", "rows", "[LPouredScreen$Row;", true)
  | 1 => ("PouredScreen$Sheet", "cursor", "LPouredScreen$Place;", true)
  | 2 => ("PouredScreen$Sheet", "kept", "[LPouredScreen$Place;", true)
  | 3 => ("PouredScreen$Sheet", "keptCount", "I", false)
  | 4 => ("PouredScreen$Sheet", "history", "I", false)
  | 5 => ("PouredScreen$Sheet", "width", "I", false)
  | 6 => ("PouredScreen$Sheet", "height", "I", false)
  | 7 => ("PouredScreen$Sheet", "first", "I", false)
  | _ => ("PouredScreen$Sheet", "last", "I", false)
def tyX3 : Nat → FieldType := fun k => match k with
  | 0 => .array (.object "PouredScreen$Row")
  | 1 => .object "PouredScreen$Place"
  | 2 => .array (.object "PouredScreen$Place")
  | 3 => .int
  | 4 => .int
  | 5 => .int
  | 6 => .int
  | 7 => .int
  | _ => .int
abbrev wsX30 : List Cond := u_ws RX3 TX3 9
theorem nmX3 : ∀ a, a < 9 → ∀ b, b < 9 → a ≠ b → (TX3 a).2.1 ≠ (TX3 b).2.1 := by decide +kernel
theorem tyX3_ok : ∀ k, k < 9 → parseFieldDescriptor (TX3 k).2.2.1 = some (tyX3 k) := by decide +kernel
abbrev cX3_init : ByteArray := prog_5_method_1_code
def yX3_init : MethodName := ⟨RX3, "<init>", "()V"⟩
abbrev cX3_copyFrom : ByteArray := prog_5_method_2_code
def yX3_copyFrom : MethodName := ⟨RX3, "copyFrom", "(LPouredScreen$Sheet;)V"⟩
abbrev cX3_clear : ByteArray := prog_5_method_3_code
def yX3_clear : MethodName := ⟨RX3, "clear", "(II)V"⟩
abbrev cX3_rowAt : ByteArray := prog_5_method_4_code
def yX3_rowAt : MethodName := ⟨RX3, "rowAt", "(I)LPouredScreen$Row;"⟩
abbrev cX3_screenRow : ByteArray := prog_5_method_5_code
def yX3_screenRow : MethodName := ⟨RX3, "screenRow", "(I)LPouredScreen$Row;"⟩
abbrev cX3_hasCell : ByteArray := prog_5_method_6_code
def yX3_hasCell : MethodName := ⟨RX3, "hasCell", "(II)Z"⟩
abbrev cX3_isCursorInRegion : ByteArray := prog_5_method_7_code
def yX3_isCursorInRegion : MethodName := ⟨RX3, "isCursorInRegion", "()Z"⟩
abbrev cX3_keptPlace : ByteArray := prog_5_method_8_code
def yX3_keptPlace : MethodName := ⟨RX3, "keptPlace", "(I)LPouredScreen$Place;"⟩
abbrev cX3_keepCursor : ByteArray := prog_5_method_9_code
def yX3_keepCursor : MethodName := ⟨RX3, "keepCursor", "()V"⟩
abbrev cX3_takeCursorBack : ByteArray := prog_5_method_10_code
def yX3_takeCursorBack : MethodName := ⟨RX3, "takeCursorBack", "()V"⟩
abbrev cX3_taken : ByteArray := prog_5_method_11_code
def yX3_taken : MethodName := ⟨RX3, "taken", "()I"⟩
abbrev cX3_write : ByteArray := prog_5_method_12_code
def yX3_write : MethodName := ⟨RX3, "write", "(I)V"⟩
abbrev cX3_goOn : ByteArray := prog_5_method_13_code
def yX3_goOn : MethodName := ⟨RX3, "goOn", "()Z"⟩
abbrev cX3_lineFeed : ByteArray := prog_5_method_14_code
def yX3_lineFeed : MethodName := ⟨RX3, "lineFeed", "()Z"⟩
abbrev cX3_pushTopRow : ByteArray := prog_5_method_15_code
def yX3_pushTopRow : MethodName := ⟨RX3, "pushTopRow", "()V"⟩
abbrev cX3_eraseInRow : ByteArray := prog_5_method_16_code
def yX3_eraseInRow : MethodName := ⟨RX3, "eraseInRow", "(I)V"⟩
abbrev cX3_eraseRows : ByteArray := prog_5_method_17_code
def yX3_eraseRows : MethodName := ⟨RX3, "eraseRows", "(II)V"⟩
abbrev cX3_openRows : ByteArray := prog_5_method_18_code
def yX3_openRows : MethodName := ⟨RX3, "openRows", "(I)I"⟩
abbrev cX3_closeRows : ByteArray := prog_5_method_19_code
def yX3_closeRows : MethodName := ⟨RX3, "closeRows", "(I)I"⟩
abbrev cX3_takeRow : ByteArray := prog_5_method_20_code
def yX3_takeRow : MethodName := ⟨RX3, "takeRow", "(I)V"⟩
abbrev cX3_unmarkAbove : ByteArray := prog_5_method_21_code
def yX3_unmarkAbove : MethodName := ⟨RX3, "unmarkAbove", "(I)V"⟩
abbrev cX3_carryBlank : ByteArray := prog_5_method_22_code
def yX3_carryBlank : MethodName := ⟨RX3, "carryBlank", "(II)V"⟩
abbrev cX3_countedRows : ByteArray := prog_5_method_23_code
def yX3_countedRows : MethodName := ⟨RX3, "countedRows", "()I"⟩
abbrev cX3_endsLine : ByteArray := prog_5_method_24_code
def yX3_endsLine : MethodName := ⟨RX3, "endsLine", "(II)Z"⟩
abbrev cX3_linesBefore : ByteArray := prog_5_method_25_code
def yX3_linesBefore : MethodName := ⟨RX3, "linesBefore", "(I)I"⟩
abbrev cX3_lines : ByteArray := prog_5_method_26_code
def yX3_lines : MethodName := ⟨RX3, "lines", "()I"⟩
abbrev cX3_startOfLine : ByteArray := prog_5_method_27_code
def yX3_startOfLine : MethodName := ⟨RX3, "startOfLine", "(I)I"⟩
abbrev cX3_startOf : ByteArray := prog_5_method_28_code
def yX3_startOf : MethodName := ⟨RX3, "startOf", "(I)I"⟩
abbrev cX3_endOf : ByteArray := prog_5_method_29_code
def yX3_endOf : MethodName := ⟨RX3, "endOf", "(I)I"⟩
abbrev cX3_cellsOfLine : ByteArray := prog_5_method_30_code
def yX3_cellsOfLine : MethodName := ⟨RX3, "cellsOfLine", "(IZ)I"⟩
abbrev cX3_signsOfLine : ByteArray := prog_5_method_31_code
def yX3_signsOfLine : MethodName := ⟨RX3, "signsOfLine", "(II)I"⟩
abbrev cX3_lineOf : ByteArray := prog_5_method_32_code
def yX3_lineOf : MethodName := ⟨RX3, "lineOf", "(LPouredScreen$Place;)I"⟩
abbrev cX3_markOf : ByteArray := prog_5_method_33_code
def yX3_markOf : MethodName := ⟨RX3, "markOf", "(LPouredScreen$Place;)I"⟩
def RX4 : String := "PouredScreen"
def TX4 : u_T := fun k => match k with
  | 0 => ("PouredScreen", "sheet", "LPouredScreen$Sheet;", true)
  | 1 => ("PouredScreen", "remembered", "[LPouredScreen$Sheet;", true)
  | 2 => ("PouredScreen", "pouring", "LPouredScreen$Pouring;", true)
  | 3 => ("PouredScreen", "nextState", "I", false)
  | _ => ("PouredScreen", "states", "I", false)
def tyX4 : Nat → FieldType := fun k => match k with
  | 0 => .object "PouredScreen$Sheet"
  | 1 => .array (.object "PouredScreen$Sheet")
  | 2 => .object "PouredScreen$Pouring"
  | 3 => .int
  | _ => .int
abbrev wsX40 : List Cond := u_ws RX4 TX4 5
theorem nmX4 : ∀ a, a < 5 → ∀ b, b < 5 → a ≠ b → (TX4 a).2.1 ≠ (TX4 b).2.1 := by decide +kernel
theorem tyX4_ok : ∀ k, k < 5 → parseFieldDescriptor (TX4 k).2.2.1 = some (tyX4 k) := by decide +kernel
abbrev cX4_init : ByteArray := prog_1_method_1_code
def yX4_init : MethodName := ⟨RX4, "<init>", "()V"⟩
abbrev cX4_feed : ByteArray := prog_1_method_2_code
def yX4_feed : MethodName := ⟨RX4, "feed", "(I)I"⟩
abbrev cX4_moveTo : ByteArray := prog_1_method_3_code
def yX4_moveTo : MethodName := ⟨RX4, "moveTo", "(II)I"⟩
abbrev cX4_setRegion : ByteArray := prog_1_method_4_code
def yX4_setRegion : MethodName := ⟨RX4, "setRegion", "(II)I"⟩
abbrev cX4_eraseLine : ByteArray := prog_1_method_5_code
def yX4_eraseLine : MethodName := ⟨RX4, "eraseLine", "(I)I"⟩
abbrev cX4_eraseScreen : ByteArray := prog_1_method_6_code
def yX4_eraseScreen : MethodName := ⟨RX4, "eraseScreen", "(I)I"⟩
abbrev cX4_insertRows : ByteArray := prog_1_method_7_code
def yX4_insertRows : MethodName := ⟨RX4, "insertRows", "(I)I"⟩
abbrev cX4_deleteRows : ByteArray := prog_1_method_8_code
def yX4_deleteRows : MethodName := ⟨RX4, "deleteRows", "(I)I"⟩
abbrev cX4_insertCells : ByteArray := prog_1_method_9_code
def yX4_insertCells : MethodName := ⟨RX4, "insertCells", "(I)I"⟩
abbrev cX4_deleteCells : ByteArray := prog_1_method_10_code
def yX4_deleteCells : MethodName := ⟨RX4, "deleteCells", "(I)I"⟩
abbrev cX4_keep : ByteArray := prog_1_method_11_code
def yX4_keep : MethodName := ⟨RX4, "keep", "()I"⟩
abbrev cX4_back : ByteArray := prog_1_method_12_code
def yX4_back : MethodName := ⟨RX4, "back", "()I"⟩
abbrev cX4_resize : ByteArray := prog_1_method_13_code
def yX4_resize : MethodName := ⟨RX4, "resize", "(II)I"⟩
abbrev cX4_cell : ByteArray := prog_1_method_14_code
def yX4_cell : MethodName := ⟨RX4, "cell", "(II)I"⟩
abbrev cX4_row : ByteArray := prog_1_method_15_code
def yX4_row : MethodName := ⟨RX4, "row", "(II)I"⟩
abbrev cX4_line : ByteArray := prog_1_method_16_code
def yX4_line : MethodName := ⟨RX4, "line", "(II)I"⟩
abbrev cX4_sign : ByteArray := prog_1_method_17_code
def yX4_sign : MethodName := ⟨RX4, "sign", "(II)I"⟩
abbrev cX4_cursor : ByteArray := prog_1_method_18_code
def yX4_cursor : MethodName := ⟨RX4, "cursor", "(II)I"⟩
abbrev cX4_ifWidth : ByteArray := prog_1_method_19_code
def yX4_ifWidth : MethodName := ⟨RX4, "ifWidth", "(I)I"⟩
abbrev cX4_widthFor : ByteArray := prog_1_method_20_code
def yX4_widthFor : MethodName := ⟨RX4, "widthFor", "(I)I"⟩
abbrev cX4_told : ByteArray := prog_1_method_21_code
def yX4_told : MethodName := ⟨RX4, "told", "(I)I"⟩
abbrev cX4_undo : ByteArray := prog_1_method_22_code
def yX4_undo : MethodName := ⟨RX4, "undo", "()I"⟩
abbrev cX4_digest : ByteArray := prog_1_method_23_code
def yX4_digest : MethodName := ⟨RX4, "digest", "()J"⟩
abbrev cX4_mix : ByteArray := prog_1_method_24_code
def yX4_mix : MethodName := ⟨RX4, "mix", "(JI)J"⟩
abbrev cX4_mixRows : ByteArray := prog_1_method_25_code
def yX4_mixRows : MethodName := ⟨RX4, "mixRows", "(J)J"⟩
abbrev cX4_mixCells : ByteArray := prog_1_method_26_code
def yX4_mixCells : MethodName := ⟨RX4, "mixCells", "(J)J"⟩
abbrev cX4_mixLines : ByteArray := prog_1_method_27_code
def yX4_mixLines : MethodName := ⟨RX4, "mixLines", "(J)J"⟩
abbrev cX4_mixCursors : ByteArray := prog_1_method_28_code
def yX4_mixCursors : MethodName := ⟨RX4, "mixCursors", "(J)J"⟩
abbrev cX4_isControl : ByteArray := prog_1_method_29_code
def yX4_isControl : MethodName := ⟨RX4, "isControl", "(I)Z"⟩
abbrev cX4_isWidth : ByteArray := prog_1_method_30_code
def yX4_isWidth : MethodName := ⟨RX4, "isWidth", "(I)Z"⟩
abbrev cX4_sizeOf : ByteArray := prog_1_method_31_code
def yX4_sizeOf : MethodName := ⟨RX4, "sizeOf", "(I)I"⟩
abbrev cX4_obey : ByteArray := prog_1_method_32_code
def yX4_obey : MethodName := ⟨RX4, "obey", "(I)V"⟩
abbrev cX4_stateAt : ByteArray := prog_1_method_33_code
def yX4_stateAt : MethodName := ⟨RX4, "stateAt", "(I)LPouredScreen$Sheet;"⟩
abbrev cX4_remember : ByteArray := prog_1_method_34_code
def yX4_remember : MethodName := ⟨RX4, "remember", "()LPouredScreen$Sheet;"⟩
def RX5 : String := "PouredScreenModel"
def TX5 : u_T := fun k => match k with
  | 0 => ("PouredScreenModel", "page", "[I", true)
  | 1 => ("PouredScreenModel", "remembered", "I", false)
  | 2 => ("PouredScreenModel", "fresh", "[I", true)
  | 3 => ("PouredScreenModel", "lineOfCursor", "[I", true)
  | 4 => ("PouredScreenModel", "markOfCursor", "[I", true)
  | 5 => ("PouredScreenModel", "toRow", "[I", true)
  | 6 => ("PouredScreenModel", "toColumn", "[I", true)
  | 7 => ("PouredScreenModel", "isFull", "[Z", true)
  | 8 => ("PouredScreenModel", "width", "I", false)
  | 9 => ("PouredScreenModel", "base", "I", false)
  | 10 => ("PouredScreenModel", "fills", "Z", false)
  | 11 => ("PouredScreenModel", "outRow", "I", false)
  | _ => ("PouredScreenModel", "outColumn", "I", false)
def tyX5 : Nat → FieldType := fun k => match k with
  | 0 => .array .int
  | 1 => .int
  | 2 => .array .int
  | 3 => .array .int
  | 4 => .array .int
  | 5 => .array .int
  | 6 => .array .int
  | 7 => .array .boolean
  | 8 => .int
  | 9 => .int
  | 10 => .boolean
  | 11 => .int
  | _ => .int
abbrev wsX50 : List Cond := u_ws RX5 TX5 13
theorem nmX5 : ∀ a, a < 13 → ∀ b, b < 13 → a ≠ b → (TX5 a).2.1 ≠ (TX5 b).2.1 := by decide +kernel
theorem tyX5_ok : ∀ k, k < 13 → parseFieldDescriptor (TX5 k).2.2.1 = some (tyX5 k) := by decide +kernel
abbrev cX5_init : ByteArray := prog_7_method_1_code
def yX5_init : MethodName := ⟨RX5, "<init>", "()V"⟩
abbrev cX5_in : ByteArray := prog_7_method_3_code
def yX5_in : MethodName := ⟨RX5, "in", "(III)Z"⟩
abbrev cX5_records : ByteArray := prog_7_method_4_code
def yX5_records : MethodName := ⟨RX5, "records", "()V"⟩
abbrev cX5_at : ByteArray := prog_7_method_5_code
def yX5_at : MethodName := ⟨RX5, "at", "(II)I"⟩
abbrev cX5_code : ByteArray := prog_7_method_6_code
def yX5_code : MethodName := ⟨RX5, "code", "(II)I"⟩
abbrev cX5_isIt : ByteArray := prog_7_method_7_code
def yX5_isIt : MethodName := ⟨RX5, "isIt", "(II)Z"⟩
abbrev cX5_blanks : ByteArray := prog_7_method_8_code
def yX5_blanks : MethodName := ⟨RX5, "blanks", "(I)V"⟩
abbrev cX5_unwraps : ByteArray := prog_7_method_9_code
def yX5_unwraps : MethodName := ⟨RX5, "unwraps", "(I)V"⟩
abbrev cX5_copies : ByteArray := prog_7_method_10_code
def yX5_copies : MethodName := ⟨RX5, "copies", "(II)V"⟩
abbrev cX5_isWide : ByteArray := prog_7_method_11_code
def yX5_isWide : MethodName := ⟨RX5, "isWide", "(I)Z"⟩
abbrev cX5_isRight : ByteArray := prog_7_method_12_code
def yX5_isRight : MethodName := ⟨RX5, "isRight", "(I)Z"⟩
abbrev cX5_unwrapsAhead : ByteArray := prog_7_method_13_code
def yX5_unwrapsAhead : MethodName := ⟨RX5, "unwrapsAhead", "(I)V"⟩
abbrev cX5_sets : ByteArray := prog_7_method_14_code
def yX5_sets : MethodName := ⟨RX5, "sets", "(III)V"⟩
abbrev cX5_frees : ByteArray := prog_7_method_15_code
def yX5_frees : MethodName := ⟨RX5, "frees", "(III)V"⟩
abbrev cX5_erases : ByteArray := prog_7_method_16_code
def yX5_erases : MethodName := ⟨RX5, "erases", "(III)V"⟩
abbrev cX5_usedCells : ByteArray := prog_7_method_17_code
def yX5_usedCells : MethodName := ⟨RX5, "usedCells", "(I)I"⟩
abbrev cX5_filled : ByteArray := prog_7_method_18_code
def yX5_filled : MethodName := ⟨RX5, "filled", "(I)I"⟩
abbrev cX5_filledAll : ByteArray := prog_7_method_19_code
def yX5_filledAll : MethodName := ⟨RX5, "filledAll", "()I"⟩
abbrev cX5_keepsRow : ByteArray := prog_7_method_20_code
def yX5_keepsRow : MethodName := ⟨RX5, "keepsRow", "(I)V"⟩
abbrev cX5_scrolls : ByteArray := prog_7_method_21_code
def yX5_scrolls : MethodName := ⟨RX5, "scrolls", "()V"⟩
abbrev cX5_feedsLine : ByteArray := prog_7_method_22_code
def yX5_feedsLine : MethodName := ⟨RX5, "feedsLine", "()Z"⟩
abbrev cX5_goesOn : ByteArray := prog_7_method_23_code
def yX5_goesOn : MethodName := ⟨RX5, "goesOn", "(Z)V"⟩
abbrev cX5_writes : ByteArray := prog_7_method_24_code
def yX5_writes : MethodName := ⟨RX5, "writes", "(I)V"⟩
abbrev cX5_moves : ByteArray := prog_7_method_25_code
def yX5_moves : MethodName := ⟨RX5, "moves", "(I)V"⟩
abbrev cX5_feed : ByteArray := prog_7_method_26_code
def yX5_feed : MethodName := ⟨RX5, "feed", "(I)I"⟩
abbrev cX5_isRow : ByteArray := prog_7_method_27_code
def yX5_isRow : MethodName := ⟨RX5, "isRow", "(I)Z"⟩
abbrev cX5_isColumn : ByteArray := prog_7_method_28_code
def yX5_isColumn : MethodName := ⟨RX5, "isColumn", "(I)Z"⟩
abbrev cX5_goes : ByteArray := prog_7_method_29_code
def yX5_goes : MethodName := ⟨RX5, "goes", "(II)V"⟩
abbrev cX5_moveTo : ByteArray := prog_7_method_30_code
def yX5_moveTo : MethodName := ⟨RX5, "moveTo", "(II)I"⟩
abbrev cX5_setRegion : ByteArray := prog_7_method_31_code
def yX5_setRegion : MethodName := ⟨RX5, "setRegion", "(II)I"⟩
abbrev cX5_erasesLine : ByteArray := prog_7_method_32_code
def yX5_erasesLine : MethodName := ⟨RX5, "erasesLine", "(I)V"⟩
abbrev cX5_eraseLine : ByteArray := prog_7_method_33_code
def yX5_eraseLine : MethodName := ⟨RX5, "eraseLine", "(I)I"⟩
abbrev cX5_eraseScreen : ByteArray := prog_7_method_34_code
def yX5_eraseScreen : MethodName := ⟨RX5, "eraseScreen", "(I)I"⟩
abbrev cX5_isInRegion : ByteArray := prog_7_method_35_code
def yX5_isInRegion : MethodName := ⟨RX5, "isInRegion", "()Z"⟩
abbrev cX5_filledRows : ByteArray := prog_7_method_36_code
def yX5_filledRows : MethodName := ⟨RX5, "filledRows", "(II)I"⟩
abbrev cX5_insertRows : ByteArray := prog_7_method_37_code
def yX5_insertRows : MethodName := ⟨RX5, "insertRows", "(I)I"⟩
abbrev cX5_deleteRows : ByteArray := prog_7_method_38_code
def yX5_deleteRows : MethodName := ⟨RX5, "deleteRows", "(I)I"⟩
abbrev cX5_splits : ByteArray := prog_7_method_39_code
def yX5_splits : MethodName := ⟨RX5, "splits", "(Z)V"⟩
abbrev cX5_insertCells : ByteArray := prog_7_method_40_code
def yX5_insertCells : MethodName := ⟨RX5, "insertCells", "(I)I"⟩
abbrev cX5_deleteCells : ByteArray := prog_7_method_41_code
def yX5_deleteCells : MethodName := ⟨RX5, "deleteCells", "(I)I"⟩
abbrev cX5_keep : ByteArray := prog_7_method_42_code
def yX5_keep : MethodName := ⟨RX5, "keep", "()I"⟩
abbrev cX5_back : ByteArray := prog_7_method_43_code
def yX5_back : MethodName := ⟨RX5, "back", "()I"⟩
abbrev cX5_counted : ByteArray := prog_7_method_44_code
def yX5_counted : MethodName := ⟨RX5, "counted", "()I"⟩
abbrev cX5_slot : ByteArray := prog_7_method_45_code
def yX5_slot : MethodName := ⟨RX5, "slot", "(I)I"⟩
abbrev cX5_lineEnd : ByteArray := prog_7_method_46_code
def yX5_lineEnd : MethodName := ⟨RX5, "lineEnd", "(II)I"⟩
abbrev cX5_lineBegin : ByteArray := prog_7_method_47_code
def yX5_lineBegin : MethodName := ⟨RX5, "lineBegin", "(II)I"⟩
abbrev cX5_lines : ByteArray := prog_7_method_48_code
def yX5_lines : MethodName := ⟨RX5, "lines", "()I"⟩
abbrev cX5_cellsOf : ByteArray := prog_7_method_49_code
def yX5_cellsOf : MethodName := ⟨RX5, "cellsOf", "(II)I"⟩
abbrev cX5_signsIn : ByteArray := prog_7_method_50_code
def yX5_signsIn : MethodName := ⟨RX5, "signsIn", "(II)I"⟩
abbrev cX5_signsOf : ByteArray := prog_7_method_51_code
def yX5_signsOf : MethodName := ⟨RX5, "signsOf", "(II)I"⟩
abbrev cX5_lineOf : ByteArray := prog_7_method_52_code
def yX5_lineOf : MethodName := ⟨RX5, "lineOf", "(III)I"⟩
abbrev cX5_line : ByteArray := prog_7_method_53_code
def yX5_line : MethodName := ⟨RX5, "line", "(II)I"⟩
abbrev cX5_signOf : ByteArray := prog_7_method_54_code
def yX5_signOf : MethodName := ⟨RX5, "signOf", "(III)I"⟩
abbrev cX5_sign : ByteArray := prog_7_method_55_code
def yX5_sign : MethodName := ⟨RX5, "sign", "(II)I"⟩
abbrev cX5_lineAt : ByteArray := prog_7_method_56_code
def yX5_lineAt : MethodName := ⟨RX5, "lineAt", "(I)I"⟩
abbrev cX5_markOf : ByteArray := prog_7_method_57_code
def yX5_markOf : MethodName := ⟨RX5, "markOf", "(II)I"⟩
abbrev cX5_rowOf : ByteArray := prog_7_method_58_code
def yX5_rowOf : MethodName := ⟨RX5, "rowOf", "(I)I"⟩
abbrev cX5_columnOf : ByteArray := prog_7_method_59_code
def yX5_columnOf : MethodName := ⟨RX5, "columnOf", "(I)I"⟩
abbrev cX5_cursorOf : ByteArray := prog_7_method_60_code
def yX5_cursorOf : MethodName := ⟨RX5, "cursorOf", "(II)I"⟩
abbrev cX5_cursor : ByteArray := prog_7_method_61_code
def yX5_cursor : MethodName := ⟨RX5, "cursor", "(II)I"⟩
abbrev cX5_lays : ByteArray := prog_7_method_62_code
def yX5_lays : MethodName := ⟨RX5, "lays", "(II)V"⟩
abbrev cX5_pours : ByteArray := prog_7_method_63_code
def yX5_pours : MethodName := ⟨RX5, "pours", "(I)V"⟩
abbrev cX5_meets : ByteArray := prog_7_method_64_code
def yX5_meets : MethodName := ⟨RX5, "meets", "(II)V"⟩
abbrev cX5_ends : ByteArray := prog_7_method_65_code
def yX5_ends : MethodName := ⟨RX5, "ends", "(II)V"⟩
abbrev cX5_poursAll : ByteArray := prog_7_method_66_code
def yX5_poursAll : MethodName := ⟨RX5, "poursAll", "()I"⟩
abbrev cX5_rowsWith : ByteArray := prog_7_method_67_code
def yX5_rowsWith : MethodName := ⟨RX5, "rowsWith", "(I)I"⟩
abbrev cX5_ifWidth : ByteArray := prog_7_method_68_code
def yX5_ifWidth : MethodName := ⟨RX5, "ifWidth", "(I)I"⟩
abbrev cX5_widthFor : ByteArray := prog_7_method_69_code
def yX5_widthFor : MethodName := ⟨RX5, "widthFor", "(I)I"⟩
abbrev cX5_marks : ByteArray := prog_7_method_70_code
def yX5_marks : MethodName := ⟨RX5, "marks", "()V"⟩
abbrev cX5_takes : ByteArray := prog_7_method_71_code
def yX5_takes : MethodName := ⟨RX5, "takes", "(II)V"⟩
abbrev cX5_resize : ByteArray := prog_7_method_72_code
def yX5_resize : MethodName := ⟨RX5, "resize", "(II)I"⟩
abbrev cX5_lands : ByteArray := prog_7_method_73_code
def yX5_lands : MethodName := ⟨RX5, "lands", "(I)V"⟩
abbrev cX5_cell : ByteArray := prog_7_method_74_code
def yX5_cell : MethodName := ⟨RX5, "cell", "(II)I"⟩
abbrev cX5_signsFilled : ByteArray := prog_7_method_75_code
def yX5_signsFilled : MethodName := ⟨RX5, "signsFilled", "(I)I"⟩
abbrev cX5_rowOfSlot : ByteArray := prog_7_method_76_code
def yX5_rowOfSlot : MethodName := ⟨RX5, "rowOfSlot", "(II)I"⟩
abbrev cX5_row : ByteArray := prog_7_method_77_code
def yX5_row : MethodName := ⟨RX5, "row", "(II)I"⟩
abbrev cX5_told : ByteArray := prog_7_method_78_code
def yX5_told : MethodName := ⟨RX5, "told", "(I)I"⟩
abbrev cX5_undo : ByteArray := prog_7_method_79_code
def yX5_undo : MethodName := ⟨RX5, "undo", "()I"⟩
abbrev cX5_mixedLines : ByteArray := prog_7_method_80_code
def yX5_mixedLines : MethodName := ⟨RX5, "mixedLines", "(J)J"⟩
abbrev cX5_digest : ByteArray := prog_7_method_81_code
def yX5_digest : MethodName := ⟨RX5, "digest", "()J"⟩

def RL : String := "PouredScreenLaw"
abbrev cL_law : ByteArray := code
def yL_law : MethodName := ⟨RL, "law", "([I)Z"⟩

abbrev vwCl : List vw_C := [(RX0, TX0, 3), (RX1, TX1, 13), (RX2, TX2, 3), (RX3, TX3, 9), (RX4, TX4, 5), (RX5, TX5, 13)]
/-! the words of the tables that stay, for every method -/
def z_WG : List Cond := lw_tbl.filter goodWord
theorem z_tab (i : Nat) {w : Cond} (h : tables_1[i]? = some w) (hg : goodWord w = true) : w ∈ z_WG := List.mem_filter.mpr ⟨List.mem_append_right _ (List.mem_of_getElem? h), hg⟩
theorem z_sel (i : Nat) {q : MethodName × Nat} (h : lw_privs[i]? = some q) (hg : goodWord (Cond.selects q.1.cls q.1 q.1) = true) : Cond.selects q.1.cls q.1 q.1 ∈ z_WG := List.mem_filter.mpr ⟨List.mem_append_left _ (List.mem_map.mpr ⟨q, List.mem_of_getElem? h, rfl⟩), hg⟩
def z_nest : Cond → Bool
  | .fieldLinkNest .. => true
  | .methodLinkNest .. => true
  | .arrayOver (.object _) => true
  | _ => false
def z_WN : List Cond := tables_1.filter z_nest
theorem z_nst (i : Nat) {w : Cond} (h : tables_1[i]? = some w) (hg : z_nest w = true) : w ∈ z_WN := List.mem_filter.mpr ⟨List.mem_of_getElem? h, hg⟩
theorem z_good : ∀ w ∈ z_WG, goodWord w = true := fun w h => (List.mem_filter.mp h).2
theorem z_in : ∀ w ∈ z_WG, w ∈ lw_tbl := fun w h => (List.mem_filter.mp h).1
/-- a method: its name, code, locals, what it returns, its room, what else is known of the start -/
abbrev z_M : Type := MethodName × ByteArray × Nat × Option FieldType × Room × (State → Nat → Prop)
abbrev z_my (M : z_M) : MethodName := M.1
abbrev z_mc (M : z_M) : ByteArray := M.2.1
abbrev z_mn (M : z_M) : Nat := M.2.2.1
abbrev z_mr (M : z_M) : Option FieldType := M.2.2.2.1
abbrev z_mR (M : z_M) : Room := M.2.2.2.2.1
abbrev z_mE (M : z_M) : State → Nat → Prop := M.2.2.2.2.2
def z_D (len : Nat) (M : z_M) (pc n : Nat) (i : Instr) : Prop := decode (z_mc M) pc = .ok (i, len) ∧ pc + len = n
def z_J (M : z_M) (pc n tgt : Nat) (off : Int) (i : Instr) : Prop := decode (z_mc M) pc = .ok (i, 3) ∧ pc + 3 = n ∧ (pc : Int) + off = (tgt : Int)
/-- a field's entry: field k of class ci -/
def z_F (own : String) (idx ci k : Nat) (C : String) (T : u_T) (N : Nat) : Prop := vwCl[ci]? = some (C, T, N) ∧ k < N ∧ (Cond.fieldLink own idx (T k).1 (T k).2.1 (T k).2.2.1 ∈ z_WG ∨ ∃ host, Cond.fieldLinkNest own idx (T k).1 (T k).2.1 (T k).2.2.1 host ∈ z_WN)
/-- a method's entry -/
def z_LB (own : String) (idx : Nat) (y : MethodName) (b : ByteArray) (nL : Nat) (r : Option FieldType) (n : Nat) : Prop :=
  (Cond.methodLink own idx y ∈ z_WG ∨ ∃ host, Cond.methodLinkNest own idx y host ∈ z_WN) ∧ Cond.code y b nL r ∈ z_WG ∧ Cond.initialized y.cls ∈ z_WG ∧ (y.cls ≠ "java/lang/invoke/MethodHandle" ∧ y.cls ≠ "java/lang/invoke/VarHandle" ∧ (parseMethodDescriptor y.desc).map (fun d => d.parameters.length) = some n)
def z_LV (own : String) (idx : Nat) (y : MethodName) (b : ByteArray) (nL : Nat) (r : Option FieldType) (n : Nat) : Prop := z_LB own idx y b nL r n ∧ Cond.instanceMethod y ∈ z_WG ∧ Cond.selects y.cls y y ∈ z_WG
def z_LS (own : String) (idx : Nat) (y : MethodName) (b : ByteArray) (nL : Nat) (r : Option FieldType) (n : Nat) : Prop := z_LB own idx y b nL r n ∧ Cond.static y ∈ z_WG
def z_LI (own : String) (idx : Nat) (y : MethodName) (b : ByteArray) (nL : Nat) (r : Option FieldType) (n : Nat) : Prop := z_LB own idx y b nL r n ∧ y.name = "<init>" ∧ Cond.instanceMethod y ∈ z_WG
def M_X0_init : z_M := (yX0_init, cX0_init, 1, none, { frames := 1, cells := 0, slots := 0, locals := 24 }, fun _ _ => True)
def M_X0_set : z_M := (yX0_set, cX0_set, 3, none, { frames := 0, cells := 0, slots := 0, locals := 0 }, fun _ _ => True)
def M_X0_copyFrom : z_M := (yX0_copyFrom, cX0_copyFrom, 2, none, { frames := 0, cells := 0, slots := 0, locals := 0 }, fun _ _ => True)
def M_X1_init : z_M := (yX1_init, cX1_init, 1, none, { frames := 1, cells := 0, slots := 0, locals := 24 }, fun _ _ => True)
def M_X1_begin : z_M := (yX1_begin, cX1_begin, 5, none, { frames := 2, cells := 0, slots := 0, locals := 44 }, fun _ _ => True)
def M_X1_next : z_M := (yX1_next, cX1_next, 2, (some .boolean), { frames := 2, cells := 0, slots := 0, locals := 44 }, fun _ _ => True)
def M_X1_signOf : z_M := (yX1_signOf, cX1_signOf, 5, (some .int), { frames := 4, cells := 0, slots := 0, locals := 87 }, fun _ _ => True)
def M_X1_readUpTo : z_M := (yX1_readUpTo, cX1_readUpTo, 3, (some .boolean), { frames := 3, cells := 0, slots := 0, locals := 65 }, fun _ _ => True)
def M_X1_rowsBefore : z_M := (yX1_rowsBefore, cX1_rowsBefore, 9, (some .int), { frames := 3, cells := 0, slots := 0, locals := 68 }, fun _ _ => True)
def M_X1_rowsIn : z_M := (yX1_rowsIn, cX1_rowsIn, 3, (some .int), { frames := 4, cells := 0, slots := 0, locals := 96 }, fun _ _ => True)
def M_X1_pour : z_M := (yX1_pour, cX1_pour, 10, (some .int), { frames := 5, cells := 0, slots := 0, locals := 126 }, fun _ _ => True)
def M_X1_pourLines : z_M := (yX1_pourLines, cX1_pourLines, 8, none, { frames := 4, cells := 0, slots := 0, locals := 89 }, fun _ _ => True)
def M_X1_pourLine : z_M := (yX1_pourLine, cX1_pourLine, 5, none, { frames := 3, cells := 0, slots := 0, locals := 65 }, fun _ _ => True)
def M_X1_follow : z_M := (yX1_follow, cX1_follow, 11, none, { frames := 4, cells := 0, slots := 0, locals := 96 }, fun _ _ => True)
def M_X2_init : z_M := (yX2_init, cX2_init, 1, none, { frames := 1, cells := 1, slots := 20, locals := 24 }, fun _ _ => True)
def M_X2_at : z_M := (yX2_at, cX2_at, 2, (some .int), { frames := 0, cells := 0, slots := 0, locals := 0 }, fun _ _ => True)
def M_X2_set : z_M := (yX2_set, cX2_set, 3, none, { frames := 0, cells := 0, slots := 0, locals := 0 }, fun _ _ => True)
def M_X2_clear : z_M := (yX2_clear, cX2_clear, 2, none, { frames := 0, cells := 0, slots := 0, locals := 0 }, fun _ _ => True)
def M_X2_unmark : z_M := (yX2_unmark, cX2_unmark, 1, none, { frames := 0, cells := 0, slots := 0, locals := 0 }, fun _ _ => True)
def M_X2_copyFrom : z_M := (yX2_copyFrom, cX2_copyFrom, 2, none, { frames := 1, cells := 0, slots := 0, locals := 40 }, fun _ _ => True)
def M_X2_taken : z_M := (yX2_taken, cX2_taken, 6, (some .int), { frames := 0, cells := 0, slots := 0, locals := 0 }, fun _ _ => True)
def M_X2_filled : z_M := (yX2_filled, cX2_filled, 2, (some .int), { frames := 0, cells := 0, slots := 0, locals := 0 }, fun _ _ => True)
def M_X2_isBlank : z_M := (yX2_isBlank, cX2_isBlank, 1, (some .boolean), { frames := 1, cells := 0, slots := 0, locals := 21 }, fun _ _ => True)
def M_X2_signs : z_M := (yX2_signs, cX2_signs, 6, (some .int), { frames := 0, cells := 0, slots := 0, locals := 0 }, fun _ _ => True)
def M_X2_signsBefore : z_M := (yX2_signsBefore, cX2_signsBefore, 4, (some .int), { frames := 0, cells := 0, slots := 0, locals := 0 }, fun _ _ => True)
def M_X2_erase : z_M := (yX2_erase, cX2_erase, 7, none, { frames := 1, cells := 0, slots := 0, locals := 22 }, fun _ _ => True)
def M_X2_put : z_M := (yX2_put, cX2_put, 3, none, { frames := 1, cells := 0, slots := 0, locals := 22 }, fun _ _ => True)
def M_X2_overwrite : z_M := (yX2_overwrite, cX2_overwrite, 4, none, { frames := 2, cells := 0, slots := 0, locals := 48 }, fun _ _ => True)
def M_X2_openCells : z_M := (yX2_openCells, cX2_openCells, 5, none, { frames := 1, cells := 0, slots := 0, locals := 22 }, fun _ _ => True)
def M_X2_closeCells : z_M := (yX2_closeCells, cX2_closeCells, 5, none, { frames := 2, cells := 0, slots := 0, locals := 48 }, fun _ _ => True)
def M_X3_init : z_M := (yX3_init, cX3_init, 2, none, { frames := 2, cells := 70, slots := 783, locals := 44 }, fun _ _ => True)
def M_X3_copyFrom : z_M := (yX3_copyFrom, cX3_copyFrom, 3, none, { frames := 2, cells := 0, slots := 0, locals := 61 }, fun _ _ => True)
def M_X3_clear : z_M := (yX3_clear, cX3_clear, 7, none, { frames := 1, cells := 0, slots := 0, locals := 21 }, fun _ _ => True)
def M_X3_rowAt : z_M := (yX3_rowAt, cX3_rowAt, 2, (some (.object "PouredScreen$Row")), { frames := 0, cells := 0, slots := 0, locals := 0 }, fun _ _ => True)
def M_X3_screenRow : z_M := (yX3_screenRow, cX3_screenRow, 2, (some (.object "PouredScreen$Row")), { frames := 1, cells := 0, slots := 0, locals := 21 }, fun _ _ => True)
def M_X3_hasCell : z_M := (yX3_hasCell, cX3_hasCell, 3, (some .boolean), { frames := 0, cells := 0, slots := 0, locals := 0 }, fun _ _ => True)
def M_X3_isCursorInRegion : z_M := (yX3_isCursorInRegion, cX3_isCursorInRegion, 1, (some .boolean), { frames := 0, cells := 0, slots := 0, locals := 0 }, fun _ _ => True)
def M_X3_keptPlace : z_M := (yX3_keptPlace, cX3_keptPlace, 2, (some (.object "PouredScreen$Place")), { frames := 0, cells := 0, slots := 0, locals := 0 }, fun _ _ => True)
def M_X3_keepCursor : z_M := (yX3_keepCursor, cX3_keepCursor, 1, none, { frames := 1, cells := 0, slots := 0, locals := 22 }, fun _ _ => True)
def M_X3_takeCursorBack : z_M := (yX3_takeCursorBack, cX3_takeCursorBack, 1, none, { frames := 1, cells := 0, slots := 0, locals := 21 }, fun _ _ => True)
def M_X3_taken : z_M := (yX3_taken, cX3_taken, 3, (some .int), { frames := 2, cells := 0, slots := 0, locals := 42 }, fun _ _ => True)
def M_X3_write : z_M := (yX3_write, cX3_write, 2, none, { frames := 5, cells := 0, slots := 0, locals := 108 }, fun _ _ => True)
def M_X3_goOn : z_M := (yX3_goOn, cX3_goOn, 2, (some .boolean), { frames := 4, cells := 0, slots := 0, locals := 87 }, fun _ _ => True)
def M_X3_lineFeed : z_M := (yX3_lineFeed, cX3_lineFeed, 2, (some .boolean), { frames := 3, cells := 0, slots := 0, locals := 66 }, fun _ _ => True)
def M_X3_pushTopRow : z_M := (yX3_pushTopRow, cX3_pushTopRow, 2, none, { frames := 2, cells := 0, slots := 0, locals := 45 }, fun _ _ => True)
def M_X3_eraseInRow : z_M := (yX3_eraseInRow, cX3_eraseInRow, 4, none, { frames := 2, cells := 0, slots := 0, locals := 48 }, fun _ _ => True)
def M_X3_eraseRows : z_M := (yX3_eraseRows, cX3_eraseRows, 4, none, { frames := 2, cells := 0, slots := 0, locals := 48 }, fun _ _ => True)
def M_X3_openRows : z_M := (yX3_openRows, cX3_openRows, 4, (some .int), { frames := 2, cells := 0, slots := 0, locals := 45 }, fun _ _ => True)
def M_X3_closeRows : z_M := (yX3_closeRows, cX3_closeRows, 4, (some .int), { frames := 3, cells := 0, slots := 0, locals := 66 }, fun _ _ => True)
def M_X3_takeRow : z_M := (yX3_takeRow, cX3_takeRow, 2, none, { frames := 2, cells := 0, slots := 0, locals := 45 }, fun _ _ => True)
def M_X3_unmarkAbove : z_M := (yX3_unmarkAbove, cX3_unmarkAbove, 2, none, { frames := 1, cells := 0, slots := 0, locals := 21 }, fun _ _ => True)
def M_X3_carryBlank : z_M := (yX3_carryBlank, cX3_carryBlank, 5, none, { frames := 1, cells := 0, slots := 0, locals := 21 }, fun _ _ => True)
def M_X3_countedRows : z_M := (yX3_countedRows, cX3_countedRows, 3, (some .int), { frames := 1, cells := 0, slots := 0, locals := 24 }, fun _ _ => True)
def M_X3_endsLine : z_M := (yX3_endsLine, cX3_endsLine, 3, (some .boolean), { frames := 1, cells := 0, slots := 0, locals := 21 }, fun _ _ => True)
def M_X3_linesBefore : z_M := (yX3_linesBefore, cX3_linesBefore, 5, (some .int), { frames := 2, cells := 0, slots := 0, locals := 46 }, fun _ _ => True)
def M_X3_lines : z_M := (yX3_lines, cX3_lines, 1, (some .int), { frames := 3, cells := 0, slots := 0, locals := 70 }, fun _ _ => True)
def M_X3_startOfLine : z_M := (yX3_startOfLine, cX3_startOfLine, 5, (some .int), { frames := 2, cells := 0, slots := 0, locals := 46 }, fun _ _ => True)
def M_X3_startOf : z_M := (yX3_startOf, cX3_startOf, 3, (some .int), { frames := 1, cells := 0, slots := 0, locals := 21 }, fun _ _ => True)
def M_X3_endOf : z_M := (yX3_endOf, cX3_endOf, 4, (some .int), { frames := 2, cells := 0, slots := 0, locals := 46 }, fun _ _ => True)
def M_X3_cellsOfLine : z_M := (yX3_cellsOfLine, cX3_cellsOfLine, 4, (some .int), { frames := 1, cells := 0, slots := 0, locals := 21 }, fun _ _ => True)
def M_X3_signsOfLine : z_M := (yX3_signsOfLine, cX3_signsOfLine, 5, (some .int), { frames := 2, cells := 0, slots := 0, locals := 44 }, fun _ _ => True)
def M_X3_lineOf : z_M := (yX3_lineOf, cX3_lineOf, 2, (some .int), { frames := 3, cells := 0, slots := 0, locals := 70 }, fun _ _ => True)
def M_X3_markOf : z_M := (yX3_markOf, cX3_markOf, 7, (some .int), { frames := 2, cells := 0, slots := 0, locals := 46 }, fun _ _ => True)
def M_X4_init : z_M := (yX4_init, cX4_init, 2, none, { frames := 3, cells := 641, slots := 7149, locals := 65 }, fun _ _ => True)
def M_X4_feed : z_M := (yX4_feed, cX4_feed, 3, (some .int), { frames := 6, cells := 0, slots := 0, locals := 129 }, fun _ _ => True)
def M_X4_moveTo : z_M := (yX4_moveTo, cX4_moveTo, 4, (some .int), { frames := 4, cells := 0, slots := 0, locals := 104 }, fun _ _ => True)
def M_X4_setRegion : z_M := (yX4_setRegion, cX4_setRegion, 3, (some .int), { frames := 4, cells := 0, slots := 0, locals := 104 }, fun _ _ => True)
def M_X4_eraseLine : z_M := (yX4_eraseLine, cX4_eraseLine, 3, (some .int), { frames := 4, cells := 0, slots := 0, locals := 104 }, fun _ _ => True)
def M_X4_eraseScreen : z_M := (yX4_eraseScreen, cX4_eraseScreen, 3, (some .int), { frames := 4, cells := 0, slots := 0, locals := 104 }, fun _ _ => True)
def M_X4_insertRows : z_M := (yX4_insertRows, cX4_insertRows, 2, (some .int), { frames := 4, cells := 0, slots := 0, locals := 104 }, fun _ _ => True)
def M_X4_deleteRows : z_M := (yX4_deleteRows, cX4_deleteRows, 2, (some .int), { frames := 4, cells := 0, slots := 0, locals := 104 }, fun _ _ => True)
def M_X4_insertCells : z_M := (yX4_insertCells, cX4_insertCells, 4, (some .int), { frames := 4, cells := 0, slots := 0, locals := 104 }, fun _ _ => True)
def M_X4_deleteCells : z_M := (yX4_deleteCells, cX4_deleteCells, 4, (some .int), { frames := 4, cells := 0, slots := 0, locals := 104 }, fun _ _ => True)
def M_X4_keep : z_M := (yX4_keep, cX4_keep, 1, (some .int), { frames := 4, cells := 0, slots := 0, locals := 104 }, fun _ _ => True)
def M_X4_back : z_M := (yX4_back, cX4_back, 1, (some .int), { frames := 4, cells := 0, slots := 0, locals := 104 }, fun _ _ => True)
def M_X4_resize : z_M := (yX4_resize, cX4_resize, 4, (some .int), { frames := 6, cells := 0, slots := 0, locals := 155 }, fun _ _ => True)
def M_X4_cell : z_M := (yX4_cell, cX4_cell, 3, (some .int), { frames := 2, cells := 0, slots := 0, locals := 42 }, fun _ _ => True)
def M_X4_row : z_M := (yX4_row, cX4_row, 4, (some .int), { frames := 2, cells := 0, slots := 0, locals := 42 }, fun _ _ => True)
def M_X4_line : z_M := (yX4_line, cX4_line, 5, (some .int), { frames := 3, cells := 0, slots := 0, locals := 70 }, fun _ _ => True)
def M_X4_sign : z_M := (yX4_sign, cX4_sign, 4, (some .int), { frames := 5, cells := 0, slots := 0, locals := 111 }, fun _ _ => True)
def M_X4_cursor : z_M := (yX4_cursor, cX4_cursor, 4, (some .int), { frames := 4, cells := 0, slots := 0, locals := 91 }, fun _ _ => True)
def M_X4_ifWidth : z_M := (yX4_ifWidth, cX4_ifWidth, 2, (some .int), { frames := 5, cells := 0, slots := 0, locals := 118 }, fun _ _ => True)
def M_X4_widthFor : z_M := (yX4_widthFor, cX4_widthFor, 3, (some .int), { frames := 5, cells := 0, slots := 0, locals := 118 }, fun _ _ => True)
def M_X4_told : z_M := (yX4_told, cX4_told, 2, (some .int), { frames := 4, cells := 0, slots := 0, locals := 90 }, fun _ _ => True)
def M_X4_undo : z_M := (yX4_undo, cX4_undo, 1, (some .int), { frames := 3, cells := 0, slots := 0, locals := 83 }, fun _ _ => True)
def M_X4_digest : z_M := (yX4_digest, cX4_digest, 4, (some .long), { frames := 6, cells := 0, slots := 0, locals := 140 }, fun _ _ => True)
def M_X4_mix : z_M := (yX4_mix, cX4_mix, 3, (some .long), { frames := 0, cells := 0, slots := 0, locals := 0 }, fun _ _ => True)
def M_X4_mixRows : z_M := (yX4_mixRows, cX4_mixRows, 7, (some .long), { frames := 3, cells := 0, slots := 0, locals := 65 }, fun _ _ => True)
def M_X4_mixCells : z_M := (yX4_mixCells, cX4_mixCells, 7, (some .long), { frames := 3, cells := 0, slots := 0, locals := 64 }, fun _ _ => True)
def M_X4_mixLines : z_M := (yX4_mixLines, cX4_mixLines, 9, (some .long), { frames := 4, cells := 0, slots := 0, locals := 94 }, fun _ _ => True)
def M_X4_mixCursors : z_M := (yX4_mixCursors, cX4_mixCursors, 7, (some .long), { frames := 5, cells := 0, slots := 0, locals := 114 }, fun _ _ => True)
def M_X4_isControl : z_M := (yX4_isControl, cX4_isControl, 1, (some .boolean), { frames := 0, cells := 0, slots := 0, locals := 0 }, fun _ _ => True)
def M_X4_isWidth : z_M := (yX4_isWidth, cX4_isWidth, 1, (some .boolean), { frames := 0, cells := 0, slots := 0, locals := 0 }, fun _ _ => True)
def M_X4_sizeOf : z_M := (yX4_sizeOf, cX4_sizeOf, 1, (some .int), { frames := 0, cells := 0, slots := 0, locals := 0 }, fun _ _ => True)
def M_X4_obey : z_M := (yX4_obey, cX4_obey, 3, none, { frames := 4, cells := 0, slots := 0, locals := 87 }, fun _ _ => True)
def M_X4_stateAt : z_M := (yX4_stateAt, cX4_stateAt, 2, (some (.object "PouredScreen$Sheet")), { frames := 0, cells := 0, slots := 0, locals := 0 }, fun _ _ => True)
def M_X4_remember : z_M := (yX4_remember, cX4_remember, 2, (some (.object "PouredScreen$Sheet")), { frames := 3, cells := 0, slots := 0, locals := 83 }, fun _ _ => True)
def M_X5_init : z_M := (yX5_init, cX5_init, 2, none, { frames := 3, cells := 7, slots := 7195, locals := 64 }, fun _ _ => True)
def M_X5_in : z_M := (yX5_in, cX5_in, 3, (some .boolean), { frames := 0, cells := 0, slots := 0, locals := 0 }, fun _ _ => True)
def M_X5_records : z_M := (yX5_records, cX5_records, 2, none, { frames := 0, cells := 0, slots := 0, locals := 0 }, fun _ _ => True)
def M_X5_at : z_M := (yX5_at, cX5_at, 2, (some .int), { frames := 0, cells := 0, slots := 0, locals := 0 }, fun _ _ => True)
def M_X5_code : z_M := (yX5_code, cX5_code, 3, (some .int), { frames := 1, cells := 0, slots := 0, locals := 21 }, fun _ _ => True)
def M_X5_isIt : z_M := (yX5_isIt, cX5_isIt, 3, (some .boolean), { frames := 1, cells := 0, slots := 0, locals := 21 }, fun _ _ => True)
def M_X5_blanks : z_M := (yX5_blanks, cX5_blanks, 3, none, { frames := 2, cells := 0, slots := 0, locals := 42 }, fun _ _ => True)
def M_X5_unwraps : z_M := (yX5_unwraps, cX5_unwraps, 2, none, { frames := 1, cells := 0, slots := 0, locals := 21 }, fun _ _ => True)
def M_X5_copies : z_M := (yX5_copies, cX5_copies, 4, none, { frames := 1, cells := 0, slots := 0, locals := 21 }, fun _ _ => True)
def M_X5_isWide : z_M := (yX5_isWide, cX5_isWide, 1, (some .boolean), { frames := 1, cells := 0, slots := 0, locals := 22 }, fun _ _ => True)
def M_X5_isRight : z_M := (yX5_isRight, cX5_isRight, 1, (some .boolean), { frames := 0, cells := 0, slots := 0, locals := 0 }, fun _ _ => True)
def M_X5_unwrapsAhead : z_M := (yX5_unwrapsAhead, cX5_unwrapsAhead, 2, none, { frames := 2, cells := 0, slots := 0, locals := 42 }, fun _ _ => True)
def M_X5_sets : z_M := (yX5_sets, cX5_sets, 4, none, { frames := 2, cells := 0, slots := 0, locals := 42 }, fun _ _ => True)
def M_X5_frees : z_M := (yX5_frees, cX5_frees, 4, none, { frames := 3, cells := 0, slots := 0, locals := 65 }, fun _ _ => True)
def M_X5_erases : z_M := (yX5_erases, cX5_erases, 5, none, { frames := 4, cells := 0, slots := 0, locals := 88 }, fun _ _ => True)
def M_X5_usedCells : z_M := (yX5_usedCells, cX5_usedCells, 3, (some .int), { frames := 2, cells := 0, slots := 0, locals := 43 }, fun _ _ => True)
def M_X5_filled : z_M := (yX5_filled, cX5_filled, 4, (some .int), { frames := 2, cells := 0, slots := 0, locals := 43 }, fun _ _ => True)
def M_X5_filledAll : z_M := (yX5_filledAll, cX5_filledAll, 3, (some .int), { frames := 3, cells := 0, slots := 0, locals := 66 }, fun _ _ => True)
def M_X5_keepsRow : z_M := (yX5_keepsRow, cX5_keepsRow, 3, none, { frames := 2, cells := 0, slots := 0, locals := 44 }, fun _ _ => True)
def M_X5_scrolls : z_M := (yX5_scrolls, cX5_scrolls, 4, none, { frames := 3, cells := 0, slots := 0, locals := 66 }, fun _ _ => True)
def M_X5_feedsLine : z_M := (yX5_feedsLine, cX5_feedsLine, 1, (some .boolean), { frames := 4, cells := 0, slots := 0, locals := 89 }, fun _ _ => True)
def M_X5_goesOn : z_M := (yX5_goesOn, cX5_goesOn, 4, none, { frames := 5, cells := 0, slots := 0, locals := 109 }, fun _ _ => True)
def M_X5_writes : z_M := (yX5_writes, cX5_writes, 4, none, { frames := 6, cells := 0, slots := 0, locals := 132 }, fun _ _ => True)
def M_X5_moves : z_M := (yX5_moves, cX5_moves, 4, none, { frames := 5, cells := 0, slots := 0, locals := 109 }, fun _ _ => True)
def M_X5_feed : z_M := (yX5_feed, cX5_feed, 3, (some .int), { frames := 7, cells := 0, slots := 0, locals := 155 }, fun _ _ => True)
def M_X5_isRow : z_M := (yX5_isRow, cX5_isRow, 2, (some .boolean), { frames := 1, cells := 0, slots := 0, locals := 22 }, fun _ _ => True)
def M_X5_isColumn : z_M := (yX5_isColumn, cX5_isColumn, 2, (some .boolean), { frames := 1, cells := 0, slots := 0, locals := 22 }, fun _ _ => True)
def M_X5_goes : z_M := (yX5_goes, cX5_goes, 3, none, { frames := 0, cells := 0, slots := 0, locals := 0 }, fun _ _ => True)
def M_X5_moveTo : z_M := (yX5_moveTo, cX5_moveTo, 4, (some .int), { frames := 2, cells := 0, slots := 0, locals := 43 }, fun _ _ => True)
def M_X5_setRegion : z_M := (yX5_setRegion, cX5_setRegion, 3, (some .int), { frames := 2, cells := 0, slots := 0, locals := 43 }, fun _ _ => True)
def M_X5_erasesLine : z_M := (yX5_erasesLine, cX5_erasesLine, 4, none, { frames := 5, cells := 0, slots := 0, locals := 112 }, fun _ _ => True)
def M_X5_eraseLine : z_M := (yX5_eraseLine, cX5_eraseLine, 3, (some .int), { frames := 6, cells := 0, slots := 0, locals := 135 }, fun _ _ => True)
def M_X5_eraseScreen : z_M := (yX5_eraseScreen, cX5_eraseScreen, 5, (some .int), { frames := 6, cells := 0, slots := 0, locals := 135 }, fun _ _ => True)
def M_X5_isInRegion : z_M := (yX5_isInRegion, cX5_isInRegion, 1, (some .boolean), { frames := 1, cells := 0, slots := 0, locals := 22 }, fun _ _ => True)
def M_X5_filledRows : z_M := (yX5_filledRows, cX5_filledRows, 5, (some .int), { frames := 3, cells := 0, slots := 0, locals := 66 }, fun _ _ => True)
def M_X5_insertRows : z_M := (yX5_insertRows, cX5_insertRows, 7, (some .int), { frames := 4, cells := 0, slots := 0, locals := 90 }, fun _ _ => True)
def M_X5_deleteRows : z_M := (yX5_deleteRows, cX5_deleteRows, 7, (some .int), { frames := 4, cells := 0, slots := 0, locals := 90 }, fun _ _ => True)
def M_X5_splits : z_M := (yX5_splits, cX5_splits, 4, none, { frames := 2, cells := 0, slots := 0, locals := 43 }, fun _ _ => True)
def M_X5_insertCells : z_M := (yX5_insertCells, cX5_insertCells, 7, (some .int), { frames := 3, cells := 0, slots := 0, locals := 66 }, fun _ _ => True)
def M_X5_deleteCells : z_M := (yX5_deleteCells, cX5_deleteCells, 7, (some .int), { frames := 3, cells := 0, slots := 0, locals := 66 }, fun _ _ => True)
def M_X5_keep : z_M := (yX5_keep, cX5_keep, 1, (some .int), { frames := 1, cells := 0, slots := 0, locals := 21 }, fun _ _ => True)
def M_X5_back : z_M := (yX5_back, cX5_back, 1, (some .int), { frames := 1, cells := 0, slots := 0, locals := 22 }, fun _ _ => True)
def M_X5_counted : z_M := (yX5_counted, cX5_counted, 3, (some .int), { frames := 3, cells := 0, slots := 0, locals := 66 }, fun _ _ => True)
def M_X5_slot : z_M := (yX5_slot, cX5_slot, 2, (some .int), { frames := 0, cells := 0, slots := 0, locals := 0 }, fun _ _ => True)
def M_X5_lineEnd : z_M := (yX5_lineEnd, cX5_lineEnd, 4, (some .int), { frames := 2, cells := 0, slots := 0, locals := 43 }, fun _ _ => True)
def M_X5_lineBegin : z_M := (yX5_lineBegin, cX5_lineBegin, 5, (some .int), { frames := 3, cells := 0, slots := 0, locals := 66 }, fun _ _ => True)
def M_X5_lines : z_M := (yX5_lines, cX5_lines, 4, (some .int), { frames := 4, cells := 0, slots := 0, locals := 88 }, fun _ _ => True)
def M_X5_cellsOf : z_M := (yX5_cellsOf, cX5_cellsOf, 3, (some .int), { frames := 3, cells := 0, slots := 0, locals := 65 }, fun _ _ => True)
def M_X5_signsIn : z_M := (yX5_signsIn, cX5_signsIn, 5, (some .int), { frames := 2, cells := 0, slots := 0, locals := 43 }, fun _ _ => True)
def M_X5_signsOf : z_M := (yX5_signsOf, cX5_signsOf, 5, (some .int), { frames := 4, cells := 0, slots := 0, locals := 87 }, fun _ _ => True)
def M_X5_lineOf : z_M := (yX5_lineOf, cX5_lineOf, 6, (some .int), { frames := 5, cells := 0, slots := 0, locals := 111 }, fun _ _ => True)
def M_X5_line : z_M := (yX5_line, cX5_line, 5, (some .int), { frames := 6, cells := 0, slots := 0, locals := 136 }, fun _ _ => True)
def M_X5_signOf : z_M := (yX5_signOf, cX5_signOf, 9, (some .int), { frames := 4, cells := 0, slots := 0, locals := 87 }, fun _ _ => True)
def M_X5_sign : z_M := (yX5_sign, cX5_sign, 5, (some .int), { frames := 5, cells := 0, slots := 0, locals := 115 }, fun _ _ => True)
def M_X5_lineAt : z_M := (yX5_lineAt, cX5_lineAt, 6, (some .int), { frames := 4, cells := 0, slots := 0, locals := 88 }, fun _ _ => True)
def M_X5_markOf : z_M := (yX5_markOf, cX5_markOf, 9, (some .int), { frames := 5, cells := 0, slots := 0, locals := 113 }, fun _ _ => True)
def M_X5_rowOf : z_M := (yX5_rowOf, cX5_rowOf, 2, (some .int), { frames := 0, cells := 0, slots := 0, locals := 0 }, fun _ _ => True)
def M_X5_columnOf : z_M := (yX5_columnOf, cX5_columnOf, 2, (some .int), { frames := 0, cells := 0, slots := 0, locals := 0 }, fun _ _ => True)
def M_X5_cursorOf : z_M := (yX5_cursorOf, cX5_cursorOf, 4, (some .int), { frames := 6, cells := 0, slots := 0, locals := 141 }, fun _ _ => True)
def M_X5_cursor : z_M := (yX5_cursor, cX5_cursor, 3, (some .int), { frames := 7, cells := 0, slots := 0, locals := 164 }, fun _ _ => True)
def M_X5_lays : z_M := (yX5_lays, cX5_lays, 4, none, { frames := 0, cells := 0, slots := 0, locals := 0 }, fun _ _ => True)
def M_X5_pours : z_M := (yX5_pours, cX5_pours, 3, none, { frames := 2, cells := 0, slots := 0, locals := 42 }, fun _ _ => True)
def M_X5_meets : z_M := (yX5_meets, cX5_meets, 4, none, { frames := 0, cells := 0, slots := 0, locals := 0 }, fun _ _ => True)
def M_X5_ends : z_M := (yX5_ends, cX5_ends, 5, none, { frames := 0, cells := 0, slots := 0, locals := 0 }, fun _ _ => True)
def M_X5_poursAll : z_M := (yX5_poursAll, cX5_poursAll, 10, (some .int), { frames := 4, cells := 0, slots := 0, locals := 88 }, fun _ _ => True)
def M_X5_rowsWith : z_M := (yX5_rowsWith, cX5_rowsWith, 2, (some .int), { frames := 5, cells := 0, slots := 0, locals := 117 }, fun _ _ => True)
def M_X5_ifWidth : z_M := (yX5_ifWidth, cX5_ifWidth, 2, (some .int), { frames := 6, cells := 0, slots := 0, locals := 138 }, fun _ _ => True)
def M_X5_widthFor : z_M := (yX5_widthFor, cX5_widthFor, 3, (some .int), { frames := 6, cells := 0, slots := 0, locals := 138 }, fun _ _ => True)
def M_X5_marks : z_M := (yX5_marks, cX5_marks, 3, none, { frames := 7, cells := 0, slots := 0, locals := 164 }, fun _ _ => True)
def M_X5_takes : z_M := (yX5_takes, cX5_takes, 4, none, { frames := 1, cells := 0, slots := 0, locals := 21 }, fun _ _ => True)
def M_X5_resize : z_M := (yX5_resize, cX5_resize, 6, (some .int), { frames := 8, cells := 0, slots := 0, locals := 186 }, fun _ _ => True)
def M_X5_lands : z_M := (yX5_lands, cX5_lands, 6, none, { frames := 1, cells := 0, slots := 0, locals := 22 }, fun _ _ => True)
def M_X5_cell : z_M := (yX5_cell, cX5_cell, 4, (some .int), { frames := 2, cells := 0, slots := 0, locals := 43 }, fun _ _ => True)
def M_X5_signsFilled : z_M := (yX5_signsFilled, cX5_signsFilled, 4, (some .int), { frames := 2, cells := 0, slots := 0, locals := 43 }, fun _ _ => True)
def M_X5_rowOfSlot : z_M := (yX5_rowOfSlot, cX5_rowOfSlot, 3, (some .int), { frames := 3, cells := 0, slots := 0, locals := 66 }, fun _ _ => True)
def M_X5_row : z_M := (yX5_row, cX5_row, 3, (some .int), { frames := 4, cells := 0, slots := 0, locals := 88 }, fun _ _ => True)
def M_X5_told : z_M := (yX5_told, cX5_told, 2, (some .int), { frames := 5, cells := 0, slots := 0, locals := 111 }, fun _ _ => True)
def M_X5_undo : z_M := (yX5_undo, cX5_undo, 2, (some .int), { frames := 0, cells := 0, slots := 0, locals := 0 }, fun _ _ => True)
def M_X5_mixedLines : z_M := (yX5_mixedLines, cX5_mixedLines, 10, (some .long), { frames := 6, cells := 0, slots := 0, locals := 136 }, fun _ _ => True)
def M_X5_digest : z_M := (yX5_digest, cX5_digest, 5, (some .long), { frames := 7, cells := 0, slots := 0, locals := 165 }, fun _ _ => True)
def M_L_law : z_M := (yL_law, cL_law, 4, ret, room_1, fun _ _ => True)
theorem f_RX4_12 : z_F RX4 12 4 0 RX4 TX4 5 := ⟨rfl, by decide, Or.inl (z_tab 163 (by decide +kernel) rfl)⟩
theorem f_RX4_16 : z_F RX4 16 4 1 RX4 TX4 5 := ⟨rfl, by decide, Or.inl (z_tab 164 (by decide +kernel) rfl)⟩
theorem f_RX4_23 : z_F RX4 23 4 2 RX4 TX4 5 := ⟨rfl, by decide, Or.inl (z_tab 165 (by decide +kernel) rfl)⟩
theorem f_RX4_27 : z_F RX4 27 4 3 RX4 TX4 5 := ⟨rfl, by decide, Or.inl (z_tab 166 (by decide +kernel) rfl)⟩
theorem f_RX4_31 : z_F RX4 31 4 4 RX4 TX4 5 := ⟨rfl, by decide, Or.inl (z_tab 167 (by decide +kernel) rfl)⟩
theorem f_RX4_49 : z_F RX4 49 3 4 RX3 TX3 9 := ⟨rfl, by decide, Or.inr ⟨"PouredScreen", z_nst 85 (by decide +kernel) rfl⟩⟩
theorem f_RX4_56 : z_F RX4 56 3 5 RX3 TX3 9 := ⟨rfl, by decide, Or.inr ⟨"PouredScreen", z_nst 88 (by decide +kernel) rfl⟩⟩
theorem f_RX4_59 : z_F RX4 59 3 1 RX3 TX3 9 := ⟨rfl, by decide, Or.inr ⟨"PouredScreen", z_nst 78 (by decide +kernel) rfl⟩⟩
theorem f_RX4_63 : z_F RX4 63 0 0 RX0 TX0 3 := ⟨rfl, by decide, Or.inr ⟨"PouredScreen", z_nst 32 (by decide +kernel) rfl⟩⟩
theorem f_RX4_68 : z_F RX4 68 0 1 RX0 TX0 3 := ⟨rfl, by decide, Or.inr ⟨"PouredScreen", z_nst 36 (by decide +kernel) rfl⟩⟩
theorem f_RX4_75 : z_F RX4 75 3 6 RX3 TX3 9 := ⟨rfl, by decide, Or.inr ⟨"PouredScreen", z_nst 91 (by decide +kernel) rfl⟩⟩
theorem f_RX4_78 : z_F RX4 78 3 7 RX3 TX3 9 := ⟨rfl, by decide, Or.inr ⟨"PouredScreen", z_nst 93 (by decide +kernel) rfl⟩⟩
theorem f_RX4_81 : z_F RX4 81 3 8 RX3 TX3 9 := ⟨rfl, by decide, Or.inr ⟨"PouredScreen", z_nst 95 (by decide +kernel) rfl⟩⟩
theorem f_RX4_91 : z_F RX4 91 0 2 RX0 TX0 3 := ⟨rfl, by decide, Or.inr ⟨"PouredScreen", z_nst 39 (by decide +kernel) rfl⟩⟩
theorem f_RX4_129 : z_F RX4 129 3 3 RX3 TX3 9 := ⟨rfl, by decide, Or.inr ⟨"PouredScreen", z_nst 83 (by decide +kernel) rfl⟩⟩
theorem f_RX4_151 : z_F RX4 151 2 1 RX2 TX2 3 := ⟨rfl, by decide, Or.inr ⟨"PouredScreen", z_nst 63 (by decide +kernel) rfl⟩⟩
theorem f_RX4_154 : z_F RX4 154 2 2 RX2 TX2 3 := ⟨rfl, by decide, Or.inr ⟨"PouredScreen", z_nst 67 (by decide +kernel) rfl⟩⟩
theorem f_RX4_250 : z_F RX4 250 1 6 RX1 TX1 13 := ⟨rfl, by decide, Or.inr ⟨"PouredScreen", z_nst 129 (by decide +kernel) rfl⟩⟩
theorem f_RX0_7 : z_F RX0 7 0 0 RX0 TX0 3 := ⟨rfl, by decide, Or.inl (z_tab 31 (by decide +kernel) rfl)⟩
theorem f_RX0_13 : z_F RX0 13 0 1 RX0 TX0 3 := ⟨rfl, by decide, Or.inl (z_tab 35 (by decide +kernel) rfl)⟩
theorem f_RX0_16 : z_F RX0 16 0 2 RX0 TX0 3 := ⟨rfl, by decide, Or.inl (z_tab 38 (by decide +kernel) rfl)⟩
theorem f_RX1_9 : z_F RX1 9 1 0 RX1 TX1 13 := ⟨rfl, by decide, Or.inl (z_tab 122 (by decide +kernel) rfl)⟩
theorem f_RX1_15 : z_F RX1 15 1 1 RX1 TX1 13 := ⟨rfl, by decide, Or.inl (z_tab 123 (by decide +kernel) rfl)⟩
theorem f_RX1_19 : z_F RX1 19 1 2 RX1 TX1 13 := ⟨rfl, by decide, Or.inl (z_tab 124 (by decide +kernel) rfl)⟩
theorem f_RX1_22 : z_F RX1 22 1 3 RX1 TX1 13 := ⟨rfl, by decide, Or.inl (z_tab 125 (by decide +kernel) rfl)⟩
theorem f_RX1_25 : z_F RX1 25 1 4 RX1 TX1 13 := ⟨rfl, by decide, Or.inl (z_tab 126 (by decide +kernel) rfl)⟩
theorem f_RX1_28 : z_F RX1 28 1 5 RX1 TX1 13 := ⟨rfl, by decide, Or.inl (z_tab 127 (by decide +kernel) rfl)⟩
theorem f_RX1_31 : z_F RX1 31 1 6 RX1 TX1 13 := ⟨rfl, by decide, Or.inl (z_tab 128 (by decide +kernel) rfl)⟩
theorem f_RX1_34 : z_F RX1 34 1 7 RX1 TX1 13 := ⟨rfl, by decide, Or.inl (z_tab 130 (by decide +kernel) rfl)⟩
theorem f_RX1_37 : z_F RX1 37 1 8 RX1 TX1 13 := ⟨rfl, by decide, Or.inl (z_tab 131 (by decide +kernel) rfl)⟩
theorem f_RX1_40 : z_F RX1 40 1 9 RX1 TX1 13 := ⟨rfl, by decide, Or.inl (z_tab 132 (by decide +kernel) rfl)⟩
theorem f_RX1_43 : z_F RX1 43 1 10 RX1 TX1 13 := ⟨rfl, by decide, Or.inl (z_tab 133 (by decide +kernel) rfl)⟩
theorem f_RX1_46 : z_F RX1 46 1 11 RX1 TX1 13 := ⟨rfl, by decide, Or.inl (z_tab 134 (by decide +kernel) rfl)⟩
theorem f_RX1_50 : z_F RX1 50 1 12 RX1 TX1 13 := ⟨rfl, by decide, Or.inl (z_tab 135 (by decide +kernel) rfl)⟩
theorem f_RX1_72 : z_F RX1 72 3 5 RX3 TX3 9 := ⟨rfl, by decide, Or.inr ⟨"PouredScreen", z_nst 89 (by decide +kernel) rfl⟩⟩
theorem f_RX1_114 : z_F RX1 114 3 4 RX3 TX3 9 := ⟨rfl, by decide, Or.inr ⟨"PouredScreen", z_nst 86 (by decide +kernel) rfl⟩⟩
theorem f_RX1_121 : z_F RX1 121 3 1 RX3 TX3 9 := ⟨rfl, by decide, Or.inr ⟨"PouredScreen", z_nst 79 (by decide +kernel) rfl⟩⟩
theorem f_RX1_129 : z_F RX1 129 3 3 RX3 TX3 9 := ⟨rfl, by decide, Or.inr ⟨"PouredScreen", z_nst 82 (by decide +kernel) rfl⟩⟩
theorem f_RX1_136 : z_F RX1 136 0 2 RX0 TX0 3 := ⟨rfl, by decide, Or.inr ⟨"PouredScreen", z_nst 40 (by decide +kernel) rfl⟩⟩
theorem f_RX1_145 : z_F RX1 145 2 1 RX2 TX2 3 := ⟨rfl, by decide, Or.inr ⟨"PouredScreen", z_nst 61 (by decide +kernel) rfl⟩⟩
theorem f_RX1_148 : z_F RX1 148 2 2 RX2 TX2 3 := ⟨rfl, by decide, Or.inr ⟨"PouredScreen", z_nst 65 (by decide +kernel) rfl⟩⟩
theorem f_RX1_154 : z_F RX1 154 0 0 RX0 TX0 3 := ⟨rfl, by decide, Or.inr ⟨"PouredScreen", z_nst 34 (by decide +kernel) rfl⟩⟩
theorem f_RX2_9 : z_F RX2 9 2 0 RX2 TX2 3 := ⟨rfl, by decide, Or.inl (z_tab 59 (by decide +kernel) rfl)⟩
theorem f_RX2_18 : z_F RX2 18 2 1 RX2 TX2 3 := ⟨rfl, by decide, Or.inl (z_tab 60 (by decide +kernel) rfl)⟩
theorem f_RX2_22 : z_F RX2 22 2 2 RX2 TX2 3 := ⟨rfl, by decide, Or.inl (z_tab 64 (by decide +kernel) rfl)⟩
theorem f_RX3_11 : z_F RX3 11 3 0 RX3 TX3 9 := ⟨rfl, by decide, Or.inl (z_tab 76 (by decide +kernel) rfl)⟩
theorem f_RX3_20 : z_F RX3 20 3 1 RX3 TX3 9 := ⟨rfl, by decide, Or.inl (z_tab 77 (by decide +kernel) rfl)⟩
theorem f_RX3_24 : z_F RX3 24 3 2 RX3 TX3 9 := ⟨rfl, by decide, Or.inl (z_tab 80 (by decide +kernel) rfl)⟩
theorem f_RX3_28 : z_F RX3 28 3 3 RX3 TX3 9 := ⟨rfl, by decide, Or.inl (z_tab 81 (by decide +kernel) rfl)⟩
theorem f_RX3_32 : z_F RX3 32 3 4 RX3 TX3 9 := ⟨rfl, by decide, Or.inl (z_tab 84 (by decide +kernel) rfl)⟩
theorem f_RX3_35 : z_F RX3 35 3 5 RX3 TX3 9 := ⟨rfl, by decide, Or.inl (z_tab 87 (by decide +kernel) rfl)⟩
theorem f_RX3_38 : z_F RX3 38 3 6 RX3 TX3 9 := ⟨rfl, by decide, Or.inl (z_tab 90 (by decide +kernel) rfl)⟩
theorem f_RX3_41 : z_F RX3 41 3 7 RX3 TX3 9 := ⟨rfl, by decide, Or.inl (z_tab 92 (by decide +kernel) rfl)⟩
theorem f_RX3_44 : z_F RX3 44 3 8 RX3 TX3 9 := ⟨rfl, by decide, Or.inl (z_tab 94 (by decide +kernel) rfl)⟩
theorem f_RX3_66 : z_F RX3 66 0 0 RX0 TX0 3 := ⟨rfl, by decide, Or.inr ⟨"PouredScreen", z_nst 33 (by decide +kernel) rfl⟩⟩
theorem f_RX3_69 : z_F RX3 69 0 1 RX0 TX0 3 := ⟨rfl, by decide, Or.inr ⟨"PouredScreen", z_nst 37 (by decide +kernel) rfl⟩⟩
theorem f_RX3_83 : z_F RX3 83 0 2 RX0 TX0 3 := ⟨rfl, by decide, Or.inr ⟨"PouredScreen", z_nst 41 (by decide +kernel) rfl⟩⟩
theorem f_RX3_99 : z_F RX3 99 2 2 RX2 TX2 3 := ⟨rfl, by decide, Or.inr ⟨"PouredScreen", z_nst 66 (by decide +kernel) rfl⟩⟩
theorem f_RX3_105 : z_F RX3 105 2 1 RX2 TX2 3 := ⟨rfl, by decide, Or.inr ⟨"PouredScreen", z_nst 62 (by decide +kernel) rfl⟩⟩
theorem f_RX5_7 : z_F RX5 7 5 0 RX5 TX5 13 := ⟨rfl, by decide, Or.inl (z_tab 608 (by decide +kernel) rfl)⟩
theorem f_RX5_13 : z_F RX5 13 5 2 RX5 TX5 13 := ⟨rfl, by decide, Or.inl (z_tab 610 (by decide +kernel) rfl)⟩
theorem f_RX5_16 : z_F RX5 16 5 3 RX5 TX5 13 := ⟨rfl, by decide, Or.inl (z_tab 611 (by decide +kernel) rfl)⟩
theorem f_RX5_19 : z_F RX5 19 5 4 RX5 TX5 13 := ⟨rfl, by decide, Or.inl (z_tab 612 (by decide +kernel) rfl)⟩
theorem f_RX5_22 : z_F RX5 22 5 5 RX5 TX5 13 := ⟨rfl, by decide, Or.inl (z_tab 613 (by decide +kernel) rfl)⟩
theorem f_RX5_25 : z_F RX5 25 5 6 RX5 TX5 13 := ⟨rfl, by decide, Or.inl (z_tab 614 (by decide +kernel) rfl)⟩
theorem f_RX5_28 : z_F RX5 28 5 7 RX5 TX5 13 := ⟨rfl, by decide, Or.inl (z_tab 615 (by decide +kernel) rfl)⟩
theorem f_RX5_36 : z_F RX5 36 5 1 RX5 TX5 13 := ⟨rfl, by decide, Or.inl (z_tab 609 (by decide +kernel) rfl)⟩
theorem f_RX5_180 : z_F RX5 180 5 11 RX5 TX5 13 := ⟨rfl, by decide, Or.inl (z_tab 619 (by decide +kernel) rfl)⟩
theorem f_RX5_183 : z_F RX5 183 5 9 RX5 TX5 13 := ⟨rfl, by decide, Or.inl (z_tab 617 (by decide +kernel) rfl)⟩
theorem f_RX5_186 : z_F RX5 186 5 10 RX5 TX5 13 := ⟨rfl, by decide, Or.inl (z_tab 618 (by decide +kernel) rfl)⟩
theorem f_RX5_190 : z_F RX5 190 5 12 RX5 TX5 13 := ⟨rfl, by decide, Or.inl (z_tab 620 (by decide +kernel) rfl)⟩
theorem f_RX5_193 : z_F RX5 193 5 8 RX5 TX5 13 := ⟨rfl, by decide, Or.inl (z_tab 616 (by decide +kernel) rfl)⟩
theorem l_RX4_11 : z_LI RX4 11 yX3_init cX3_init 2 (none) 0 := ⟨⟨Or.inl (z_tab 19 (by decide +kernel) rfl), z_tab 21 (by decide +kernel) rfl, z_tab 2 (by decide +kernel) rfl, by decide +kernel, by decide +kernel, by decide +kernel⟩, rfl, z_tab 20 (by decide +kernel) rfl⟩
theorem l_RX4_22 : z_LI RX4 22 yX1_init cX1_init 1 (none) 0 := ⟨⟨Or.inr ⟨"PouredScreen", z_nst 118 (by decide +kernel) rfl⟩, z_tab 120 (by decide +kernel) rfl, z_tab 5 (by decide +kernel) rfl, by decide +kernel, by decide +kernel, by decide +kernel⟩, rfl, z_tab 119 (by decide +kernel) rfl⟩
theorem l_RX4_34 : z_LS RX4 34 yX4_isControl cX4_isControl 1 ((some .boolean)) 1 := ⟨⟨Or.inl (z_tab 183 (by decide +kernel) rfl), z_tab 185 (by decide +kernel) rfl, z_tab 1 (by decide +kernel) rfl, by decide +kernel, by decide +kernel, by decide +kernel⟩, z_tab 184 (by decide +kernel) rfl⟩
theorem l_RX4_38 : z_LV RX4 38 yX4_remember cX4_remember 2 ((some (.object "PouredScreen$Sheet"))) 0 := ⟨⟨Or.inl (z_tab 186 (by decide +kernel) rfl), z_tab 189 (by decide +kernel) rfl, z_tab 1 (by decide +kernel) rfl, by decide +kernel, by decide +kernel, by decide +kernel⟩, z_tab 188 (by decide +kernel) rfl, z_sel 0 (q := (yX4_remember, 5)) (by decide +kernel) rfl⟩
theorem l_RX4_42 : z_LV RX4 42 yX3_write cX3_write 2 (none) 1 := ⟨⟨Or.inl (z_tab 220 (by decide +kernel) rfl), z_tab 223 (by decide +kernel) rfl, z_tab 2 (by decide +kernel) rfl, by decide +kernel, by decide +kernel, by decide +kernel⟩, z_tab 221 (by decide +kernel) rfl, z_tab 222 (by decide +kernel) rfl⟩
theorem l_RX4_46 : z_LV RX4 46 yX4_obey cX4_obey 3 (none) 1 := ⟨⟨Or.inl (z_tab 282 (by decide +kernel) rfl), z_tab 285 (by decide +kernel) rfl, z_tab 1 (by decide +kernel) rfl, by decide +kernel, by decide +kernel, by decide +kernel⟩, z_tab 284 (by decide +kernel) rfl, z_sel 8 (q := (yX4_obey, 5)) (by decide +kernel) rfl⟩
theorem l_RX4_52 : z_LV RX4 52 yX3_hasCell cX3_hasCell 3 ((some .boolean)) 2 := ⟨⟨Or.inl (z_tab 294 (by decide +kernel) rfl), z_tab 297 (by decide +kernel) rfl, z_tab 2 (by decide +kernel) rfl, by decide +kernel, by decide +kernel, by decide +kernel⟩, z_tab 295 (by decide +kernel) rfl, z_tab 296 (by decide +kernel) rfl⟩
theorem l_RX4_71 : z_LV RX4 71 yX0_set cX0_set 3 (none) 2 := ⟨⟨Or.inl (z_tab 298 (by decide +kernel) rfl), z_tab 301 (by decide +kernel) rfl, z_tab 3 (by decide +kernel) rfl, by decide +kernel, by decide +kernel, by decide +kernel⟩, z_tab 299 (by decide +kernel) rfl, z_tab 300 (by decide +kernel) rfl⟩
theorem l_RX4_84 : z_LV RX4 84 yX3_taken cX3_taken 3 ((some .int)) 0 := ⟨⟨Or.inl (z_tab 310 (by decide +kernel) rfl), z_tab 313 (by decide +kernel) rfl, z_tab 2 (by decide +kernel) rfl, by decide +kernel, by decide +kernel, by decide +kernel⟩, z_tab 311 (by decide +kernel) rfl, z_tab 312 (by decide +kernel) rfl⟩
theorem l_RX4_88 : z_LV RX4 88 yX3_eraseInRow cX3_eraseInRow 4 (none) 1 := ⟨⟨Or.inl (z_tab 318 (by decide +kernel) rfl), z_tab 321 (by decide +kernel) rfl, z_tab 2 (by decide +kernel) rfl, by decide +kernel, by decide +kernel, by decide +kernel⟩, z_tab 319 (by decide +kernel) rfl, z_tab 320 (by decide +kernel) rfl⟩
theorem l_RX4_95 : z_LV RX4 95 yX3_eraseRows cX3_eraseRows 4 (none) 2 := ⟨⟨Or.inl (z_tab 327 (by decide +kernel) rfl), z_tab 330 (by decide +kernel) rfl, z_tab 2 (by decide +kernel) rfl, by decide +kernel, by decide +kernel, by decide +kernel⟩, z_tab 328 (by decide +kernel) rfl, z_tab 329 (by decide +kernel) rfl⟩
theorem l_RX4_98 : z_LV RX4 98 yX3_isCursorInRegion cX3_isCursorInRegion 1 ((some .boolean)) 0 := ⟨⟨Or.inl (z_tab 335 (by decide +kernel) rfl), z_tab 338 (by decide +kernel) rfl, z_tab 2 (by decide +kernel) rfl, by decide +kernel, by decide +kernel, by decide +kernel⟩, z_tab 336 (by decide +kernel) rfl, z_tab 337 (by decide +kernel) rfl⟩
theorem l_RX4_102 : z_LV RX4 102 yX3_openRows cX3_openRows 4 ((some .int)) 1 := ⟨⟨Or.inl (z_tab 339 (by decide +kernel) rfl), z_tab 342 (by decide +kernel) rfl, z_tab 2 (by decide +kernel) rfl, by decide +kernel, by decide +kernel, by decide +kernel⟩, z_tab 340 (by decide +kernel) rfl, z_tab 341 (by decide +kernel) rfl⟩
theorem l_RX4_106 : z_LV RX4 106 yX3_closeRows cX3_closeRows 4 ((some .int)) 1 := ⟨⟨Or.inl (z_tab 355 (by decide +kernel) rfl), z_tab 358 (by decide +kernel) rfl, z_tab 2 (by decide +kernel) rfl, by decide +kernel, by decide +kernel, by decide +kernel⟩, z_tab 356 (by decide +kernel) rfl, z_tab 357 (by decide +kernel) rfl⟩
theorem l_RX4_109 : z_LV RX4 109 yX3_screenRow cX3_screenRow 2 ((some (.object "PouredScreen$Row"))) 1 := ⟨⟨Or.inl (z_tab 363 (by decide +kernel) rfl), z_tab 256 (by decide +kernel) rfl, z_tab 2 (by decide +kernel) rfl, by decide +kernel, by decide +kernel, by decide +kernel⟩, z_tab 254 (by decide +kernel) rfl, z_tab 255 (by decide +kernel) rfl⟩
theorem l_RX4_113 : z_LV RX4 113 yX2_taken cX2_taken 6 ((some .int)) 0 := ⟨⟨Or.inl (z_tab 364 (by decide +kernel) rfl), z_tab 317 (by decide +kernel) rfl, z_tab 4 (by decide +kernel) rfl, by decide +kernel, by decide +kernel, by decide +kernel⟩, z_tab 315 (by decide +kernel) rfl, z_tab 316 (by decide +kernel) rfl⟩
theorem l_RX4_122 : z_LV RX4 122 yX2_openCells cX2_openCells 5 (none) 3 := ⟨⟨Or.inl (z_tab 365 (by decide +kernel) rfl), z_tab 368 (by decide +kernel) rfl, z_tab 4 (by decide +kernel) rfl, by decide +kernel, by decide +kernel, by decide +kernel⟩, z_tab 366 (by decide +kernel) rfl, z_tab 367 (by decide +kernel) rfl⟩
theorem l_RX4_126 : z_LV RX4 126 yX2_closeCells cX2_closeCells 5 (none) 3 := ⟨⟨Or.inl (z_tab 373 (by decide +kernel) rfl), z_tab 376 (by decide +kernel) rfl, z_tab 4 (by decide +kernel) rfl, by decide +kernel, by decide +kernel, by decide +kernel⟩, z_tab 374 (by decide +kernel) rfl, z_tab 375 (by decide +kernel) rfl⟩
theorem l_RX4_132 : z_LV RX4 132 yX3_keepCursor cX3_keepCursor 1 (none) 0 := ⟨⟨Or.inl (z_tab 381 (by decide +kernel) rfl), z_tab 384 (by decide +kernel) rfl, z_tab 2 (by decide +kernel) rfl, by decide +kernel, by decide +kernel, by decide +kernel⟩, z_tab 382 (by decide +kernel) rfl, z_tab 383 (by decide +kernel) rfl⟩
theorem l_RX4_135 : z_LV RX4 135 yX3_takeCursorBack cX3_takeCursorBack 1 (none) 0 := ⟨⟨Or.inl (z_tab 390 (by decide +kernel) rfl), z_tab 393 (by decide +kernel) rfl, z_tab 2 (by decide +kernel) rfl, by decide +kernel, by decide +kernel, by decide +kernel⟩, z_tab 391 (by decide +kernel) rfl, z_tab 392 (by decide +kernel) rfl⟩
theorem l_RX4_138 : z_LS RX4 138 yX4_isWidth cX4_isWidth 1 ((some .boolean)) 1 := ⟨⟨Or.inl (z_tab 398 (by decide +kernel) rfl), z_tab 400 (by decide +kernel) rfl, z_tab 1 (by decide +kernel) rfl, by decide +kernel, by decide +kernel, by decide +kernel⟩, z_tab 399 (by decide +kernel) rfl⟩
theorem l_RX4_141 : z_LV RX4 141 yX1_pour cX1_pour 10 ((some .int)) 4 := ⟨⟨Or.inl (z_tab 401 (by decide +kernel) rfl), z_tab 404 (by decide +kernel) rfl, z_tab 5 (by decide +kernel) rfl, by decide +kernel, by decide +kernel, by decide +kernel⟩, z_tab 402 (by decide +kernel) rfl, z_tab 403 (by decide +kernel) rfl⟩
theorem l_RX4_145 : z_LV RX4 145 yX2_at cX2_at 2 ((some .int)) 1 := ⟨⟨Or.inl (z_tab 488 (by decide +kernel) rfl), z_tab 272 (by decide +kernel) rfl, z_tab 4 (by decide +kernel) rfl, by decide +kernel, by decide +kernel, by decide +kernel⟩, z_tab 270 (by decide +kernel) rfl, z_tab 271 (by decide +kernel) rfl⟩
theorem l_RX4_157 : z_LV RX4 157 yX2_filled cX2_filled 2 ((some .int)) 0 := ⟨⟨Or.inl (z_tab 496 (by decide +kernel) rfl), z_tab 350 (by decide +kernel) rfl, z_tab 4 (by decide +kernel) rfl, by decide +kernel, by decide +kernel, by decide +kernel⟩, z_tab 348 (by decide +kernel) rfl, z_tab 349 (by decide +kernel) rfl⟩
theorem l_RX4_160 : z_LV RX4 160 yX2_signs cX2_signs 6 ((some .int)) 0 := ⟨⟨Or.inl (z_tab 497 (by decide +kernel) rfl), z_tab 500 (by decide +kernel) rfl, z_tab 4 (by decide +kernel) rfl, by decide +kernel, by decide +kernel, by decide +kernel⟩, z_tab 498 (by decide +kernel) rfl, z_tab 499 (by decide +kernel) rfl⟩
theorem l_RX4_163 : z_LV RX4 163 yX3_startOfLine cX3_startOfLine 5 ((some .int)) 1 := ⟨⟨Or.inl (z_tab 505 (by decide +kernel) rfl), z_tab 508 (by decide +kernel) rfl, z_tab 2 (by decide +kernel) rfl, by decide +kernel, by decide +kernel, by decide +kernel⟩, z_tab 506 (by decide +kernel) rfl, z_tab 507 (by decide +kernel) rfl⟩
theorem l_RX4_166 : z_LV RX4 166 yX3_endOf cX3_endOf 4 ((some .int)) 1 := ⟨⟨Or.inl (z_tab 509 (by decide +kernel) rfl), z_tab 477 (by decide +kernel) rfl, z_tab 2 (by decide +kernel) rfl, by decide +kernel, by decide +kernel, by decide +kernel⟩, z_tab 475 (by decide +kernel) rfl, z_tab 476 (by decide +kernel) rfl⟩
theorem l_RX4_169 : z_LV RX4 169 yX3_signsOfLine cX3_signsOfLine 5 ((some .int)) 2 := ⟨⟨Or.inl (z_tab 510 (by decide +kernel) rfl), z_tab 513 (by decide +kernel) rfl, z_tab 2 (by decide +kernel) rfl, by decide +kernel, by decide +kernel, by decide +kernel⟩, z_tab 511 (by decide +kernel) rfl, z_tab 512 (by decide +kernel) rfl⟩
theorem l_RX4_175 : z_LV RX4 175 yX1_signOf cX1_signOf 5 ((some .int)) 4 := ⟨⟨Or.inl (z_tab 518 (by decide +kernel) rfl), z_tab 521 (by decide +kernel) rfl, z_tab 5 (by decide +kernel) rfl, by decide +kernel, by decide +kernel, by decide +kernel⟩, z_tab 519 (by decide +kernel) rfl, z_tab 520 (by decide +kernel) rfl⟩
theorem l_RX4_179 : z_LV RX4 179 yX3_keptPlace cX3_keptPlace 2 ((some (.object "PouredScreen$Place"))) 1 := ⟨⟨Or.inl (z_tab 526 (by decide +kernel) rfl), z_tab 205 (by decide +kernel) rfl, z_tab 2 (by decide +kernel) rfl, by decide +kernel, by decide +kernel, by decide +kernel⟩, z_tab 203 (by decide +kernel) rfl, z_tab 204 (by decide +kernel) rfl⟩
theorem l_RX4_183 : z_LV RX4 183 yX3_lineOf cX3_lineOf 2 ((some .int)) 1 := ⟨⟨Or.inl (z_tab 527 (by decide +kernel) rfl), z_tab 530 (by decide +kernel) rfl, z_tab 2 (by decide +kernel) rfl, by decide +kernel, by decide +kernel, by decide +kernel⟩, z_tab 528 (by decide +kernel) rfl, z_tab 529 (by decide +kernel) rfl⟩
theorem l_RX4_187 : z_LV RX4 187 yX3_markOf cX3_markOf 7 ((some .int)) 1 := ⟨⟨Or.inl (z_tab 535 (by decide +kernel) rfl), z_tab 464 (by decide +kernel) rfl, z_tab 2 (by decide +kernel) rfl, by decide +kernel, by decide +kernel, by decide +kernel⟩, z_tab 462 (by decide +kernel) rfl, z_tab 463 (by decide +kernel) rfl⟩
theorem l_RX4_190 : z_LV RX4 190 yX1_rowsIn cX1_rowsIn 3 ((some .int)) 2 := ⟨⟨Or.inl (z_tab 540 (by decide +kernel) rfl), z_tab 408 (by decide +kernel) rfl, z_tab 5 (by decide +kernel) rfl, by decide +kernel, by decide +kernel, by decide +kernel⟩, z_tab 406 (by decide +kernel) rfl, z_tab 407 (by decide +kernel) rfl⟩
theorem l_RX4_194 : z_LV RX4 194 yX3_lines cX3_lines 1 ((some .int)) 0 := ⟨⟨Or.inl (z_tab 549 (by decide +kernel) rfl), z_tab 552 (by decide +kernel) rfl, z_tab 2 (by decide +kernel) rfl, by decide +kernel, by decide +kernel, by decide +kernel⟩, z_tab 550 (by decide +kernel) rfl, z_tab 551 (by decide +kernel) rfl⟩
theorem l_RX4_197 : z_LV RX4 197 yX3_countedRows cX3_countedRows 3 ((some .int)) 0 := ⟨⟨Or.inl (z_tab 553 (by decide +kernel) rfl), z_tab 412 (by decide +kernel) rfl, z_tab 2 (by decide +kernel) rfl, by decide +kernel, by decide +kernel, by decide +kernel⟩, z_tab 410 (by decide +kernel) rfl, z_tab 411 (by decide +kernel) rfl⟩
theorem l_RX4_200 : z_LV RX4 200 yX4_stateAt cX4_stateAt 2 ((some (.object "PouredScreen$Sheet"))) 1 := ⟨⟨Or.inl (z_tab 190 (by decide +kernel) rfl), z_tab 193 (by decide +kernel) rfl, z_tab 1 (by decide +kernel) rfl, by decide +kernel, by decide +kernel, by decide +kernel⟩, z_tab 192 (by decide +kernel) rfl, z_sel 1 (q := (yX4_stateAt, 5)) (by decide +kernel) rfl⟩
theorem l_RX4_204 : z_LV RX4 204 yX3_copyFrom cX3_copyFrom 3 (none) 1 := ⟨⟨Or.inl (z_tab 194 (by decide +kernel) rfl), z_tab 197 (by decide +kernel) rfl, z_tab 2 (by decide +kernel) rfl, by decide +kernel, by decide +kernel, by decide +kernel⟩, z_tab 195 (by decide +kernel) rfl, z_tab 196 (by decide +kernel) rfl⟩
theorem l_RX4_210 : z_LV RX4 210 yX4_told cX4_told 2 ((some .int)) 1 := ⟨⟨Or.inl (z_tab 563 (by decide +kernel) rfl), z_tab 548 (by decide +kernel) rfl, z_tab 1 (by decide +kernel) rfl, by decide +kernel, by decide +kernel, by decide +kernel⟩, z_tab 546 (by decide +kernel) rfl, z_tab 547 (by decide +kernel) rfl⟩
theorem l_RX4_213 : z_LS RX4 213 yX4_mix cX4_mix 3 ((some .long)) 2 := ⟨⟨Or.inl (z_tab 564 (by decide +kernel) rfl), z_tab 566 (by decide +kernel) rfl, z_tab 1 (by decide +kernel) rfl, by decide +kernel, by decide +kernel, by decide +kernel⟩, z_tab 565 (by decide +kernel) rfl⟩
theorem l_RX4_217 : z_LV RX4 217 yX4_mixRows cX4_mixRows 7 ((some .long)) 1 := ⟨⟨Or.inl (z_tab 568 (by decide +kernel) rfl), z_tab 571 (by decide +kernel) rfl, z_tab 1 (by decide +kernel) rfl, by decide +kernel, by decide +kernel, by decide +kernel⟩, z_tab 570 (by decide +kernel) rfl, z_sel 15 (q := (yX4_mixRows, 5)) (by decide +kernel) rfl⟩
theorem l_RX4_221 : z_LV RX4 221 yX4_mixCells cX4_mixCells 7 ((some .long)) 1 := ⟨⟨Or.inl (z_tab 573 (by decide +kernel) rfl), z_tab 576 (by decide +kernel) rfl, z_tab 1 (by decide +kernel) rfl, by decide +kernel, by decide +kernel, by decide +kernel⟩, z_tab 575 (by decide +kernel) rfl, z_sel 16 (q := (yX4_mixCells, 5)) (by decide +kernel) rfl⟩
theorem l_RX4_224 : z_LV RX4 224 yX4_mixLines cX4_mixLines 9 ((some .long)) 1 := ⟨⟨Or.inl (z_tab 578 (by decide +kernel) rfl), z_tab 581 (by decide +kernel) rfl, z_tab 1 (by decide +kernel) rfl, by decide +kernel, by decide +kernel, by decide +kernel⟩, z_tab 580 (by decide +kernel) rfl, z_sel 17 (q := (yX4_mixLines, 5)) (by decide +kernel) rfl⟩
theorem l_RX4_227 : z_LV RX4 227 yX4_mixCursors cX4_mixCursors 7 ((some .long)) 1 := ⟨⟨Or.inl (z_tab 585 (by decide +kernel) rfl), z_tab 588 (by decide +kernel) rfl, z_tab 1 (by decide +kernel) rfl, by decide +kernel, by decide +kernel, by decide +kernel⟩, z_tab 587 (by decide +kernel) rfl, z_sel 18 (q := (yX4_mixCursors, 5)) (by decide +kernel) rfl⟩
theorem l_RX4_230 : z_LV RX4 230 yX4_ifWidth cX4_ifWidth 2 ((some .int)) 1 := ⟨⟨Or.inl (z_tab 590 (by decide +kernel) rfl), z_tab 539 (by decide +kernel) rfl, z_tab 1 (by decide +kernel) rfl, by decide +kernel, by decide +kernel, by decide +kernel⟩, z_tab 537 (by decide +kernel) rfl, z_tab 538 (by decide +kernel) rfl⟩
theorem l_RX4_235 : z_LV RX4 235 yX4_row cX4_row 4 ((some .int)) 2 := ⟨⟨Or.inl (z_tab 572 (by decide +kernel) rfl), z_tab 495 (by decide +kernel) rfl, z_tab 1 (by decide +kernel) rfl, by decide +kernel, by decide +kernel, by decide +kernel⟩, z_tab 493 (by decide +kernel) rfl, z_tab 494 (by decide +kernel) rfl⟩
theorem l_RX4_237 : z_LV RX4 237 yX4_cell cX4_cell 3 ((some .int)) 2 := ⟨⟨Or.inl (z_tab 577 (by decide +kernel) rfl), z_tab 487 (by decide +kernel) rfl, z_tab 1 (by decide +kernel) rfl, by decide +kernel, by decide +kernel, by decide +kernel⟩, z_tab 485 (by decide +kernel) rfl, z_tab 486 (by decide +kernel) rfl⟩
theorem l_RX4_240 : z_LV RX4 240 yX4_line cX4_line 5 ((some .int)) 2 := ⟨⟨Or.inl (z_tab 582 (by decide +kernel) rfl), z_tab 504 (by decide +kernel) rfl, z_tab 1 (by decide +kernel) rfl, by decide +kernel, by decide +kernel, by decide +kernel⟩, z_tab 502 (by decide +kernel) rfl, z_tab 503 (by decide +kernel) rfl⟩
theorem l_RX4_243 : z_LV RX4 243 yX1_begin cX1_begin 5 (none) 4 := ⟨⟨Or.inl (z_tab 583 (by decide +kernel) rfl), z_tab 426 (by decide +kernel) rfl, z_tab 5 (by decide +kernel) rfl, by decide +kernel, by decide +kernel, by decide +kernel⟩, z_tab 424 (by decide +kernel) rfl, z_tab 425 (by decide +kernel) rfl⟩
theorem l_RX4_247 : z_LV RX4 247 yX1_next cX1_next 2 ((some .boolean)) 0 := ⟨⟨Or.inl (z_tab 584 (by decide +kernel) rfl), z_tab 434 (by decide +kernel) rfl, z_tab 5 (by decide +kernel) rfl, by decide +kernel, by decide +kernel, by decide +kernel⟩, z_tab 432 (by decide +kernel) rfl, z_tab 433 (by decide +kernel) rfl⟩
theorem l_RX4_253 : z_LV RX4 253 yX4_cursor cX4_cursor 4 ((some .int)) 2 := ⟨⟨Or.inl (z_tab 589 (by decide +kernel) rfl), z_tab 525 (by decide +kernel) rfl, z_tab 1 (by decide +kernel) rfl, by decide +kernel, by decide +kernel, by decide +kernel⟩, z_tab 523 (by decide +kernel) rfl, z_tab 524 (by decide +kernel) rfl⟩
theorem l_RX4_255 : z_LV RX4 255 yX3_lineFeed cX3_lineFeed 2 ((some .boolean)) 0 := ⟨⟨Or.inl (z_tab 289 (by decide +kernel) rfl), z_tab 231 (by decide +kernel) rfl, z_tab 2 (by decide +kernel) rfl, by decide +kernel, by decide +kernel, by decide +kernel⟩, z_tab 229 (by decide +kernel) rfl, z_tab 230 (by decide +kernel) rfl⟩
theorem l_RX1_53 : z_LV RX1 53 yX3_cellsOfLine cX3_cellsOfLine 4 ((some .int)) 2 := ⟨⟨Or.inl (z_tab 427 (by decide +kernel) rfl), z_tab 430 (by decide +kernel) rfl, z_tab 2 (by decide +kernel) rfl, by decide +kernel, by decide +kernel, by decide +kernel⟩, z_tab 428 (by decide +kernel) rfl, z_tab 429 (by decide +kernel) rfl⟩
theorem l_RX1_59 : z_LV RX1 59 yX3_rowAt cX3_rowAt 2 ((some (.object "PouredScreen$Row"))) 1 := ⟨⟨Or.inl (z_tab 435 (by decide +kernel) rfl), z_tab 209 (by decide +kernel) rfl, z_tab 2 (by decide +kernel) rfl, by decide +kernel, by decide +kernel, by decide +kernel⟩, z_tab 207 (by decide +kernel) rfl, z_tab 208 (by decide +kernel) rfl⟩
theorem l_RX1_63 : z_LV RX1 63 yX2_at cX2_at 2 ((some .int)) 1 := ⟨⟨Or.inl (z_tab 436 (by decide +kernel) rfl), z_tab 272 (by decide +kernel) rfl, z_tab 4 (by decide +kernel) rfl, by decide +kernel, by decide +kernel, by decide +kernel⟩, z_tab 270 (by decide +kernel) rfl, z_tab 271 (by decide +kernel) rfl⟩
theorem l_RX1_69 : z_LS RX1 69 yX4_sizeOf cX4_sizeOf 1 ((some .int)) 1 := ⟨⟨Or.inr ⟨"PouredScreen", z_nst 437 (by decide +kernel) rfl⟩, z_tab 259 (by decide +kernel) rfl, z_tab 1 (by decide +kernel) rfl, by decide +kernel, by decide +kernel, by decide +kernel⟩, z_tab 258 (by decide +kernel) rfl⟩
theorem l_RX1_73 : z_LV RX1 73 yX1_begin cX1_begin 5 (none) 4 := ⟨⟨Or.inl (z_tab 423 (by decide +kernel) rfl), z_tab 426 (by decide +kernel) rfl, z_tab 5 (by decide +kernel) rfl, by decide +kernel, by decide +kernel, by decide +kernel⟩, z_tab 424 (by decide +kernel) rfl, z_tab 425 (by decide +kernel) rfl⟩
theorem l_RX1_77 : z_LV RX1 77 yX1_readUpTo cX1_readUpTo 3 ((some .boolean)) 1 := ⟨⟨Or.inl (z_tab 478 (by decide +kernel) rfl), z_tab 481 (by decide +kernel) rfl, z_tab 5 (by decide +kernel) rfl, by decide +kernel, by decide +kernel, by decide +kernel⟩, z_tab 480 (by decide +kernel) rfl, z_sel 13 (q := (yX1_readUpTo, 13)) (by decide +kernel) rfl⟩
theorem l_RX1_81 : z_LV RX1 81 yX1_next cX1_next 2 ((some .boolean)) 0 := ⟨⟨Or.inl (z_tab 431 (by decide +kernel) rfl), z_tab 434 (by decide +kernel) rfl, z_tab 5 (by decide +kernel) rfl, by decide +kernel, by decide +kernel, by decide +kernel⟩, z_tab 432 (by decide +kernel) rfl, z_tab 433 (by decide +kernel) rfl⟩
theorem l_RX1_85 : z_LV RX1 85 yX3_countedRows cX3_countedRows 3 ((some .int)) 0 := ⟨⟨Or.inl (z_tab 409 (by decide +kernel) rfl), z_tab 412 (by decide +kernel) rfl, z_tab 2 (by decide +kernel) rfl, by decide +kernel, by decide +kernel, by decide +kernel⟩, z_tab 410 (by decide +kernel) rfl, z_tab 411 (by decide +kernel) rfl⟩
theorem l_RX1_89 : z_LV RX1 89 yX3_endsLine cX3_endsLine 3 ((some .boolean)) 2 := ⟨⟨Or.inl (z_tab 419 (by decide +kernel) rfl), z_tab 422 (by decide +kernel) rfl, z_tab 2 (by decide +kernel) rfl, by decide +kernel, by decide +kernel, by decide +kernel⟩, z_tab 420 (by decide +kernel) rfl, z_tab 421 (by decide +kernel) rfl⟩
theorem l_RX1_93 : z_LV RX1 93 yX1_rowsBefore cX1_rowsBefore 9 ((some .int)) 3 := ⟨⟨Or.inl (z_tab 415 (by decide +kernel) rfl), z_tab 418 (by decide +kernel) rfl, z_tab 5 (by decide +kernel) rfl, by decide +kernel, by decide +kernel, by decide +kernel⟩, z_tab 417 (by decide +kernel) rfl, z_sel 9 (q := (yX1_rowsBefore, 13)) (by decide +kernel) rfl⟩
theorem l_RX1_97 : z_LV RX1 97 yX1_rowsIn cX1_rowsIn 3 ((some .int)) 2 := ⟨⟨Or.inl (z_tab 405 (by decide +kernel) rfl), z_tab 408 (by decide +kernel) rfl, z_tab 5 (by decide +kernel) rfl, by decide +kernel, by decide +kernel, by decide +kernel⟩, z_tab 406 (by decide +kernel) rfl, z_tab 407 (by decide +kernel) rfl⟩
theorem l_RX1_107 : z_LV RX1 107 yX3_clear cX3_clear 7 (none) 2 := ⟨⟨Or.inl (z_tab 439 (by decide +kernel) rfl), z_tab 442 (by decide +kernel) rfl, z_tab 2 (by decide +kernel) rfl, by decide +kernel, by decide +kernel, by decide +kernel⟩, z_tab 440 (by decide +kernel) rfl, z_tab 441 (by decide +kernel) rfl⟩
theorem l_RX1_117 : z_LV RX1 117 yX1_pourLines cX1_pourLines 8 (none) 3 := ⟨⟨Or.inl (z_tab 444 (by decide +kernel) rfl), z_tab 447 (by decide +kernel) rfl, z_tab 5 (by decide +kernel) rfl, by decide +kernel, by decide +kernel, by decide +kernel⟩, z_tab 446 (by decide +kernel) rfl, z_sel 10 (q := (yX1_pourLines, 13)) (by decide +kernel) rfl⟩
theorem l_RX1_125 : z_LV RX1 125 yX1_follow cX1_follow 11 (none) 5 := ⟨⟨Or.inl (z_tab 453 (by decide +kernel) rfl), z_tab 456 (by decide +kernel) rfl, z_tab 5 (by decide +kernel) rfl, by decide +kernel, by decide +kernel, by decide +kernel⟩, z_tab 455 (by decide +kernel) rfl, z_sel 12 (q := (yX1_follow, 13)) (by decide +kernel) rfl⟩
theorem l_RX1_132 : z_LV RX1 132 yX3_keptPlace cX3_keptPlace 2 ((some (.object "PouredScreen$Place"))) 1 := ⟨⟨Or.inl (z_tab 483 (by decide +kernel) rfl), z_tab 205 (by decide +kernel) rfl, z_tab 2 (by decide +kernel) rfl, by decide +kernel, by decide +kernel, by decide +kernel⟩, z_tab 203 (by decide +kernel) rfl, z_tab 204 (by decide +kernel) rfl⟩
theorem l_RX1_141 : z_LV RX1 141 yX1_pourLine cX1_pourLine 5 (none) 2 := ⟨⟨Or.inl (z_tab 448 (by decide +kernel) rfl), z_tab 451 (by decide +kernel) rfl, z_tab 5 (by decide +kernel) rfl, by decide +kernel, by decide +kernel, by decide +kernel⟩, z_tab 450 (by decide +kernel) rfl, z_sel 11 (q := (yX1_pourLine, 13)) (by decide +kernel) rfl⟩
theorem l_RX1_151 : z_LV RX1 151 yX2_put cX2_put 3 (none) 2 := ⟨⟨Or.inl (z_tab 452 (by decide +kernel) rfl), z_tab 281 (by decide +kernel) rfl, z_tab 4 (by decide +kernel) rfl, by decide +kernel, by decide +kernel, by decide +kernel⟩, z_tab 279 (by decide +kernel) rfl, z_tab 280 (by decide +kernel) rfl⟩
theorem l_RX1_155 : z_LV RX1 155 yX3_startOf cX3_startOf 3 ((some .int)) 1 := ⟨⟨Or.inl (z_tab 457 (by decide +kernel) rfl), z_tab 460 (by decide +kernel) rfl, z_tab 2 (by decide +kernel) rfl, by decide +kernel, by decide +kernel, by decide +kernel⟩, z_tab 458 (by decide +kernel) rfl, z_tab 459 (by decide +kernel) rfl⟩
theorem l_RX1_158 : z_LV RX1 158 yX3_markOf cX3_markOf 7 ((some .int)) 1 := ⟨⟨Or.inl (z_tab 461 (by decide +kernel) rfl), z_tab 464 (by decide +kernel) rfl, z_tab 2 (by decide +kernel) rfl, by decide +kernel, by decide +kernel, by decide +kernel⟩, z_tab 462 (by decide +kernel) rfl, z_tab 463 (by decide +kernel) rfl⟩
theorem l_RX1_162 : z_LV RX1 162 yX3_endOf cX3_endOf 4 ((some .int)) 1 := ⟨⟨Or.inl (z_tab 474 (by decide +kernel) rfl), z_tab 477 (by decide +kernel) rfl, z_tab 2 (by decide +kernel) rfl, by decide +kernel, by decide +kernel, by decide +kernel⟩, z_tab 475 (by decide +kernel) rfl, z_tab 476 (by decide +kernel) rfl⟩
theorem l_RX1_165 : z_LV RX1 165 yX0_set cX0_set 3 (none) 2 := ⟨⟨Or.inl (z_tab 482 (by decide +kernel) rfl), z_tab 301 (by decide +kernel) rfl, z_tab 3 (by decide +kernel) rfl, by decide +kernel, by decide +kernel, by decide +kernel⟩, z_tab 299 (by decide +kernel) rfl, z_tab 300 (by decide +kernel) rfl⟩
theorem l_RX2_15 : z_LV RX2 15 yX2_clear cX2_clear 2 (none) 0 := ⟨⟨Or.inl (z_tab 55 (by decide +kernel) rfl), z_tab 58 (by decide +kernel) rfl, z_tab 4 (by decide +kernel) rfl, by decide +kernel, by decide +kernel, by decide +kernel⟩, z_tab 56 (by decide +kernel) rfl, z_tab 57 (by decide +kernel) rfl⟩
theorem l_RX2_31 : z_LV RX2 31 yX2_filled cX2_filled 2 ((some .int)) 0 := ⟨⟨Or.inl (z_tab 347 (by decide +kernel) rfl), z_tab 350 (by decide +kernel) rfl, z_tab 4 (by decide +kernel) rfl, by decide +kernel, by decide +kernel, by decide +kernel⟩, z_tab 348 (by decide +kernel) rfl, z_tab 349 (by decide +kernel) rfl⟩
theorem l_RX2_35 : z_LV RX2 35 yX2_at cX2_at 2 ((some .int)) 1 := ⟨⟨Or.inl (z_tab 269 (by decide +kernel) rfl), z_tab 272 (by decide +kernel) rfl, z_tab 4 (by decide +kernel) rfl, by decide +kernel, by decide +kernel, by decide +kernel⟩, z_tab 270 (by decide +kernel) rfl, z_tab 271 (by decide +kernel) rfl⟩
theorem l_RX2_39 : z_LV RX2 39 yX2_set cX2_set 3 (none) 2 := ⟨⟨Or.inl (z_tab 273 (by decide +kernel) rfl), z_tab 276 (by decide +kernel) rfl, z_tab 4 (by decide +kernel) rfl, by decide +kernel, by decide +kernel, by decide +kernel⟩, z_tab 275 (by decide +kernel) rfl, z_sel 7 (q := (yX2_set, 3)) (by decide +kernel) rfl⟩
theorem l_RX2_43 : z_LV RX2 43 yX2_unmark cX2_unmark 1 (none) 0 := ⟨⟨Or.inl (z_tab 277 (by decide +kernel) rfl), z_tab 239 (by decide +kernel) rfl, z_tab 4 (by decide +kernel) rfl, by decide +kernel, by decide +kernel, by decide +kernel⟩, z_tab 237 (by decide +kernel) rfl, z_tab 238 (by decide +kernel) rfl⟩
theorem l_RX2_46 : z_LS RX2 46 yX4_sizeOf cX4_sizeOf 1 ((some .int)) 1 := ⟨⟨Or.inr ⟨"PouredScreen", z_nst 264 (by decide +kernel) rfl⟩, z_tab 259 (by decide +kernel) rfl, z_tab 1 (by decide +kernel) rfl, by decide +kernel, by decide +kernel, by decide +kernel⟩, z_tab 258 (by decide +kernel) rfl⟩
theorem l_RX2_49 : z_LV RX2 49 yX2_erase cX2_erase 7 (none) 3 := ⟨⟨Or.inl (z_tab 265 (by decide +kernel) rfl), z_tab 268 (by decide +kernel) rfl, z_tab 4 (by decide +kernel) rfl, by decide +kernel, by decide +kernel, by decide +kernel⟩, z_tab 266 (by decide +kernel) rfl, z_tab 267 (by decide +kernel) rfl⟩
theorem l_RX2_53 : z_LV RX2 53 yX2_put cX2_put 3 (none) 2 := ⟨⟨Or.inl (z_tab 278 (by decide +kernel) rfl), z_tab 281 (by decide +kernel) rfl, z_tab 4 (by decide +kernel) rfl, by decide +kernel, by decide +kernel, by decide +kernel⟩, z_tab 279 (by decide +kernel) rfl, z_tab 280 (by decide +kernel) rfl⟩
theorem l_RX3_19 : z_LI RX3 19 yX0_init cX0_init 1 (none) 0 := ⟨⟨Or.inr ⟨"PouredScreen", z_nst 27 (by decide +kernel) rfl⟩, z_tab 29 (by decide +kernel) rfl, z_tab 3 (by decide +kernel) rfl, by decide +kernel, by decide +kernel, by decide +kernel⟩, rfl, z_tab 28 (by decide +kernel) rfl⟩
theorem l_RX3_47 : z_LI RX3 47 yX2_init cX2_init 1 (none) 0 := ⟨⟨Or.inl (z_tab 51 (by decide +kernel) rfl), z_tab 53 (by decide +kernel) rfl, z_tab 4 (by decide +kernel) rfl, by decide +kernel, by decide +kernel, by decide +kernel⟩, rfl, z_tab 52 (by decide +kernel) rfl⟩
theorem l_RX3_48 : z_LV RX3 48 yX0_copyFrom cX0_copyFrom 2 (none) 1 := ⟨⟨Or.inl (z_tab 198 (by decide +kernel) rfl), z_tab 201 (by decide +kernel) rfl, z_tab 3 (by decide +kernel) rfl, by decide +kernel, by decide +kernel, by decide +kernel⟩, z_tab 199 (by decide +kernel) rfl, z_tab 200 (by decide +kernel) rfl⟩
theorem l_RX3_52 : z_LV RX3 52 yX3_keptPlace cX3_keptPlace 2 ((some (.object "PouredScreen$Place"))) 1 := ⟨⟨Or.inl (z_tab 202 (by decide +kernel) rfl), z_tab 205 (by decide +kernel) rfl, z_tab 2 (by decide +kernel) rfl, by decide +kernel, by decide +kernel, by decide +kernel⟩, z_tab 203 (by decide +kernel) rfl, z_tab 204 (by decide +kernel) rfl⟩
theorem l_RX3_56 : z_LV RX3 56 yX3_rowAt cX3_rowAt 2 ((some (.object "PouredScreen$Row"))) 1 := ⟨⟨Or.inl (z_tab 206 (by decide +kernel) rfl), z_tab 209 (by decide +kernel) rfl, z_tab 2 (by decide +kernel) rfl, by decide +kernel, by decide +kernel, by decide +kernel⟩, z_tab 207 (by decide +kernel) rfl, z_tab 208 (by decide +kernel) rfl⟩
theorem l_RX3_60 : z_LV RX3 60 yX2_copyFrom cX2_copyFrom 2 (none) 1 := ⟨⟨Or.inl (z_tab 210 (by decide +kernel) rfl), z_tab 213 (by decide +kernel) rfl, z_tab 4 (by decide +kernel) rfl, by decide +kernel, by decide +kernel, by decide +kernel⟩, z_tab 211 (by decide +kernel) rfl, z_tab 212 (by decide +kernel) rfl⟩
theorem l_RX3_63 : z_LV RX3 63 yX2_clear cX2_clear 2 (none) 0 := ⟨⟨Or.inl (z_tab 244 (by decide +kernel) rfl), z_tab 58 (by decide +kernel) rfl, z_tab 4 (by decide +kernel) rfl, by decide +kernel, by decide +kernel, by decide +kernel⟩, z_tab 56 (by decide +kernel) rfl, z_tab 57 (by decide +kernel) rfl⟩
theorem l_RX3_72 : z_LV RX3 72 yX0_set cX0_set 3 (none) 2 := ⟨⟨Or.inl (z_tab 385 (by decide +kernel) rfl), z_tab 301 (by decide +kernel) rfl, z_tab 3 (by decide +kernel) rfl, by decide +kernel, by decide +kernel, by decide +kernel⟩, z_tab 299 (by decide +kernel) rfl, z_tab 300 (by decide +kernel) rfl⟩
theorem l_RX3_76 : z_LV RX3 76 yX3_screenRow cX3_screenRow 2 ((some (.object "PouredScreen$Row"))) 1 := ⟨⟨Or.inl (z_tab 253 (by decide +kernel) rfl), z_tab 256 (by decide +kernel) rfl, z_tab 2 (by decide +kernel) rfl, by decide +kernel, by decide +kernel, by decide +kernel⟩, z_tab 254 (by decide +kernel) rfl, z_tab 255 (by decide +kernel) rfl⟩
theorem l_RX3_79 : z_LV RX3 79 yX2_taken cX2_taken 6 ((some .int)) 0 := ⟨⟨Or.inl (z_tab 314 (by decide +kernel) rfl), z_tab 317 (by decide +kernel) rfl, z_tab 4 (by decide +kernel) rfl, by decide +kernel, by decide +kernel, by decide +kernel⟩, z_tab 315 (by decide +kernel) rfl, z_tab 316 (by decide +kernel) rfl⟩
theorem l_RX3_87 : z_LV RX3 87 yX3_goOn cX3_goOn 2 ((some .boolean)) 0 := ⟨⟨Or.inl (z_tab 224 (by decide +kernel) rfl), z_tab 227 (by decide +kernel) rfl, z_tab 2 (by decide +kernel) rfl, by decide +kernel, by decide +kernel, by decide +kernel⟩, z_tab 226 (by decide +kernel) rfl, z_sel 2 (q := (yX3_goOn, 9)) (by decide +kernel) rfl⟩
theorem l_RX3_91 : z_LS RX3 91 yX4_sizeOf cX4_sizeOf 1 ((some .int)) 1 := ⟨⟨Or.inr ⟨"PouredScreen", z_nst 257 (by decide +kernel) rfl⟩, z_tab 259 (by decide +kernel) rfl, z_tab 1 (by decide +kernel) rfl, by decide +kernel, by decide +kernel, by decide +kernel⟩, z_tab 258 (by decide +kernel) rfl⟩
theorem l_RX3_95 : z_LV RX3 95 yX2_overwrite cX2_overwrite 4 (none) 3 := ⟨⟨Or.inl (z_tab 260 (by decide +kernel) rfl), z_tab 263 (by decide +kernel) rfl, z_tab 4 (by decide +kernel) rfl, by decide +kernel, by decide +kernel, by decide +kernel⟩, z_tab 261 (by decide +kernel) rfl, z_tab 262 (by decide +kernel) rfl⟩
theorem l_RX3_102 : z_LV RX3 102 yX3_lineFeed cX3_lineFeed 2 ((some .boolean)) 0 := ⟨⟨Or.inl (z_tab 228 (by decide +kernel) rfl), z_tab 231 (by decide +kernel) rfl, z_tab 2 (by decide +kernel) rfl, by decide +kernel, by decide +kernel, by decide +kernel⟩, z_tab 229 (by decide +kernel) rfl, z_tab 230 (by decide +kernel) rfl⟩
theorem l_RX3_108 : z_LV RX3 108 yX3_pushTopRow cX3_pushTopRow 2 (none) 0 := ⟨⟨Or.inl (z_tab 232 (by decide +kernel) rfl), z_tab 235 (by decide +kernel) rfl, z_tab 2 (by decide +kernel) rfl, by decide +kernel, by decide +kernel, by decide +kernel⟩, z_tab 234 (by decide +kernel) rfl, z_sel 3 (q := (yX3_pushTopRow, 9)) (by decide +kernel) rfl⟩
theorem l_RX3_111 : z_LV RX3 111 yX3_takeRow cX3_takeRow 2 (none) 1 := ⟨⟨Or.inl (z_tab 245 (by decide +kernel) rfl), z_tab 248 (by decide +kernel) rfl, z_tab 2 (by decide +kernel) rfl, by decide +kernel, by decide +kernel, by decide +kernel⟩, z_tab 247 (by decide +kernel) rfl, z_sel 5 (q := (yX3_takeRow, 9)) (by decide +kernel) rfl⟩
theorem l_RX3_115 : z_LV RX3 115 yX2_unmark cX2_unmark 1 (none) 0 := ⟨⟨Or.inl (z_tab 236 (by decide +kernel) rfl), z_tab 239 (by decide +kernel) rfl, z_tab 4 (by decide +kernel) rfl, by decide +kernel, by decide +kernel, by decide +kernel⟩, z_tab 237 (by decide +kernel) rfl, z_tab 238 (by decide +kernel) rfl⟩
theorem l_RX3_118 : z_LV RX3 118 yX3_carryBlank cX3_carryBlank 5 (none) 2 := ⟨⟨Or.inl (z_tab 240 (by decide +kernel) rfl), z_tab 243 (by decide +kernel) rfl, z_tab 2 (by decide +kernel) rfl, by decide +kernel, by decide +kernel, by decide +kernel⟩, z_tab 242 (by decide +kernel) rfl, z_sel 4 (q := (yX3_carryBlank, 9)) (by decide +kernel) rfl⟩
theorem l_RX3_121 : z_LV RX3 121 yX2_erase cX2_erase 7 (none) 3 := ⟨⟨Or.inl (z_tab 322 (by decide +kernel) rfl), z_tab 268 (by decide +kernel) rfl, z_tab 4 (by decide +kernel) rfl, by decide +kernel, by decide +kernel, by decide +kernel⟩, z_tab 266 (by decide +kernel) rfl, z_tab 267 (by decide +kernel) rfl⟩
theorem l_RX3_124 : z_LV RX3 124 yX2_isBlank cX2_isBlank 1 ((some .boolean)) 0 := ⟨⟨Or.inl (z_tab 343 (by decide +kernel) rfl), z_tab 346 (by decide +kernel) rfl, z_tab 4 (by decide +kernel) rfl, by decide +kernel, by decide +kernel, by decide +kernel⟩, z_tab 344 (by decide +kernel) rfl, z_tab 345 (by decide +kernel) rfl⟩
theorem l_RX3_127 : z_LV RX3 127 yX3_unmarkAbove cX3_unmarkAbove 2 (none) 1 := ⟨⟨Or.inl (z_tab 249 (by decide +kernel) rfl), z_tab 252 (by decide +kernel) rfl, z_tab 2 (by decide +kernel) rfl, by decide +kernel, by decide +kernel, by decide +kernel⟩, z_tab 251 (by decide +kernel) rfl, z_sel 6 (q := (yX3_unmarkAbove, 9)) (by decide +kernel) rfl⟩
theorem l_RX3_136 : z_LV RX3 136 yX2_filled cX2_filled 2 ((some .int)) 0 := ⟨⟨Or.inl (z_tab 414 (by decide +kernel) rfl), z_tab 350 (by decide +kernel) rfl, z_tab 4 (by decide +kernel) rfl, by decide +kernel, by decide +kernel, by decide +kernel⟩, z_tab 348 (by decide +kernel) rfl, z_tab 349 (by decide +kernel) rfl⟩
theorem l_RX3_139 : z_LV RX3 139 yX3_countedRows cX3_countedRows 3 ((some .int)) 0 := ⟨⟨Or.inl (z_tab 471 (by decide +kernel) rfl), z_tab 412 (by decide +kernel) rfl, z_tab 2 (by decide +kernel) rfl, by decide +kernel, by decide +kernel, by decide +kernel⟩, z_tab 410 (by decide +kernel) rfl, z_tab 411 (by decide +kernel) rfl⟩
theorem l_RX3_142 : z_LV RX3 142 yX3_endsLine cX3_endsLine 3 ((some .boolean)) 2 := ⟨⟨Or.inl (z_tab 472 (by decide +kernel) rfl), z_tab 422 (by decide +kernel) rfl, z_tab 2 (by decide +kernel) rfl, by decide +kernel, by decide +kernel, by decide +kernel⟩, z_tab 420 (by decide +kernel) rfl, z_tab 421 (by decide +kernel) rfl⟩
theorem l_RX3_146 : z_LV RX3 146 yX3_linesBefore cX3_linesBefore 5 ((some .int)) 1 := ⟨⟨Or.inl (z_tab 531 (by decide +kernel) rfl), z_tab 534 (by decide +kernel) rfl, z_tab 2 (by decide +kernel) rfl, by decide +kernel, by decide +kernel, by decide +kernel⟩, z_tab 533 (by decide +kernel) rfl, z_sel 14 (q := (yX3_linesBefore, 9)) (by decide +kernel) rfl⟩
theorem l_RX3_149 : z_LV RX3 149 yX3_cellsOfLine cX3_cellsOfLine 4 ((some .int)) 2 := ⟨⟨Or.inl (z_tab 466 (by decide +kernel) rfl), z_tab 430 (by decide +kernel) rfl, z_tab 2 (by decide +kernel) rfl, by decide +kernel, by decide +kernel, by decide +kernel⟩, z_tab 428 (by decide +kernel) rfl, z_tab 429 (by decide +kernel) rfl⟩
theorem l_RX3_153 : z_LV RX3 153 yX2_signsBefore cX2_signsBefore 4 ((some .int)) 1 := ⟨⟨Or.inl (z_tab 467 (by decide +kernel) rfl), z_tab 470 (by decide +kernel) rfl, z_tab 4 (by decide +kernel) rfl, by decide +kernel, by decide +kernel, by decide +kernel⟩, z_tab 468 (by decide +kernel) rfl, z_tab 469 (by decide +kernel) rfl⟩
theorem l_RX3_156 : z_LV RX3 156 yX3_startOf cX3_startOf 3 ((some .int)) 1 := ⟨⟨Or.inl (z_tab 465 (by decide +kernel) rfl), z_tab 460 (by decide +kernel) rfl, z_tab 2 (by decide +kernel) rfl, by decide +kernel, by decide +kernel, by decide +kernel⟩, z_tab 458 (by decide +kernel) rfl, z_tab 459 (by decide +kernel) rfl⟩
theorem l_RL_9 : z_LI RL 9 yX4_init cX4_init 2 (none) 0 := ⟨⟨Or.inl (z_tab 11 (by decide +kernel) rfl), z_tab 13 (by decide +kernel) rfl, z_tab 1 (by decide +kernel) rfl, by decide +kernel, by decide +kernel, by decide +kernel⟩, rfl, z_tab 12 (by decide +kernel) rfl⟩
theorem l_RL_12 : z_LI RL 12 yX5_init cX5_init 2 (none) 0 := ⟨⟨Or.inl (z_tab 593 (by decide +kernel) rfl), z_tab 595 (by decide +kernel) rfl, z_tab 6 (by decide +kernel) rfl, by decide +kernel, by decide +kernel, by decide +kernel⟩, rfl, z_tab 594 (by decide +kernel) rfl⟩
theorem l_RL_13 : z_LV RL 13 yX4_feed cX4_feed 3 ((some .int)) 1 := ⟨⟨Or.inl (z_tab 179 (by decide +kernel) rfl), z_tab 182 (by decide +kernel) rfl, z_tab 1 (by decide +kernel) rfl, by decide +kernel, by decide +kernel, by decide +kernel⟩, z_tab 180 (by decide +kernel) rfl, z_tab 181 (by decide +kernel) rfl⟩
theorem l_RL_17 : z_LV RL 17 yX5_feed cX5_feed 3 ((some .int)) 1 := ⟨⟨Or.inl (z_tab 649 (by decide +kernel) rfl), z_tab 652 (by decide +kernel) rfl, z_tab 6 (by decide +kernel) rfl, by decide +kernel, by decide +kernel, by decide +kernel⟩, z_tab 650 (by decide +kernel) rfl, z_tab 651 (by decide +kernel) rfl⟩
theorem l_RL_18 : z_LV RL 18 yX4_moveTo cX4_moveTo 4 ((some .int)) 2 := ⟨⟨Or.inl (z_tab 290 (by decide +kernel) rfl), z_tab 293 (by decide +kernel) rfl, z_tab 1 (by decide +kernel) rfl, by decide +kernel, by decide +kernel, by decide +kernel⟩, z_tab 291 (by decide +kernel) rfl, z_tab 292 (by decide +kernel) rfl⟩
theorem l_RL_22 : z_LV RL 22 yX5_moveTo cX5_moveTo 4 ((some .int)) 2 := ⟨⟨Or.inl (z_tab 714 (by decide +kernel) rfl), z_tab 717 (by decide +kernel) rfl, z_tab 6 (by decide +kernel) rfl, by decide +kernel, by decide +kernel, by decide +kernel⟩, z_tab 715 (by decide +kernel) rfl, z_tab 716 (by decide +kernel) rfl⟩
theorem l_RL_23 : z_LV RL 23 yX4_setRegion cX4_setRegion 3 ((some .int)) 2 := ⟨⟨Or.inl (z_tab 302 (by decide +kernel) rfl), z_tab 305 (by decide +kernel) rfl, z_tab 1 (by decide +kernel) rfl, by decide +kernel, by decide +kernel, by decide +kernel⟩, z_tab 303 (by decide +kernel) rfl, z_tab 304 (by decide +kernel) rfl⟩
theorem l_RL_26 : z_LV RL 26 yX5_setRegion cX5_setRegion 3 ((some .int)) 2 := ⟨⟨Or.inl (z_tab 730 (by decide +kernel) rfl), z_tab 733 (by decide +kernel) rfl, z_tab 6 (by decide +kernel) rfl, by decide +kernel, by decide +kernel, by decide +kernel⟩, z_tab 731 (by decide +kernel) rfl, z_tab 732 (by decide +kernel) rfl⟩
theorem l_RL_27 : z_LV RL 27 yX4_eraseLine cX4_eraseLine 3 ((some .int)) 1 := ⟨⟨Or.inl (z_tab 306 (by decide +kernel) rfl), z_tab 309 (by decide +kernel) rfl, z_tab 1 (by decide +kernel) rfl, by decide +kernel, by decide +kernel, by decide +kernel⟩, z_tab 307 (by decide +kernel) rfl, z_tab 308 (by decide +kernel) rfl⟩
theorem l_RL_30 : z_LV RL 30 yX5_eraseLine cX5_eraseLine 3 ((some .int)) 1 := ⟨⟨Or.inl (z_tab 734 (by decide +kernel) rfl), z_tab 737 (by decide +kernel) rfl, z_tab 6 (by decide +kernel) rfl, by decide +kernel, by decide +kernel, by decide +kernel⟩, z_tab 735 (by decide +kernel) rfl, z_tab 736 (by decide +kernel) rfl⟩
theorem l_RL_31 : z_LV RL 31 yX4_eraseScreen cX4_eraseScreen 3 ((some .int)) 1 := ⟨⟨Or.inl (z_tab 323 (by decide +kernel) rfl), z_tab 326 (by decide +kernel) rfl, z_tab 1 (by decide +kernel) rfl, by decide +kernel, by decide +kernel, by decide +kernel⟩, z_tab 324 (by decide +kernel) rfl, z_tab 325 (by decide +kernel) rfl⟩
theorem l_RL_34 : z_LV RL 34 yX5_eraseScreen cX5_eraseScreen 5 ((some .int)) 1 := ⟨⟨Or.inl (z_tab 750 (by decide +kernel) rfl), z_tab 753 (by decide +kernel) rfl, z_tab 6 (by decide +kernel) rfl, by decide +kernel, by decide +kernel, by decide +kernel⟩, z_tab 751 (by decide +kernel) rfl, z_tab 752 (by decide +kernel) rfl⟩
theorem l_RL_35 : z_LV RL 35 yX4_insertRows cX4_insertRows 2 ((some .int)) 1 := ⟨⟨Or.inl (z_tab 331 (by decide +kernel) rfl), z_tab 334 (by decide +kernel) rfl, z_tab 1 (by decide +kernel) rfl, by decide +kernel, by decide +kernel, by decide +kernel⟩, z_tab 332 (by decide +kernel) rfl, z_tab 333 (by decide +kernel) rfl⟩
theorem l_RL_38 : z_LV RL 38 yX5_insertRows cX5_insertRows 7 ((some .int)) 1 := ⟨⟨Or.inl (z_tab 754 (by decide +kernel) rfl), z_tab 757 (by decide +kernel) rfl, z_tab 6 (by decide +kernel) rfl, by decide +kernel, by decide +kernel, by decide +kernel⟩, z_tab 755 (by decide +kernel) rfl, z_tab 756 (by decide +kernel) rfl⟩
theorem l_RL_39 : z_LV RL 39 yX4_deleteRows cX4_deleteRows 2 ((some .int)) 1 := ⟨⟨Or.inl (z_tab 351 (by decide +kernel) rfl), z_tab 354 (by decide +kernel) rfl, z_tab 1 (by decide +kernel) rfl, by decide +kernel, by decide +kernel, by decide +kernel⟩, z_tab 352 (by decide +kernel) rfl, z_tab 353 (by decide +kernel) rfl⟩
theorem l_RL_42 : z_LV RL 42 yX5_deleteRows cX5_deleteRows 7 ((some .int)) 1 := ⟨⟨Or.inl (z_tab 766 (by decide +kernel) rfl), z_tab 769 (by decide +kernel) rfl, z_tab 6 (by decide +kernel) rfl, by decide +kernel, by decide +kernel, by decide +kernel⟩, z_tab 767 (by decide +kernel) rfl, z_tab 768 (by decide +kernel) rfl⟩
theorem l_RL_43 : z_LV RL 43 yX4_insertCells cX4_insertCells 4 ((some .int)) 1 := ⟨⟨Or.inl (z_tab 359 (by decide +kernel) rfl), z_tab 362 (by decide +kernel) rfl, z_tab 1 (by decide +kernel) rfl, by decide +kernel, by decide +kernel, by decide +kernel⟩, z_tab 360 (by decide +kernel) rfl, z_tab 361 (by decide +kernel) rfl⟩
theorem l_RL_46 : z_LV RL 46 yX5_insertCells cX5_insertCells 7 ((some .int)) 1 := ⟨⟨Or.inl (z_tab 770 (by decide +kernel) rfl), z_tab 773 (by decide +kernel) rfl, z_tab 6 (by decide +kernel) rfl, by decide +kernel, by decide +kernel, by decide +kernel⟩, z_tab 771 (by decide +kernel) rfl, z_tab 772 (by decide +kernel) rfl⟩
theorem l_RL_47 : z_LV RL 47 yX4_deleteCells cX4_deleteCells 4 ((some .int)) 1 := ⟨⟨Or.inl (z_tab 369 (by decide +kernel) rfl), z_tab 372 (by decide +kernel) rfl, z_tab 1 (by decide +kernel) rfl, by decide +kernel, by decide +kernel, by decide +kernel⟩, z_tab 370 (by decide +kernel) rfl, z_tab 371 (by decide +kernel) rfl⟩
theorem l_RL_50 : z_LV RL 50 yX5_deleteCells cX5_deleteCells 7 ((some .int)) 1 := ⟨⟨Or.inl (z_tab 778 (by decide +kernel) rfl), z_tab 781 (by decide +kernel) rfl, z_tab 6 (by decide +kernel) rfl, by decide +kernel, by decide +kernel, by decide +kernel⟩, z_tab 779 (by decide +kernel) rfl, z_tab 780 (by decide +kernel) rfl⟩
theorem l_RL_51 : z_LV RL 51 yX4_keep cX4_keep 1 ((some .int)) 0 := ⟨⟨Or.inl (z_tab 377 (by decide +kernel) rfl), z_tab 380 (by decide +kernel) rfl, z_tab 1 (by decide +kernel) rfl, by decide +kernel, by decide +kernel, by decide +kernel⟩, z_tab 378 (by decide +kernel) rfl, z_tab 379 (by decide +kernel) rfl⟩
theorem l_RL_55 : z_LV RL 55 yX5_keep cX5_keep 1 ((some .int)) 0 := ⟨⟨Or.inl (z_tab 782 (by decide +kernel) rfl), z_tab 785 (by decide +kernel) rfl, z_tab 6 (by decide +kernel) rfl, by decide +kernel, by decide +kernel, by decide +kernel⟩, z_tab 783 (by decide +kernel) rfl, z_tab 784 (by decide +kernel) rfl⟩
theorem l_RL_56 : z_LV RL 56 yX4_back cX4_back 1 ((some .int)) 0 := ⟨⟨Or.inl (z_tab 386 (by decide +kernel) rfl), z_tab 389 (by decide +kernel) rfl, z_tab 1 (by decide +kernel) rfl, by decide +kernel, by decide +kernel, by decide +kernel⟩, z_tab 387 (by decide +kernel) rfl, z_tab 388 (by decide +kernel) rfl⟩
theorem l_RL_59 : z_LV RL 59 yX5_back cX5_back 1 ((some .int)) 0 := ⟨⟨Or.inl (z_tab 786 (by decide +kernel) rfl), z_tab 789 (by decide +kernel) rfl, z_tab 6 (by decide +kernel) rfl, by decide +kernel, by decide +kernel, by decide +kernel⟩, z_tab 787 (by decide +kernel) rfl, z_tab 788 (by decide +kernel) rfl⟩
theorem l_RL_60 : z_LV RL 60 yX4_resize cX4_resize 4 ((some .int)) 2 := ⟨⟨Or.inl (z_tab 394 (by decide +kernel) rfl), z_tab 397 (by decide +kernel) rfl, z_tab 1 (by decide +kernel) rfl, by decide +kernel, by decide +kernel, by decide +kernel⟩, z_tab 395 (by decide +kernel) rfl, z_tab 396 (by decide +kernel) rfl⟩
theorem l_RL_63 : z_LV RL 63 yX5_resize cX5_resize 6 ((some .int)) 2 := ⟨⟨Or.inl (z_tab 898 (by decide +kernel) rfl), z_tab 901 (by decide +kernel) rfl, z_tab 6 (by decide +kernel) rfl, by decide +kernel, by decide +kernel, by decide +kernel⟩, z_tab 899 (by decide +kernel) rfl, z_tab 900 (by decide +kernel) rfl⟩
theorem l_RL_64 : z_LV RL 64 yX4_cell cX4_cell 3 ((some .int)) 2 := ⟨⟨Or.inl (z_tab 484 (by decide +kernel) rfl), z_tab 487 (by decide +kernel) rfl, z_tab 1 (by decide +kernel) rfl, by decide +kernel, by decide +kernel, by decide +kernel⟩, z_tab 485 (by decide +kernel) rfl, z_tab 486 (by decide +kernel) rfl⟩
theorem l_RL_67 : z_LV RL 67 yX5_cell cX5_cell 4 ((some .int)) 2 := ⟨⟨Or.inl (z_tab 914 (by decide +kernel) rfl), z_tab 917 (by decide +kernel) rfl, z_tab 6 (by decide +kernel) rfl, by decide +kernel, by decide +kernel, by decide +kernel⟩, z_tab 915 (by decide +kernel) rfl, z_tab 916 (by decide +kernel) rfl⟩
theorem l_RL_68 : z_LV RL 68 yX4_row cX4_row 4 ((some .int)) 2 := ⟨⟨Or.inl (z_tab 492 (by decide +kernel) rfl), z_tab 495 (by decide +kernel) rfl, z_tab 1 (by decide +kernel) rfl, by decide +kernel, by decide +kernel, by decide +kernel⟩, z_tab 493 (by decide +kernel) rfl, z_tab 494 (by decide +kernel) rfl⟩
theorem l_RL_71 : z_LV RL 71 yX5_row cX5_row 3 ((some .int)) 2 := ⟨⟨Or.inl (z_tab 918 (by decide +kernel) rfl), z_tab 921 (by decide +kernel) rfl, z_tab 6 (by decide +kernel) rfl, by decide +kernel, by decide +kernel, by decide +kernel⟩, z_tab 919 (by decide +kernel) rfl, z_tab 920 (by decide +kernel) rfl⟩
theorem l_RL_72 : z_LV RL 72 yX4_line cX4_line 5 ((some .int)) 2 := ⟨⟨Or.inl (z_tab 501 (by decide +kernel) rfl), z_tab 504 (by decide +kernel) rfl, z_tab 1 (by decide +kernel) rfl, by decide +kernel, by decide +kernel, by decide +kernel⟩, z_tab 502 (by decide +kernel) rfl, z_tab 503 (by decide +kernel) rfl⟩
theorem l_RL_75 : z_LV RL 75 yX5_line cX5_line 5 ((some .int)) 2 := ⟨⟨Or.inl (z_tab 790 (by decide +kernel) rfl), z_tab 793 (by decide +kernel) rfl, z_tab 6 (by decide +kernel) rfl, by decide +kernel, by decide +kernel, by decide +kernel⟩, z_tab 791 (by decide +kernel) rfl, z_tab 792 (by decide +kernel) rfl⟩
theorem l_RL_76 : z_LV RL 76 yX4_sign cX4_sign 4 ((some .int)) 2 := ⟨⟨Or.inl (z_tab 514 (by decide +kernel) rfl), z_tab 517 (by decide +kernel) rfl, z_tab 1 (by decide +kernel) rfl, by decide +kernel, by decide +kernel, by decide +kernel⟩, z_tab 515 (by decide +kernel) rfl, z_tab 516 (by decide +kernel) rfl⟩
theorem l_RL_79 : z_LV RL 79 yX5_sign cX5_sign 5 ((some .int)) 2 := ⟨⟨Or.inl (z_tab 834 (by decide +kernel) rfl), z_tab 837 (by decide +kernel) rfl, z_tab 6 (by decide +kernel) rfl, by decide +kernel, by decide +kernel, by decide +kernel⟩, z_tab 835 (by decide +kernel) rfl, z_tab 836 (by decide +kernel) rfl⟩
theorem l_RL_80 : z_LV RL 80 yX4_cursor cX4_cursor 4 ((some .int)) 2 := ⟨⟨Or.inl (z_tab 522 (by decide +kernel) rfl), z_tab 525 (by decide +kernel) rfl, z_tab 1 (by decide +kernel) rfl, by decide +kernel, by decide +kernel, by decide +kernel⟩, z_tab 523 (by decide +kernel) rfl, z_tab 524 (by decide +kernel) rfl⟩
theorem l_RL_83 : z_LV RL 83 yX5_cursor cX5_cursor 3 ((some .int)) 2 := ⟨⟨Or.inl (z_tab 842 (by decide +kernel) rfl), z_tab 845 (by decide +kernel) rfl, z_tab 6 (by decide +kernel) rfl, by decide +kernel, by decide +kernel, by decide +kernel⟩, z_tab 843 (by decide +kernel) rfl, z_tab 844 (by decide +kernel) rfl⟩
theorem l_RL_84 : z_LV RL 84 yX4_ifWidth cX4_ifWidth 2 ((some .int)) 1 := ⟨⟨Or.inl (z_tab 536 (by decide +kernel) rfl), z_tab 539 (by decide +kernel) rfl, z_tab 1 (by decide +kernel) rfl, by decide +kernel, by decide +kernel, by decide +kernel⟩, z_tab 537 (by decide +kernel) rfl, z_tab 538 (by decide +kernel) rfl⟩
theorem l_RL_87 : z_LV RL 87 yX5_ifWidth cX5_ifWidth 2 ((some .int)) 1 := ⟨⟨Or.inl (z_tab 866 (by decide +kernel) rfl), z_tab 869 (by decide +kernel) rfl, z_tab 6 (by decide +kernel) rfl, by decide +kernel, by decide +kernel, by decide +kernel⟩, z_tab 867 (by decide +kernel) rfl, z_tab 868 (by decide +kernel) rfl⟩
theorem l_RL_88 : z_LV RL 88 yX4_widthFor cX4_widthFor 3 ((some .int)) 1 := ⟨⟨Or.inl (z_tab 541 (by decide +kernel) rfl), z_tab 544 (by decide +kernel) rfl, z_tab 1 (by decide +kernel) rfl, by decide +kernel, by decide +kernel, by decide +kernel⟩, z_tab 542 (by decide +kernel) rfl, z_tab 543 (by decide +kernel) rfl⟩
theorem l_RL_91 : z_LV RL 91 yX5_widthFor cX5_widthFor 3 ((some .int)) 1 := ⟨⟨Or.inl (z_tab 894 (by decide +kernel) rfl), z_tab 897 (by decide +kernel) rfl, z_tab 6 (by decide +kernel) rfl, by decide +kernel, by decide +kernel, by decide +kernel⟩, z_tab 895 (by decide +kernel) rfl, z_tab 896 (by decide +kernel) rfl⟩
theorem l_RL_92 : z_LV RL 92 yX4_told cX4_told 2 ((some .int)) 1 := ⟨⟨Or.inl (z_tab 545 (by decide +kernel) rfl), z_tab 548 (by decide +kernel) rfl, z_tab 1 (by decide +kernel) rfl, by decide +kernel, by decide +kernel, by decide +kernel⟩, z_tab 546 (by decide +kernel) rfl, z_tab 547 (by decide +kernel) rfl⟩
theorem l_RL_95 : z_LV RL 95 yX5_told cX5_told 2 ((some .int)) 1 := ⟨⟨Or.inl (z_tab 930 (by decide +kernel) rfl), z_tab 933 (by decide +kernel) rfl, z_tab 6 (by decide +kernel) rfl, by decide +kernel, by decide +kernel, by decide +kernel⟩, z_tab 931 (by decide +kernel) rfl, z_tab 932 (by decide +kernel) rfl⟩
theorem l_RL_96 : z_LV RL 96 yX4_undo cX4_undo 1 ((some .int)) 0 := ⟨⟨Or.inl (z_tab 554 (by decide +kernel) rfl), z_tab 557 (by decide +kernel) rfl, z_tab 1 (by decide +kernel) rfl, by decide +kernel, by decide +kernel, by decide +kernel⟩, z_tab 555 (by decide +kernel) rfl, z_tab 556 (by decide +kernel) rfl⟩
theorem l_RL_99 : z_LV RL 99 yX5_undo cX5_undo 2 ((some .int)) 0 := ⟨⟨Or.inl (z_tab 938 (by decide +kernel) rfl), z_tab 941 (by decide +kernel) rfl, z_tab 6 (by decide +kernel) rfl, by decide +kernel, by decide +kernel, by decide +kernel⟩, z_tab 939 (by decide +kernel) rfl, z_tab 940 (by decide +kernel) rfl⟩
theorem l_RL_100 : z_LV RL 100 yX4_digest cX4_digest 4 ((some .long)) 0 := ⟨⟨Or.inl (z_tab 558 (by decide +kernel) rfl), z_tab 561 (by decide +kernel) rfl, z_tab 1 (by decide +kernel) rfl, by decide +kernel, by decide +kernel, by decide +kernel⟩, z_tab 559 (by decide +kernel) rfl, z_tab 560 (by decide +kernel) rfl⟩
theorem l_RL_104 : z_LV RL 104 yX5_digest cX5_digest 5 ((some .long)) 0 := ⟨⟨Or.inl (z_tab 942 (by decide +kernel) rfl), z_tab 945 (by decide +kernel) rfl, z_tab 6 (by decide +kernel) rfl, by decide +kernel, by decide +kernel, by decide +kernel⟩, z_tab 943 (by decide +kernel) rfl, z_tab 944 (by decide +kernel) rfl⟩
theorem l_RX5_32 : z_LV RX5 32 yX5_blanks cX5_blanks 3 (none) 1 := ⟨⟨Or.inl (z_tab 597 (by decide +kernel) rfl), z_tab 600 (by decide +kernel) rfl, z_tab 6 (by decide +kernel) rfl, by decide +kernel, by decide +kernel, by decide +kernel⟩, z_tab 599 (by decide +kernel) rfl, z_sel 19 (q := (yX5_blanks, 13)) (by decide +kernel) rfl⟩
theorem l_RX5_40 : z_LS RX5 40 yX5_at cX5_at 2 ((some .int)) 2 := ⟨⟨Or.inl (z_tab 601 (by decide +kernel) rfl), z_tab 603 (by decide +kernel) rfl, z_tab 6 (by decide +kernel) rfl, by decide +kernel, by decide +kernel, by decide +kernel⟩, z_tab 602 (by decide +kernel) rfl⟩
theorem l_RX5_44 : z_LV RX5 44 yX5_unwraps cX5_unwraps 2 (none) 1 := ⟨⟨Or.inl (z_tab 604 (by decide +kernel) rfl), z_tab 607 (by decide +kernel) rfl, z_tab 6 (by decide +kernel) rfl, by decide +kernel, by decide +kernel, by decide +kernel⟩, z_tab 606 (by decide +kernel) rfl, z_sel 20 (q := (yX5_unwraps, 13)) (by decide +kernel) rfl⟩
theorem l_RX5_47 : z_LS RX5 47 yX5_in cX5_in 3 ((some .boolean)) 3 := ⟨⟨Or.inl (z_tab 653 (by decide +kernel) rfl), z_tab 655 (by decide +kernel) rfl, z_tab 6 (by decide +kernel) rfl, by decide +kernel, by decide +kernel, by decide +kernel⟩, z_tab 654 (by decide +kernel) rfl⟩
theorem l_RX5_51 : z_LV RX5 51 yX5_code cX5_code 3 ((some .int)) 2 := ⟨⟨Or.inl (z_tab 703 (by decide +kernel) rfl), z_tab 706 (by decide +kernel) rfl, z_tab 6 (by decide +kernel) rfl, by decide +kernel, by decide +kernel, by decide +kernel⟩, z_tab 705 (by decide +kernel) rfl, z_sel 32 (q := (yX5_code, 13)) (by decide +kernel) rfl⟩
theorem l_RX5_54 : z_LS RX5 54 yX5_isRight cX5_isRight 1 ((some .boolean)) 1 := ⟨⟨Or.inl (z_tab 707 (by decide +kernel) rfl), z_tab 709 (by decide +kernel) rfl, z_tab 6 (by decide +kernel) rfl, by decide +kernel, by decide +kernel, by decide +kernel⟩, z_tab 708 (by decide +kernel) rfl⟩
theorem l_RX5_58 : z_LV RX5 58 yX5_sets cX5_sets 4 (none) 3 := ⟨⟨Or.inl (z_tab 710 (by decide +kernel) rfl), z_tab 713 (by decide +kernel) rfl, z_tab 6 (by decide +kernel) rfl, by decide +kernel, by decide +kernel, by decide +kernel⟩, z_tab 712 (by decide +kernel) rfl, z_sel 33 (q := (yX5_sets, 13)) (by decide +kernel) rfl⟩
theorem l_RX5_62 : z_LS RX5 62 yX5_isWide cX5_isWide 1 ((some .boolean)) 1 := ⟨⟨Or.inl (z_tab 692 (by decide +kernel) rfl), z_tab 694 (by decide +kernel) rfl, z_tab 6 (by decide +kernel) rfl, by decide +kernel, by decide +kernel, by decide +kernel⟩, z_tab 693 (by decide +kernel) rfl⟩
theorem l_RX5_65 : z_LV RX5 65 yX5_frees cX5_frees 4 (none) 3 := ⟨⟨Or.inl (z_tab 699 (by decide +kernel) rfl), z_tab 702 (by decide +kernel) rfl, z_tab 6 (by decide +kernel) rfl, by decide +kernel, by decide +kernel, by decide +kernel⟩, z_tab 701 (by decide +kernel) rfl, z_sel 31 (q := (yX5_frees, 13)) (by decide +kernel) rfl⟩
theorem l_RX5_68 : z_LV RX5 68 yX5_filled cX5_filled 4 ((some .int)) 1 := ⟨⟨Or.inl (z_tab 742 (by decide +kernel) rfl), z_tab 745 (by decide +kernel) rfl, z_tab 6 (by decide +kernel) rfl, by decide +kernel, by decide +kernel, by decide +kernel⟩, z_tab 744 (by decide +kernel) rfl, z_sel 38 (q := (yX5_filled, 13)) (by decide +kernel) rfl⟩
theorem l_RX5_72 : z_LV RX5 72 yX5_copies cX5_copies 4 (none) 2 := ⟨⟨Or.inl (z_tab 676 (by decide +kernel) rfl), z_tab 679 (by decide +kernel) rfl, z_tab 6 (by decide +kernel) rfl, by decide +kernel, by decide +kernel, by decide +kernel⟩, z_tab 678 (by decide +kernel) rfl, z_sel 26 (q := (yX5_copies, 13)) (by decide +kernel) rfl⟩
theorem l_RX5_76 : z_LV RX5 76 yX5_keepsRow cX5_keepsRow 3 (none) 1 := ⟨⟨Or.inl (z_tab 672 (by decide +kernel) rfl), z_tab 675 (by decide +kernel) rfl, z_tab 6 (by decide +kernel) rfl, by decide +kernel, by decide +kernel, by decide +kernel⟩, z_tab 674 (by decide +kernel) rfl, z_sel 25 (q := (yX5_keepsRow, 13)) (by decide +kernel) rfl⟩
theorem l_RX5_79 : z_LV RX5 79 yX5_unwrapsAhead cX5_unwrapsAhead 2 (none) 1 := ⟨⟨Or.inl (z_tab 680 (by decide +kernel) rfl), z_tab 683 (by decide +kernel) rfl, z_tab 6 (by decide +kernel) rfl, by decide +kernel, by decide +kernel, by decide +kernel⟩, z_tab 682 (by decide +kernel) rfl, z_sel 27 (q := (yX5_unwrapsAhead, 13)) (by decide +kernel) rfl⟩
theorem l_RX5_82 : z_LV RX5 82 yX5_scrolls cX5_scrolls 4 (none) 0 := ⟨⟨Or.inl (z_tab 668 (by decide +kernel) rfl), z_tab 671 (by decide +kernel) rfl, z_tab 6 (by decide +kernel) rfl, by decide +kernel, by decide +kernel, by decide +kernel⟩, z_tab 670 (by decide +kernel) rfl, z_sel 24 (q := (yX5_scrolls, 13)) (by decide +kernel) rfl⟩
theorem l_RX5_85 : z_LV RX5 85 yX5_feedsLine cX5_feedsLine 1 ((some .boolean)) 0 := ⟨⟨Or.inl (z_tab 664 (by decide +kernel) rfl), z_tab 667 (by decide +kernel) rfl, z_tab 6 (by decide +kernel) rfl, by decide +kernel, by decide +kernel, by decide +kernel⟩, z_tab 666 (by decide +kernel) rfl, z_sel 23 (q := (yX5_feedsLine, 13)) (by decide +kernel) rfl⟩
theorem l_RX5_89 : z_LV RX5 89 yX5_goesOn cX5_goesOn 4 (none) 1 := ⟨⟨Or.inl (z_tab 688 (by decide +kernel) rfl), z_tab 691 (by decide +kernel) rfl, z_tab 6 (by decide +kernel) rfl, by decide +kernel, by decide +kernel, by decide +kernel⟩, z_tab 690 (by decide +kernel) rfl, z_sel 29 (q := (yX5_goesOn, 13)) (by decide +kernel) rfl⟩
theorem l_RX5_93 : z_LV RX5 93 yX5_erases cX5_erases 5 (none) 3 := ⟨⟨Or.inl (z_tab 695 (by decide +kernel) rfl), z_tab 698 (by decide +kernel) rfl, z_tab 6 (by decide +kernel) rfl, by decide +kernel, by decide +kernel, by decide +kernel⟩, z_tab 697 (by decide +kernel) rfl, z_sel 30 (q := (yX5_erases, 13)) (by decide +kernel) rfl⟩
theorem l_RX5_96 : z_LV RX5 96 yX5_records cX5_records 2 (none) 0 := ⟨⟨Or.inl (z_tab 656 (by decide +kernel) rfl), z_tab 659 (by decide +kernel) rfl, z_tab 6 (by decide +kernel) rfl, by decide +kernel, by decide +kernel, by decide +kernel⟩, z_tab 658 (by decide +kernel) rfl, z_sel 21 (q := (yX5_records, 13)) (by decide +kernel) rfl⟩
theorem l_RX5_99 : z_LV RX5 99 yX5_moves cX5_moves 4 (none) 1 := ⟨⟨Or.inl (z_tab 660 (by decide +kernel) rfl), z_tab 663 (by decide +kernel) rfl, z_tab 6 (by decide +kernel) rfl, by decide +kernel, by decide +kernel, by decide +kernel⟩, z_tab 662 (by decide +kernel) rfl, z_sel 22 (q := (yX5_moves, 13)) (by decide +kernel) rfl⟩
theorem l_RX5_102 : z_LV RX5 102 yX5_writes cX5_writes 4 (none) 1 := ⟨⟨Or.inl (z_tab 684 (by decide +kernel) rfl), z_tab 687 (by decide +kernel) rfl, z_tab 6 (by decide +kernel) rfl, by decide +kernel, by decide +kernel, by decide +kernel⟩, z_tab 686 (by decide +kernel) rfl, z_sel 28 (q := (yX5_writes, 13)) (by decide +kernel) rfl⟩
theorem l_RX5_105 : z_LV RX5 105 yX5_isRow cX5_isRow 2 ((some .boolean)) 1 := ⟨⟨Or.inl (z_tab 718 (by decide +kernel) rfl), z_tab 721 (by decide +kernel) rfl, z_tab 6 (by decide +kernel) rfl, by decide +kernel, by decide +kernel, by decide +kernel⟩, z_tab 720 (by decide +kernel) rfl, z_sel 34 (q := (yX5_isRow, 13)) (by decide +kernel) rfl⟩
theorem l_RX5_108 : z_LV RX5 108 yX5_isColumn cX5_isColumn 2 ((some .boolean)) 1 := ⟨⟨Or.inl (z_tab 722 (by decide +kernel) rfl), z_tab 725 (by decide +kernel) rfl, z_tab 6 (by decide +kernel) rfl, by decide +kernel, by decide +kernel, by decide +kernel⟩, z_tab 724 (by decide +kernel) rfl, z_sel 35 (q := (yX5_isColumn, 13)) (by decide +kernel) rfl⟩
theorem l_RX5_111 : z_LV RX5 111 yX5_goes cX5_goes 3 (none) 2 := ⟨⟨Or.inl (z_tab 726 (by decide +kernel) rfl), z_tab 729 (by decide +kernel) rfl, z_tab 6 (by decide +kernel) rfl, by decide +kernel, by decide +kernel, by decide +kernel⟩, z_tab 728 (by decide +kernel) rfl, z_sel 36 (q := (yX5_goes, 13)) (by decide +kernel) rfl⟩
theorem l_RX5_114 : z_LV RX5 114 yX5_filledAll cX5_filledAll 3 ((some .int)) 0 := ⟨⟨Or.inl (z_tab 738 (by decide +kernel) rfl), z_tab 741 (by decide +kernel) rfl, z_tab 6 (by decide +kernel) rfl, by decide +kernel, by decide +kernel, by decide +kernel⟩, z_tab 740 (by decide +kernel) rfl, z_sel 37 (q := (yX5_filledAll, 13)) (by decide +kernel) rfl⟩
theorem l_RX5_118 : z_LV RX5 118 yX5_erasesLine cX5_erasesLine 4 (none) 1 := ⟨⟨Or.inl (z_tab 746 (by decide +kernel) rfl), z_tab 749 (by decide +kernel) rfl, z_tab 6 (by decide +kernel) rfl, by decide +kernel, by decide +kernel, by decide +kernel⟩, z_tab 748 (by decide +kernel) rfl, z_sel 39 (q := (yX5_erasesLine, 13)) (by decide +kernel) rfl⟩
theorem l_RX5_121 : z_LV RX5 121 yX5_isInRegion cX5_isInRegion 1 ((some .boolean)) 0 := ⟨⟨Or.inl (z_tab 758 (by decide +kernel) rfl), z_tab 761 (by decide +kernel) rfl, z_tab 6 (by decide +kernel) rfl, by decide +kernel, by decide +kernel, by decide +kernel⟩, z_tab 760 (by decide +kernel) rfl, z_sel 40 (q := (yX5_isInRegion, 13)) (by decide +kernel) rfl⟩
theorem l_RX5_124 : z_LV RX5 124 yX5_filledRows cX5_filledRows 5 ((some .int)) 2 := ⟨⟨Or.inl (z_tab 762 (by decide +kernel) rfl), z_tab 765 (by decide +kernel) rfl, z_tab 6 (by decide +kernel) rfl, by decide +kernel, by decide +kernel, by decide +kernel⟩, z_tab 764 (by decide +kernel) rfl, z_sel 41 (q := (yX5_filledRows, 13)) (by decide +kernel) rfl⟩
theorem l_RX5_127 : z_LV RX5 127 yX5_splits cX5_splits 4 (none) 1 := ⟨⟨Or.inl (z_tab 774 (by decide +kernel) rfl), z_tab 777 (by decide +kernel) rfl, z_tab 6 (by decide +kernel) rfl, by decide +kernel, by decide +kernel, by decide +kernel⟩, z_tab 776 (by decide +kernel) rfl, z_sel 42 (q := (yX5_splits, 13)) (by decide +kernel) rfl⟩
theorem l_RX5_130 : z_LV RX5 130 yX5_slot cX5_slot 2 ((some .int)) 1 := ⟨⟨Or.inl (z_tab 806 (by decide +kernel) rfl), z_tab 809 (by decide +kernel) rfl, z_tab 6 (by decide +kernel) rfl, by decide +kernel, by decide +kernel, by decide +kernel⟩, z_tab 808 (by decide +kernel) rfl, z_sel 46 (q := (yX5_slot, 13)) (by decide +kernel) rfl⟩
theorem l_RX5_133 : z_LV RX5 133 yX5_isIt cX5_isIt 3 ((some .boolean)) 2 := ⟨⟨Or.inl (z_tab 810 (by decide +kernel) rfl), z_tab 813 (by decide +kernel) rfl, z_tab 6 (by decide +kernel) rfl, by decide +kernel, by decide +kernel, by decide +kernel⟩, z_tab 812 (by decide +kernel) rfl, z_sel 47 (q := (yX5_isIt, 13)) (by decide +kernel) rfl⟩
theorem l_RX5_137 : z_LV RX5 137 yX5_lineEnd cX5_lineEnd 4 ((some .int)) 2 := ⟨⟨Or.inl (z_tab 802 (by decide +kernel) rfl), z_tab 805 (by decide +kernel) rfl, z_tab 6 (by decide +kernel) rfl, by decide +kernel, by decide +kernel, by decide +kernel⟩, z_tab 804 (by decide +kernel) rfl, z_sel 45 (q := (yX5_lineEnd, 13)) (by decide +kernel) rfl⟩
theorem l_RX5_140 : z_LV RX5 140 yX5_counted cX5_counted 3 ((some .int)) 0 := ⟨⟨Or.inl (z_tab 794 (by decide +kernel) rfl), z_tab 797 (by decide +kernel) rfl, z_tab 6 (by decide +kernel) rfl, by decide +kernel, by decide +kernel, by decide +kernel⟩, z_tab 796 (by decide +kernel) rfl, z_sel 43 (q := (yX5_counted, 13)) (by decide +kernel) rfl⟩
theorem l_RX5_143 : z_LV RX5 143 yX5_usedCells cX5_usedCells 3 ((some .int)) 1 := ⟨⟨Or.inl (z_tab 826 (by decide +kernel) rfl), z_tab 829 (by decide +kernel) rfl, z_tab 6 (by decide +kernel) rfl, by decide +kernel, by decide +kernel, by decide +kernel⟩, z_tab 828 (by decide +kernel) rfl, z_sel 51 (q := (yX5_usedCells, 13)) (by decide +kernel) rfl⟩
theorem l_RX5_146 : z_LV RX5 146 yX5_cellsOf cX5_cellsOf 3 ((some .int)) 2 := ⟨⟨Or.inl (z_tab 822 (by decide +kernel) rfl), z_tab 825 (by decide +kernel) rfl, z_tab 6 (by decide +kernel) rfl, by decide +kernel, by decide +kernel, by decide +kernel⟩, z_tab 824 (by decide +kernel) rfl, z_sel 50 (q := (yX5_cellsOf, 13)) (by decide +kernel) rfl⟩
theorem l_RX5_149 : z_LV RX5 149 yX5_signsIn cX5_signsIn 5 ((some .int)) 2 := ⟨⟨Or.inl (z_tab 830 (by decide +kernel) rfl), z_tab 833 (by decide +kernel) rfl, z_tab 6 (by decide +kernel) rfl, by decide +kernel, by decide +kernel, by decide +kernel⟩, z_tab 832 (by decide +kernel) rfl, z_sel 52 (q := (yX5_signsIn, 13)) (by decide +kernel) rfl⟩
theorem l_RX5_152 : z_LV RX5 152 yX5_signsOf cX5_signsOf 5 ((some .int)) 2 := ⟨⟨Or.inl (z_tab 818 (by decide +kernel) rfl), z_tab 821 (by decide +kernel) rfl, z_tab 6 (by decide +kernel) rfl, by decide +kernel, by decide +kernel, by decide +kernel⟩, z_tab 820 (by decide +kernel) rfl, z_sel 49 (q := (yX5_signsOf, 13)) (by decide +kernel) rfl⟩
theorem l_RX5_155 : z_LV RX5 155 yX5_lineBegin cX5_lineBegin 5 ((some .int)) 2 := ⟨⟨Or.inl (z_tab 798 (by decide +kernel) rfl), z_tab 801 (by decide +kernel) rfl, z_tab 6 (by decide +kernel) rfl, by decide +kernel, by decide +kernel, by decide +kernel⟩, z_tab 800 (by decide +kernel) rfl, z_sel 44 (q := (yX5_lineBegin, 13)) (by decide +kernel) rfl⟩
theorem l_RX5_158 : z_LV RX5 158 yX5_lineOf cX5_lineOf 6 ((some .int)) 3 := ⟨⟨Or.inl (z_tab 814 (by decide +kernel) rfl), z_tab 817 (by decide +kernel) rfl, z_tab 6 (by decide +kernel) rfl, by decide +kernel, by decide +kernel, by decide +kernel⟩, z_tab 816 (by decide +kernel) rfl, z_sel 48 (q := (yX5_lineOf, 13)) (by decide +kernel) rfl⟩
theorem l_RX5_162 : z_LV RX5 162 yX5_signOf cX5_signOf 9 ((some .int)) 3 := ⟨⟨Or.inl (z_tab 838 (by decide +kernel) rfl), z_tab 841 (by decide +kernel) rfl, z_tab 6 (by decide +kernel) rfl, by decide +kernel, by decide +kernel, by decide +kernel⟩, z_tab 840 (by decide +kernel) rfl, z_sel 53 (q := (yX5_signOf, 13)) (by decide +kernel) rfl⟩
theorem l_RX5_165 : z_LV RX5 165 yX5_lineAt cX5_lineAt 6 ((some .int)) 1 := ⟨⟨Or.inl (z_tab 858 (by decide +kernel) rfl), z_tab 861 (by decide +kernel) rfl, z_tab 6 (by decide +kernel) rfl, by decide +kernel, by decide +kernel, by decide +kernel⟩, z_tab 860 (by decide +kernel) rfl, z_sel 57 (q := (yX5_lineAt, 13)) (by decide +kernel) rfl⟩
theorem l_RX5_168 : z_LV RX5 168 yX5_columnOf cX5_columnOf 2 ((some .int)) 1 := ⟨⟨Or.inl (z_tab 850 (by decide +kernel) rfl), z_tab 853 (by decide +kernel) rfl, z_tab 6 (by decide +kernel) rfl, by decide +kernel, by decide +kernel, by decide +kernel⟩, z_tab 852 (by decide +kernel) rfl, z_sel 55 (q := (yX5_columnOf, 13)) (by decide +kernel) rfl⟩
theorem l_RX5_171 : z_LV RX5 171 yX5_rowOf cX5_rowOf 2 ((some .int)) 1 := ⟨⟨Or.inl (z_tab 854 (by decide +kernel) rfl), z_tab 857 (by decide +kernel) rfl, z_tab 6 (by decide +kernel) rfl, by decide +kernel, by decide +kernel, by decide +kernel⟩, z_tab 856 (by decide +kernel) rfl, z_sel 56 (q := (yX5_rowOf, 13)) (by decide +kernel) rfl⟩
theorem l_RX5_174 : z_LV RX5 174 yX5_markOf cX5_markOf 9 ((some .int)) 2 := ⟨⟨Or.inl (z_tab 862 (by decide +kernel) rfl), z_tab 865 (by decide +kernel) rfl, z_tab 6 (by decide +kernel) rfl, by decide +kernel, by decide +kernel, by decide +kernel⟩, z_tab 864 (by decide +kernel) rfl, z_sel 58 (q := (yX5_markOf, 13)) (by decide +kernel) rfl⟩
theorem l_RX5_177 : z_LV RX5 177 yX5_cursorOf cX5_cursorOf 4 ((some .int)) 2 := ⟨⟨Or.inl (z_tab 846 (by decide +kernel) rfl), z_tab 849 (by decide +kernel) rfl, z_tab 6 (by decide +kernel) rfl, by decide +kernel, by decide +kernel, by decide +kernel⟩, z_tab 848 (by decide +kernel) rfl, z_sel 54 (q := (yX5_cursorOf, 13)) (by decide +kernel) rfl⟩
theorem l_RX5_196 : z_LV RX5 196 yX5_lays cX5_lays 4 (none) 2 := ⟨⟨Or.inl (z_tab 882 (by decide +kernel) rfl), z_tab 885 (by decide +kernel) rfl, z_tab 6 (by decide +kernel) rfl, by decide +kernel, by decide +kernel, by decide +kernel⟩, z_tab 884 (by decide +kernel) rfl, z_sel 62 (q := (yX5_lays, 13)) (by decide +kernel) rfl⟩
theorem l_RX5_199 : z_LV RX5 199 yX5_pours cX5_pours 3 (none) 1 := ⟨⟨Or.inl (z_tab 878 (by decide +kernel) rfl), z_tab 881 (by decide +kernel) rfl, z_tab 6 (by decide +kernel) rfl, by decide +kernel, by decide +kernel, by decide +kernel⟩, z_tab 880 (by decide +kernel) rfl, z_sel 61 (q := (yX5_pours, 13)) (by decide +kernel) rfl⟩
theorem l_RX5_202 : z_LV RX5 202 yX5_meets cX5_meets 4 (none) 2 := ⟨⟨Or.inl (z_tab 886 (by decide +kernel) rfl), z_tab 889 (by decide +kernel) rfl, z_tab 6 (by decide +kernel) rfl, by decide +kernel, by decide +kernel, by decide +kernel⟩, z_tab 888 (by decide +kernel) rfl, z_sel 63 (q := (yX5_meets, 13)) (by decide +kernel) rfl⟩
theorem l_RX5_205 : z_LV RX5 205 yX5_ends cX5_ends 5 (none) 2 := ⟨⟨Or.inl (z_tab 890 (by decide +kernel) rfl), z_tab 893 (by decide +kernel) rfl, z_tab 6 (by decide +kernel) rfl, by decide +kernel, by decide +kernel, by decide +kernel⟩, z_tab 892 (by decide +kernel) rfl, z_sel 64 (q := (yX5_ends, 13)) (by decide +kernel) rfl⟩
theorem l_RX5_208 : z_LV RX5 208 yX5_poursAll cX5_poursAll 10 ((some .int)) 0 := ⟨⟨Or.inl (z_tab 874 (by decide +kernel) rfl), z_tab 877 (by decide +kernel) rfl, z_tab 6 (by decide +kernel) rfl, by decide +kernel, by decide +kernel, by decide +kernel⟩, z_tab 876 (by decide +kernel) rfl, z_sel 60 (q := (yX5_poursAll, 13)) (by decide +kernel) rfl⟩
theorem l_RX5_211 : z_LV RX5 211 yX5_rowsWith cX5_rowsWith 2 ((some .int)) 1 := ⟨⟨Or.inl (z_tab 870 (by decide +kernel) rfl), z_tab 873 (by decide +kernel) rfl, z_tab 6 (by decide +kernel) rfl, by decide +kernel, by decide +kernel, by decide +kernel⟩, z_tab 872 (by decide +kernel) rfl, z_sel 59 (q := (yX5_rowsWith, 13)) (by decide +kernel) rfl⟩
theorem l_RX5_214 : z_LV RX5 214 yX5_marks cX5_marks 3 (none) 0 := ⟨⟨Or.inl (z_tab 902 (by decide +kernel) rfl), z_tab 905 (by decide +kernel) rfl, z_tab 6 (by decide +kernel) rfl, by decide +kernel, by decide +kernel, by decide +kernel⟩, z_tab 904 (by decide +kernel) rfl, z_sel 65 (q := (yX5_marks, 13)) (by decide +kernel) rfl⟩
theorem l_RX5_217 : z_LV RX5 217 yX5_takes cX5_takes 4 (none) 2 := ⟨⟨Or.inl (z_tab 906 (by decide +kernel) rfl), z_tab 909 (by decide +kernel) rfl, z_tab 6 (by decide +kernel) rfl, by decide +kernel, by decide +kernel, by decide +kernel⟩, z_tab 908 (by decide +kernel) rfl, z_sel 66 (q := (yX5_takes, 13)) (by decide +kernel) rfl⟩
theorem l_RX5_220 : z_LV RX5 220 yX5_lands cX5_lands 6 (none) 1 := ⟨⟨Or.inl (z_tab 910 (by decide +kernel) rfl), z_tab 913 (by decide +kernel) rfl, z_tab 6 (by decide +kernel) rfl, by decide +kernel, by decide +kernel, by decide +kernel⟩, z_tab 912 (by decide +kernel) rfl, z_sel 67 (q := (yX5_lands, 13)) (by decide +kernel) rfl⟩
theorem l_RX5_223 : z_LV RX5 223 yX5_signsFilled cX5_signsFilled 4 ((some .int)) 1 := ⟨⟨Or.inl (z_tab 926 (by decide +kernel) rfl), z_tab 929 (by decide +kernel) rfl, z_tab 6 (by decide +kernel) rfl, by decide +kernel, by decide +kernel, by decide +kernel⟩, z_tab 928 (by decide +kernel) rfl, z_sel 69 (q := (yX5_signsFilled, 13)) (by decide +kernel) rfl⟩
theorem l_RX5_226 : z_LV RX5 226 yX5_rowOfSlot cX5_rowOfSlot 3 ((some .int)) 2 := ⟨⟨Or.inl (z_tab 922 (by decide +kernel) rfl), z_tab 925 (by decide +kernel) rfl, z_tab 6 (by decide +kernel) rfl, by decide +kernel, by decide +kernel, by decide +kernel⟩, z_tab 924 (by decide +kernel) rfl, z_sel 68 (q := (yX5_rowOfSlot, 13)) (by decide +kernel) rfl⟩
theorem l_RX5_229 : z_LV RX5 229 yX5_lines cX5_lines 4 ((some .int)) 0 := ⟨⟨Or.inl (z_tab 934 (by decide +kernel) rfl), z_tab 937 (by decide +kernel) rfl, z_tab 6 (by decide +kernel) rfl, by decide +kernel, by decide +kernel, by decide +kernel⟩, z_tab 936 (by decide +kernel) rfl, z_sel 70 (q := (yX5_lines, 13)) (by decide +kernel) rfl⟩
theorem l_RX5_236 : z_LV RX5 236 yX5_told cX5_told 2 ((some .int)) 1 := ⟨⟨Or.inl (z_tab 948 (by decide +kernel) rfl), z_tab 933 (by decide +kernel) rfl, z_tab 6 (by decide +kernel) rfl, by decide +kernel, by decide +kernel, by decide +kernel⟩, z_tab 931 (by decide +kernel) rfl, z_tab 932 (by decide +kernel) rfl⟩
theorem l_RX5_239 : z_LV RX5 239 yX5_cell cX5_cell 4 ((some .int)) 2 := ⟨⟨Or.inl (z_tab 949 (by decide +kernel) rfl), z_tab 917 (by decide +kernel) rfl, z_tab 6 (by decide +kernel) rfl, by decide +kernel, by decide +kernel, by decide +kernel⟩, z_tab 915 (by decide +kernel) rfl, z_tab 916 (by decide +kernel) rfl⟩
theorem l_RX5_242 : z_LV RX5 242 yX5_mixedLines cX5_mixedLines 10 ((some .long)) 1 := ⟨⟨Or.inl (z_tab 950 (by decide +kernel) rfl), z_tab 953 (by decide +kernel) rfl, z_tab 6 (by decide +kernel) rfl, by decide +kernel, by decide +kernel, by decide +kernel⟩, z_tab 952 (by decide +kernel) rfl, z_sel 71 (q := (yX5_mixedLines, 13)) (by decide +kernel) rfl⟩
