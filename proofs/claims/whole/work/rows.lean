section
-- ===== PART A: goes FIRST, ahead of the names: the tables' words, and 'selects' of the private methods out of them =====
/-- a private method of a class that the tables say can be made, by its rows of tables_1 -/
def lw_okq (q : MethodName × Nat) : Prop := (q.1.cls ≠ "java/lang/invoke/MethodHandle" ∧ q.1.cls ≠ "java/lang/invoke/VarHandle") ∧ Cond.instantiable q.1.cls q.2 ∈ tables_1 ∧ Cond.privateMethod q.1 ∈ tables_1 ∧ Cond.instanceMethod q.1 ∈ tables_1
theorem lw_p0 : lw_okq (⟨"PouredScreen", "remember", "()LPouredScreen$Sheet;"⟩, 5) := ⟨⟨by decide +kernel, by decide +kernel⟩, List.mem_of_getElem? (i := 10) (by decide +kernel), List.mem_of_getElem? (i := 187) (by decide +kernel), List.mem_of_getElem? (i := 188) (by decide +kernel)⟩
theorem lw_p1 : lw_okq (⟨"PouredScreen", "stateAt", "(I)LPouredScreen$Sheet;"⟩, 5) := ⟨⟨by decide +kernel, by decide +kernel⟩, List.mem_of_getElem? (i := 10) (by decide +kernel), List.mem_of_getElem? (i := 191) (by decide +kernel), List.mem_of_getElem? (i := 192) (by decide +kernel)⟩
theorem lw_p2 : lw_okq (⟨"PouredScreen$Sheet", "goOn", "()Z"⟩, 9) := ⟨⟨by decide +kernel, by decide +kernel⟩, List.mem_of_getElem? (i := 18) (by decide +kernel), List.mem_of_getElem? (i := 225) (by decide +kernel), List.mem_of_getElem? (i := 226) (by decide +kernel)⟩
theorem lw_p3 : lw_okq (⟨"PouredScreen$Sheet", "pushTopRow", "()V"⟩, 9) := ⟨⟨by decide +kernel, by decide +kernel⟩, List.mem_of_getElem? (i := 18) (by decide +kernel), List.mem_of_getElem? (i := 233) (by decide +kernel), List.mem_of_getElem? (i := 234) (by decide +kernel)⟩
theorem lw_p4 : lw_okq (⟨"PouredScreen$Sheet", "carryBlank", "(II)V"⟩, 9) := ⟨⟨by decide +kernel, by decide +kernel⟩, List.mem_of_getElem? (i := 18) (by decide +kernel), List.mem_of_getElem? (i := 241) (by decide +kernel), List.mem_of_getElem? (i := 242) (by decide +kernel)⟩
theorem lw_p5 : lw_okq (⟨"PouredScreen$Sheet", "takeRow", "(I)V"⟩, 9) := ⟨⟨by decide +kernel, by decide +kernel⟩, List.mem_of_getElem? (i := 18) (by decide +kernel), List.mem_of_getElem? (i := 246) (by decide +kernel), List.mem_of_getElem? (i := 247) (by decide +kernel)⟩
theorem lw_p6 : lw_okq (⟨"PouredScreen$Sheet", "unmarkAbove", "(I)V"⟩, 9) := ⟨⟨by decide +kernel, by decide +kernel⟩, List.mem_of_getElem? (i := 18) (by decide +kernel), List.mem_of_getElem? (i := 250) (by decide +kernel), List.mem_of_getElem? (i := 251) (by decide +kernel)⟩
theorem lw_p7 : lw_okq (⟨"PouredScreen$Row", "set", "(II)V"⟩, 3) := ⟨⟨by decide +kernel, by decide +kernel⟩, List.mem_of_getElem? (i := 50) (by decide +kernel), List.mem_of_getElem? (i := 274) (by decide +kernel), List.mem_of_getElem? (i := 275) (by decide +kernel)⟩
theorem lw_p8 : lw_okq (⟨"PouredScreen", "obey", "(I)V"⟩, 5) := ⟨⟨by decide +kernel, by decide +kernel⟩, List.mem_of_getElem? (i := 10) (by decide +kernel), List.mem_of_getElem? (i := 283) (by decide +kernel), List.mem_of_getElem? (i := 284) (by decide +kernel)⟩
theorem lw_p9 : lw_okq (⟨"PouredScreen$Pouring", "rowsBefore", "(LPouredScreen$Sheet;II)I"⟩, 13) := ⟨⟨by decide +kernel, by decide +kernel⟩, List.mem_of_getElem? (i := 117) (by decide +kernel), List.mem_of_getElem? (i := 416) (by decide +kernel), List.mem_of_getElem? (i := 417) (by decide +kernel)⟩
theorem lw_p10 : lw_okq (⟨"PouredScreen$Pouring", "pourLines", "(LPouredScreen$Sheet;LPouredScreen$Sheet;I)V"⟩, 13) := ⟨⟨by decide +kernel, by decide +kernel⟩, List.mem_of_getElem? (i := 117) (by decide +kernel), List.mem_of_getElem? (i := 445) (by decide +kernel), List.mem_of_getElem? (i := 446) (by decide +kernel)⟩
theorem lw_p11 : lw_okq (⟨"PouredScreen$Pouring", "pourLine", "(LPouredScreen$Sheet;I)V"⟩, 13) := ⟨⟨by decide +kernel, by decide +kernel⟩, List.mem_of_getElem? (i := 117) (by decide +kernel), List.mem_of_getElem? (i := 449) (by decide +kernel), List.mem_of_getElem? (i := 450) (by decide +kernel)⟩
theorem lw_p12 : lw_okq (⟨"PouredScreen$Pouring", "follow", "(LPouredScreen$Sheet;LPouredScreen$Place;LPouredScreen$Sheet;LPouredScreen$Place;I)V"⟩, 13) := ⟨⟨by decide +kernel, by decide +kernel⟩, List.mem_of_getElem? (i := 117) (by decide +kernel), List.mem_of_getElem? (i := 454) (by decide +kernel), List.mem_of_getElem? (i := 455) (by decide +kernel)⟩
theorem lw_p13 : lw_okq (⟨"PouredScreen$Pouring", "readUpTo", "(I)Z"⟩, 13) := ⟨⟨by decide +kernel, by decide +kernel⟩, List.mem_of_getElem? (i := 117) (by decide +kernel), List.mem_of_getElem? (i := 479) (by decide +kernel), List.mem_of_getElem? (i := 480) (by decide +kernel)⟩
theorem lw_p14 : lw_okq (⟨"PouredScreen$Sheet", "linesBefore", "(I)I"⟩, 9) := ⟨⟨by decide +kernel, by decide +kernel⟩, List.mem_of_getElem? (i := 18) (by decide +kernel), List.mem_of_getElem? (i := 532) (by decide +kernel), List.mem_of_getElem? (i := 533) (by decide +kernel)⟩
theorem lw_p15 : lw_okq (⟨"PouredScreen", "mixRows", "(J)J"⟩, 5) := ⟨⟨by decide +kernel, by decide +kernel⟩, List.mem_of_getElem? (i := 10) (by decide +kernel), List.mem_of_getElem? (i := 569) (by decide +kernel), List.mem_of_getElem? (i := 570) (by decide +kernel)⟩
def lw_privs_1 : List (MethodName × Nat) := [(⟨"PouredScreen", "remember", "()LPouredScreen$Sheet;"⟩, 5), (⟨"PouredScreen", "stateAt", "(I)LPouredScreen$Sheet;"⟩, 5), (⟨"PouredScreen$Sheet", "goOn", "()Z"⟩, 9), (⟨"PouredScreen$Sheet", "pushTopRow", "()V"⟩, 9), (⟨"PouredScreen$Sheet", "carryBlank", "(II)V"⟩, 9), (⟨"PouredScreen$Sheet", "takeRow", "(I)V"⟩, 9), (⟨"PouredScreen$Sheet", "unmarkAbove", "(I)V"⟩, 9), (⟨"PouredScreen$Row", "set", "(II)V"⟩, 3), (⟨"PouredScreen", "obey", "(I)V"⟩, 5), (⟨"PouredScreen$Pouring", "rowsBefore", "(LPouredScreen$Sheet;II)I"⟩, 13), (⟨"PouredScreen$Pouring", "pourLines", "(LPouredScreen$Sheet;LPouredScreen$Sheet;I)V"⟩, 13), (⟨"PouredScreen$Pouring", "pourLine", "(LPouredScreen$Sheet;I)V"⟩, 13), (⟨"PouredScreen$Pouring", "follow", "(LPouredScreen$Sheet;LPouredScreen$Place;LPouredScreen$Sheet;LPouredScreen$Place;I)V"⟩, 13), (⟨"PouredScreen$Pouring", "readUpTo", "(I)Z"⟩, 13), (⟨"PouredScreen$Sheet", "linesBefore", "(I)I"⟩, 9), (⟨"PouredScreen", "mixRows", "(J)J"⟩, 5)]
theorem lw_r1 : ∀ q ∈ lw_privs_1, lw_okq q := List.forall_mem_cons.mpr ⟨lw_p0, List.forall_mem_cons.mpr ⟨lw_p1, List.forall_mem_cons.mpr ⟨lw_p2, List.forall_mem_cons.mpr ⟨lw_p3, List.forall_mem_cons.mpr ⟨lw_p4, List.forall_mem_cons.mpr ⟨lw_p5, List.forall_mem_cons.mpr ⟨lw_p6, List.forall_mem_cons.mpr ⟨lw_p7, List.forall_mem_cons.mpr ⟨lw_p8, List.forall_mem_cons.mpr ⟨lw_p9, List.forall_mem_cons.mpr ⟨lw_p10, List.forall_mem_cons.mpr ⟨lw_p11, List.forall_mem_cons.mpr ⟨lw_p12, List.forall_mem_cons.mpr ⟨lw_p13, List.forall_mem_cons.mpr ⟨lw_p14, List.forall_mem_cons.mpr ⟨lw_p15, fun _ h => absurd h List.not_mem_nil⟩⟩⟩⟩⟩⟩⟩⟩⟩⟩⟩⟩⟩⟩⟩⟩
theorem lw_p16 : lw_okq (⟨"PouredScreen", "mixCells", "(J)J"⟩, 5) := ⟨⟨by decide +kernel, by decide +kernel⟩, List.mem_of_getElem? (i := 10) (by decide +kernel), List.mem_of_getElem? (i := 574) (by decide +kernel), List.mem_of_getElem? (i := 575) (by decide +kernel)⟩
theorem lw_p17 : lw_okq (⟨"PouredScreen", "mixLines", "(J)J"⟩, 5) := ⟨⟨by decide +kernel, by decide +kernel⟩, List.mem_of_getElem? (i := 10) (by decide +kernel), List.mem_of_getElem? (i := 579) (by decide +kernel), List.mem_of_getElem? (i := 580) (by decide +kernel)⟩
theorem lw_p18 : lw_okq (⟨"PouredScreen", "mixCursors", "(J)J"⟩, 5) := ⟨⟨by decide +kernel, by decide +kernel⟩, List.mem_of_getElem? (i := 10) (by decide +kernel), List.mem_of_getElem? (i := 586) (by decide +kernel), List.mem_of_getElem? (i := 587) (by decide +kernel)⟩
theorem lw_p19 : lw_okq (⟨"PouredScreenModel", "blanks", "(I)V"⟩, 13) := ⟨⟨by decide +kernel, by decide +kernel⟩, List.mem_of_getElem? (i := 592) (by decide +kernel), List.mem_of_getElem? (i := 598) (by decide +kernel), List.mem_of_getElem? (i := 599) (by decide +kernel)⟩
theorem lw_p20 : lw_okq (⟨"PouredScreenModel", "unwraps", "(I)V"⟩, 13) := ⟨⟨by decide +kernel, by decide +kernel⟩, List.mem_of_getElem? (i := 592) (by decide +kernel), List.mem_of_getElem? (i := 605) (by decide +kernel), List.mem_of_getElem? (i := 606) (by decide +kernel)⟩
theorem lw_p21 : lw_okq (⟨"PouredScreenModel", "records", "()V"⟩, 13) := ⟨⟨by decide +kernel, by decide +kernel⟩, List.mem_of_getElem? (i := 592) (by decide +kernel), List.mem_of_getElem? (i := 657) (by decide +kernel), List.mem_of_getElem? (i := 658) (by decide +kernel)⟩
theorem lw_p22 : lw_okq (⟨"PouredScreenModel", "moves", "(I)V"⟩, 13) := ⟨⟨by decide +kernel, by decide +kernel⟩, List.mem_of_getElem? (i := 592) (by decide +kernel), List.mem_of_getElem? (i := 661) (by decide +kernel), List.mem_of_getElem? (i := 662) (by decide +kernel)⟩
theorem lw_p23 : lw_okq (⟨"PouredScreenModel", "feedsLine", "()Z"⟩, 13) := ⟨⟨by decide +kernel, by decide +kernel⟩, List.mem_of_getElem? (i := 592) (by decide +kernel), List.mem_of_getElem? (i := 665) (by decide +kernel), List.mem_of_getElem? (i := 666) (by decide +kernel)⟩
theorem lw_p24 : lw_okq (⟨"PouredScreenModel", "scrolls", "()V"⟩, 13) := ⟨⟨by decide +kernel, by decide +kernel⟩, List.mem_of_getElem? (i := 592) (by decide +kernel), List.mem_of_getElem? (i := 669) (by decide +kernel), List.mem_of_getElem? (i := 670) (by decide +kernel)⟩
theorem lw_p25 : lw_okq (⟨"PouredScreenModel", "keepsRow", "(I)V"⟩, 13) := ⟨⟨by decide +kernel, by decide +kernel⟩, List.mem_of_getElem? (i := 592) (by decide +kernel), List.mem_of_getElem? (i := 673) (by decide +kernel), List.mem_of_getElem? (i := 674) (by decide +kernel)⟩
theorem lw_p26 : lw_okq (⟨"PouredScreenModel", "copies", "(II)V"⟩, 13) := ⟨⟨by decide +kernel, by decide +kernel⟩, List.mem_of_getElem? (i := 592) (by decide +kernel), List.mem_of_getElem? (i := 677) (by decide +kernel), List.mem_of_getElem? (i := 678) (by decide +kernel)⟩
theorem lw_p27 : lw_okq (⟨"PouredScreenModel", "unwrapsAhead", "(I)V"⟩, 13) := ⟨⟨by decide +kernel, by decide +kernel⟩, List.mem_of_getElem? (i := 592) (by decide +kernel), List.mem_of_getElem? (i := 681) (by decide +kernel), List.mem_of_getElem? (i := 682) (by decide +kernel)⟩
theorem lw_p28 : lw_okq (⟨"PouredScreenModel", "writes", "(I)V"⟩, 13) := ⟨⟨by decide +kernel, by decide +kernel⟩, List.mem_of_getElem? (i := 592) (by decide +kernel), List.mem_of_getElem? (i := 685) (by decide +kernel), List.mem_of_getElem? (i := 686) (by decide +kernel)⟩
theorem lw_p29 : lw_okq (⟨"PouredScreenModel", "goesOn", "(Z)V"⟩, 13) := ⟨⟨by decide +kernel, by decide +kernel⟩, List.mem_of_getElem? (i := 592) (by decide +kernel), List.mem_of_getElem? (i := 689) (by decide +kernel), List.mem_of_getElem? (i := 690) (by decide +kernel)⟩
theorem lw_p30 : lw_okq (⟨"PouredScreenModel", "erases", "(III)V"⟩, 13) := ⟨⟨by decide +kernel, by decide +kernel⟩, List.mem_of_getElem? (i := 592) (by decide +kernel), List.mem_of_getElem? (i := 696) (by decide +kernel), List.mem_of_getElem? (i := 697) (by decide +kernel)⟩
theorem lw_p31 : lw_okq (⟨"PouredScreenModel", "frees", "(III)V"⟩, 13) := ⟨⟨by decide +kernel, by decide +kernel⟩, List.mem_of_getElem? (i := 592) (by decide +kernel), List.mem_of_getElem? (i := 700) (by decide +kernel), List.mem_of_getElem? (i := 701) (by decide +kernel)⟩
def lw_privs_2 : List (MethodName × Nat) := [(⟨"PouredScreen", "mixCells", "(J)J"⟩, 5), (⟨"PouredScreen", "mixLines", "(J)J"⟩, 5), (⟨"PouredScreen", "mixCursors", "(J)J"⟩, 5), (⟨"PouredScreenModel", "blanks", "(I)V"⟩, 13), (⟨"PouredScreenModel", "unwraps", "(I)V"⟩, 13), (⟨"PouredScreenModel", "records", "()V"⟩, 13), (⟨"PouredScreenModel", "moves", "(I)V"⟩, 13), (⟨"PouredScreenModel", "feedsLine", "()Z"⟩, 13), (⟨"PouredScreenModel", "scrolls", "()V"⟩, 13), (⟨"PouredScreenModel", "keepsRow", "(I)V"⟩, 13), (⟨"PouredScreenModel", "copies", "(II)V"⟩, 13), (⟨"PouredScreenModel", "unwrapsAhead", "(I)V"⟩, 13), (⟨"PouredScreenModel", "writes", "(I)V"⟩, 13), (⟨"PouredScreenModel", "goesOn", "(Z)V"⟩, 13), (⟨"PouredScreenModel", "erases", "(III)V"⟩, 13), (⟨"PouredScreenModel", "frees", "(III)V"⟩, 13)]
theorem lw_r2 : ∀ q ∈ lw_privs_2, lw_okq q := List.forall_mem_cons.mpr ⟨lw_p16, List.forall_mem_cons.mpr ⟨lw_p17, List.forall_mem_cons.mpr ⟨lw_p18, List.forall_mem_cons.mpr ⟨lw_p19, List.forall_mem_cons.mpr ⟨lw_p20, List.forall_mem_cons.mpr ⟨lw_p21, List.forall_mem_cons.mpr ⟨lw_p22, List.forall_mem_cons.mpr ⟨lw_p23, List.forall_mem_cons.mpr ⟨lw_p24, List.forall_mem_cons.mpr ⟨lw_p25, List.forall_mem_cons.mpr ⟨lw_p26, List.forall_mem_cons.mpr ⟨lw_p27, List.forall_mem_cons.mpr ⟨lw_p28, List.forall_mem_cons.mpr ⟨lw_p29, List.forall_mem_cons.mpr ⟨lw_p30, List.forall_mem_cons.mpr ⟨lw_p31, fun _ h => absurd h List.not_mem_nil⟩⟩⟩⟩⟩⟩⟩⟩⟩⟩⟩⟩⟩⟩⟩⟩
theorem lw_p32 : lw_okq (⟨"PouredScreenModel", "code", "(II)I"⟩, 13) := ⟨⟨by decide +kernel, by decide +kernel⟩, List.mem_of_getElem? (i := 592) (by decide +kernel), List.mem_of_getElem? (i := 704) (by decide +kernel), List.mem_of_getElem? (i := 705) (by decide +kernel)⟩
theorem lw_p33 : lw_okq (⟨"PouredScreenModel", "sets", "(III)V"⟩, 13) := ⟨⟨by decide +kernel, by decide +kernel⟩, List.mem_of_getElem? (i := 592) (by decide +kernel), List.mem_of_getElem? (i := 711) (by decide +kernel), List.mem_of_getElem? (i := 712) (by decide +kernel)⟩
theorem lw_p34 : lw_okq (⟨"PouredScreenModel", "isRow", "(I)Z"⟩, 13) := ⟨⟨by decide +kernel, by decide +kernel⟩, List.mem_of_getElem? (i := 592) (by decide +kernel), List.mem_of_getElem? (i := 719) (by decide +kernel), List.mem_of_getElem? (i := 720) (by decide +kernel)⟩
theorem lw_p35 : lw_okq (⟨"PouredScreenModel", "isColumn", "(I)Z"⟩, 13) := ⟨⟨by decide +kernel, by decide +kernel⟩, List.mem_of_getElem? (i := 592) (by decide +kernel), List.mem_of_getElem? (i := 723) (by decide +kernel), List.mem_of_getElem? (i := 724) (by decide +kernel)⟩
theorem lw_p36 : lw_okq (⟨"PouredScreenModel", "goes", "(II)V"⟩, 13) := ⟨⟨by decide +kernel, by decide +kernel⟩, List.mem_of_getElem? (i := 592) (by decide +kernel), List.mem_of_getElem? (i := 727) (by decide +kernel), List.mem_of_getElem? (i := 728) (by decide +kernel)⟩
theorem lw_p37 : lw_okq (⟨"PouredScreenModel", "filledAll", "()I"⟩, 13) := ⟨⟨by decide +kernel, by decide +kernel⟩, List.mem_of_getElem? (i := 592) (by decide +kernel), List.mem_of_getElem? (i := 739) (by decide +kernel), List.mem_of_getElem? (i := 740) (by decide +kernel)⟩
theorem lw_p38 : lw_okq (⟨"PouredScreenModel", "filled", "(I)I"⟩, 13) := ⟨⟨by decide +kernel, by decide +kernel⟩, List.mem_of_getElem? (i := 592) (by decide +kernel), List.mem_of_getElem? (i := 743) (by decide +kernel), List.mem_of_getElem? (i := 744) (by decide +kernel)⟩
theorem lw_p39 : lw_okq (⟨"PouredScreenModel", "erasesLine", "(I)V"⟩, 13) := ⟨⟨by decide +kernel, by decide +kernel⟩, List.mem_of_getElem? (i := 592) (by decide +kernel), List.mem_of_getElem? (i := 747) (by decide +kernel), List.mem_of_getElem? (i := 748) (by decide +kernel)⟩
theorem lw_p40 : lw_okq (⟨"PouredScreenModel", "isInRegion", "()Z"⟩, 13) := ⟨⟨by decide +kernel, by decide +kernel⟩, List.mem_of_getElem? (i := 592) (by decide +kernel), List.mem_of_getElem? (i := 759) (by decide +kernel), List.mem_of_getElem? (i := 760) (by decide +kernel)⟩
theorem lw_p41 : lw_okq (⟨"PouredScreenModel", "filledRows", "(II)I"⟩, 13) := ⟨⟨by decide +kernel, by decide +kernel⟩, List.mem_of_getElem? (i := 592) (by decide +kernel), List.mem_of_getElem? (i := 763) (by decide +kernel), List.mem_of_getElem? (i := 764) (by decide +kernel)⟩
theorem lw_p42 : lw_okq (⟨"PouredScreenModel", "splits", "(Z)V"⟩, 13) := ⟨⟨by decide +kernel, by decide +kernel⟩, List.mem_of_getElem? (i := 592) (by decide +kernel), List.mem_of_getElem? (i := 775) (by decide +kernel), List.mem_of_getElem? (i := 776) (by decide +kernel)⟩
theorem lw_p43 : lw_okq (⟨"PouredScreenModel", "counted", "()I"⟩, 13) := ⟨⟨by decide +kernel, by decide +kernel⟩, List.mem_of_getElem? (i := 592) (by decide +kernel), List.mem_of_getElem? (i := 795) (by decide +kernel), List.mem_of_getElem? (i := 796) (by decide +kernel)⟩
theorem lw_p44 : lw_okq (⟨"PouredScreenModel", "lineBegin", "(II)I"⟩, 13) := ⟨⟨by decide +kernel, by decide +kernel⟩, List.mem_of_getElem? (i := 592) (by decide +kernel), List.mem_of_getElem? (i := 799) (by decide +kernel), List.mem_of_getElem? (i := 800) (by decide +kernel)⟩
theorem lw_p45 : lw_okq (⟨"PouredScreenModel", "lineEnd", "(II)I"⟩, 13) := ⟨⟨by decide +kernel, by decide +kernel⟩, List.mem_of_getElem? (i := 592) (by decide +kernel), List.mem_of_getElem? (i := 803) (by decide +kernel), List.mem_of_getElem? (i := 804) (by decide +kernel)⟩
theorem lw_p46 : lw_okq (⟨"PouredScreenModel", "slot", "(I)I"⟩, 13) := ⟨⟨by decide +kernel, by decide +kernel⟩, List.mem_of_getElem? (i := 592) (by decide +kernel), List.mem_of_getElem? (i := 807) (by decide +kernel), List.mem_of_getElem? (i := 808) (by decide +kernel)⟩
theorem lw_p47 : lw_okq (⟨"PouredScreenModel", "isIt", "(II)Z"⟩, 13) := ⟨⟨by decide +kernel, by decide +kernel⟩, List.mem_of_getElem? (i := 592) (by decide +kernel), List.mem_of_getElem? (i := 811) (by decide +kernel), List.mem_of_getElem? (i := 812) (by decide +kernel)⟩
def lw_privs_3 : List (MethodName × Nat) := [(⟨"PouredScreenModel", "code", "(II)I"⟩, 13), (⟨"PouredScreenModel", "sets", "(III)V"⟩, 13), (⟨"PouredScreenModel", "isRow", "(I)Z"⟩, 13), (⟨"PouredScreenModel", "isColumn", "(I)Z"⟩, 13), (⟨"PouredScreenModel", "goes", "(II)V"⟩, 13), (⟨"PouredScreenModel", "filledAll", "()I"⟩, 13), (⟨"PouredScreenModel", "filled", "(I)I"⟩, 13), (⟨"PouredScreenModel", "erasesLine", "(I)V"⟩, 13), (⟨"PouredScreenModel", "isInRegion", "()Z"⟩, 13), (⟨"PouredScreenModel", "filledRows", "(II)I"⟩, 13), (⟨"PouredScreenModel", "splits", "(Z)V"⟩, 13), (⟨"PouredScreenModel", "counted", "()I"⟩, 13), (⟨"PouredScreenModel", "lineBegin", "(II)I"⟩, 13), (⟨"PouredScreenModel", "lineEnd", "(II)I"⟩, 13), (⟨"PouredScreenModel", "slot", "(I)I"⟩, 13), (⟨"PouredScreenModel", "isIt", "(II)Z"⟩, 13)]
theorem lw_r3 : ∀ q ∈ lw_privs_3, lw_okq q := List.forall_mem_cons.mpr ⟨lw_p32, List.forall_mem_cons.mpr ⟨lw_p33, List.forall_mem_cons.mpr ⟨lw_p34, List.forall_mem_cons.mpr ⟨lw_p35, List.forall_mem_cons.mpr ⟨lw_p36, List.forall_mem_cons.mpr ⟨lw_p37, List.forall_mem_cons.mpr ⟨lw_p38, List.forall_mem_cons.mpr ⟨lw_p39, List.forall_mem_cons.mpr ⟨lw_p40, List.forall_mem_cons.mpr ⟨lw_p41, List.forall_mem_cons.mpr ⟨lw_p42, List.forall_mem_cons.mpr ⟨lw_p43, List.forall_mem_cons.mpr ⟨lw_p44, List.forall_mem_cons.mpr ⟨lw_p45, List.forall_mem_cons.mpr ⟨lw_p46, List.forall_mem_cons.mpr ⟨lw_p47, fun _ h => absurd h List.not_mem_nil⟩⟩⟩⟩⟩⟩⟩⟩⟩⟩⟩⟩⟩⟩⟩⟩
theorem lw_p48 : lw_okq (⟨"PouredScreenModel", "lineOf", "(III)I"⟩, 13) := ⟨⟨by decide +kernel, by decide +kernel⟩, List.mem_of_getElem? (i := 592) (by decide +kernel), List.mem_of_getElem? (i := 815) (by decide +kernel), List.mem_of_getElem? (i := 816) (by decide +kernel)⟩
theorem lw_p49 : lw_okq (⟨"PouredScreenModel", "signsOf", "(II)I"⟩, 13) := ⟨⟨by decide +kernel, by decide +kernel⟩, List.mem_of_getElem? (i := 592) (by decide +kernel), List.mem_of_getElem? (i := 819) (by decide +kernel), List.mem_of_getElem? (i := 820) (by decide +kernel)⟩
theorem lw_p50 : lw_okq (⟨"PouredScreenModel", "cellsOf", "(II)I"⟩, 13) := ⟨⟨by decide +kernel, by decide +kernel⟩, List.mem_of_getElem? (i := 592) (by decide +kernel), List.mem_of_getElem? (i := 823) (by decide +kernel), List.mem_of_getElem? (i := 824) (by decide +kernel)⟩
theorem lw_p51 : lw_okq (⟨"PouredScreenModel", "usedCells", "(I)I"⟩, 13) := ⟨⟨by decide +kernel, by decide +kernel⟩, List.mem_of_getElem? (i := 592) (by decide +kernel), List.mem_of_getElem? (i := 827) (by decide +kernel), List.mem_of_getElem? (i := 828) (by decide +kernel)⟩
theorem lw_p52 : lw_okq (⟨"PouredScreenModel", "signsIn", "(II)I"⟩, 13) := ⟨⟨by decide +kernel, by decide +kernel⟩, List.mem_of_getElem? (i := 592) (by decide +kernel), List.mem_of_getElem? (i := 831) (by decide +kernel), List.mem_of_getElem? (i := 832) (by decide +kernel)⟩
theorem lw_p53 : lw_okq (⟨"PouredScreenModel", "signOf", "(III)I"⟩, 13) := ⟨⟨by decide +kernel, by decide +kernel⟩, List.mem_of_getElem? (i := 592) (by decide +kernel), List.mem_of_getElem? (i := 839) (by decide +kernel), List.mem_of_getElem? (i := 840) (by decide +kernel)⟩
theorem lw_p54 : lw_okq (⟨"PouredScreenModel", "cursorOf", "(II)I"⟩, 13) := ⟨⟨by decide +kernel, by decide +kernel⟩, List.mem_of_getElem? (i := 592) (by decide +kernel), List.mem_of_getElem? (i := 847) (by decide +kernel), List.mem_of_getElem? (i := 848) (by decide +kernel)⟩
theorem lw_p55 : lw_okq (⟨"PouredScreenModel", "columnOf", "(I)I"⟩, 13) := ⟨⟨by decide +kernel, by decide +kernel⟩, List.mem_of_getElem? (i := 592) (by decide +kernel), List.mem_of_getElem? (i := 851) (by decide +kernel), List.mem_of_getElem? (i := 852) (by decide +kernel)⟩
theorem lw_p56 : lw_okq (⟨"PouredScreenModel", "rowOf", "(I)I"⟩, 13) := ⟨⟨by decide +kernel, by decide +kernel⟩, List.mem_of_getElem? (i := 592) (by decide +kernel), List.mem_of_getElem? (i := 855) (by decide +kernel), List.mem_of_getElem? (i := 856) (by decide +kernel)⟩
theorem lw_p57 : lw_okq (⟨"PouredScreenModel", "lineAt", "(I)I"⟩, 13) := ⟨⟨by decide +kernel, by decide +kernel⟩, List.mem_of_getElem? (i := 592) (by decide +kernel), List.mem_of_getElem? (i := 859) (by decide +kernel), List.mem_of_getElem? (i := 860) (by decide +kernel)⟩
theorem lw_p58 : lw_okq (⟨"PouredScreenModel", "markOf", "(II)I"⟩, 13) := ⟨⟨by decide +kernel, by decide +kernel⟩, List.mem_of_getElem? (i := 592) (by decide +kernel), List.mem_of_getElem? (i := 863) (by decide +kernel), List.mem_of_getElem? (i := 864) (by decide +kernel)⟩
theorem lw_p59 : lw_okq (⟨"PouredScreenModel", "rowsWith", "(I)I"⟩, 13) := ⟨⟨by decide +kernel, by decide +kernel⟩, List.mem_of_getElem? (i := 592) (by decide +kernel), List.mem_of_getElem? (i := 871) (by decide +kernel), List.mem_of_getElem? (i := 872) (by decide +kernel)⟩
theorem lw_p60 : lw_okq (⟨"PouredScreenModel", "poursAll", "()I"⟩, 13) := ⟨⟨by decide +kernel, by decide +kernel⟩, List.mem_of_getElem? (i := 592) (by decide +kernel), List.mem_of_getElem? (i := 875) (by decide +kernel), List.mem_of_getElem? (i := 876) (by decide +kernel)⟩
theorem lw_p61 : lw_okq (⟨"PouredScreenModel", "pours", "(I)V"⟩, 13) := ⟨⟨by decide +kernel, by decide +kernel⟩, List.mem_of_getElem? (i := 592) (by decide +kernel), List.mem_of_getElem? (i := 879) (by decide +kernel), List.mem_of_getElem? (i := 880) (by decide +kernel)⟩
theorem lw_p62 : lw_okq (⟨"PouredScreenModel", "lays", "(II)V"⟩, 13) := ⟨⟨by decide +kernel, by decide +kernel⟩, List.mem_of_getElem? (i := 592) (by decide +kernel), List.mem_of_getElem? (i := 883) (by decide +kernel), List.mem_of_getElem? (i := 884) (by decide +kernel)⟩
theorem lw_p63 : lw_okq (⟨"PouredScreenModel", "meets", "(II)V"⟩, 13) := ⟨⟨by decide +kernel, by decide +kernel⟩, List.mem_of_getElem? (i := 592) (by decide +kernel), List.mem_of_getElem? (i := 887) (by decide +kernel), List.mem_of_getElem? (i := 888) (by decide +kernel)⟩
def lw_privs_4 : List (MethodName × Nat) := [(⟨"PouredScreenModel", "lineOf", "(III)I"⟩, 13), (⟨"PouredScreenModel", "signsOf", "(II)I"⟩, 13), (⟨"PouredScreenModel", "cellsOf", "(II)I"⟩, 13), (⟨"PouredScreenModel", "usedCells", "(I)I"⟩, 13), (⟨"PouredScreenModel", "signsIn", "(II)I"⟩, 13), (⟨"PouredScreenModel", "signOf", "(III)I"⟩, 13), (⟨"PouredScreenModel", "cursorOf", "(II)I"⟩, 13), (⟨"PouredScreenModel", "columnOf", "(I)I"⟩, 13), (⟨"PouredScreenModel", "rowOf", "(I)I"⟩, 13), (⟨"PouredScreenModel", "lineAt", "(I)I"⟩, 13), (⟨"PouredScreenModel", "markOf", "(II)I"⟩, 13), (⟨"PouredScreenModel", "rowsWith", "(I)I"⟩, 13), (⟨"PouredScreenModel", "poursAll", "()I"⟩, 13), (⟨"PouredScreenModel", "pours", "(I)V"⟩, 13), (⟨"PouredScreenModel", "lays", "(II)V"⟩, 13), (⟨"PouredScreenModel", "meets", "(II)V"⟩, 13)]
theorem lw_r4 : ∀ q ∈ lw_privs_4, lw_okq q := List.forall_mem_cons.mpr ⟨lw_p48, List.forall_mem_cons.mpr ⟨lw_p49, List.forall_mem_cons.mpr ⟨lw_p50, List.forall_mem_cons.mpr ⟨lw_p51, List.forall_mem_cons.mpr ⟨lw_p52, List.forall_mem_cons.mpr ⟨lw_p53, List.forall_mem_cons.mpr ⟨lw_p54, List.forall_mem_cons.mpr ⟨lw_p55, List.forall_mem_cons.mpr ⟨lw_p56, List.forall_mem_cons.mpr ⟨lw_p57, List.forall_mem_cons.mpr ⟨lw_p58, List.forall_mem_cons.mpr ⟨lw_p59, List.forall_mem_cons.mpr ⟨lw_p60, List.forall_mem_cons.mpr ⟨lw_p61, List.forall_mem_cons.mpr ⟨lw_p62, List.forall_mem_cons.mpr ⟨lw_p63, fun _ h => absurd h List.not_mem_nil⟩⟩⟩⟩⟩⟩⟩⟩⟩⟩⟩⟩⟩⟩⟩⟩
theorem lw_p64 : lw_okq (⟨"PouredScreenModel", "ends", "(II)V"⟩, 13) := ⟨⟨by decide +kernel, by decide +kernel⟩, List.mem_of_getElem? (i := 592) (by decide +kernel), List.mem_of_getElem? (i := 891) (by decide +kernel), List.mem_of_getElem? (i := 892) (by decide +kernel)⟩
theorem lw_p65 : lw_okq (⟨"PouredScreenModel", "marks", "()V"⟩, 13) := ⟨⟨by decide +kernel, by decide +kernel⟩, List.mem_of_getElem? (i := 592) (by decide +kernel), List.mem_of_getElem? (i := 903) (by decide +kernel), List.mem_of_getElem? (i := 904) (by decide +kernel)⟩
theorem lw_p66 : lw_okq (⟨"PouredScreenModel", "takes", "(II)V"⟩, 13) := ⟨⟨by decide +kernel, by decide +kernel⟩, List.mem_of_getElem? (i := 592) (by decide +kernel), List.mem_of_getElem? (i := 907) (by decide +kernel), List.mem_of_getElem? (i := 908) (by decide +kernel)⟩
theorem lw_p67 : lw_okq (⟨"PouredScreenModel", "lands", "(I)V"⟩, 13) := ⟨⟨by decide +kernel, by decide +kernel⟩, List.mem_of_getElem? (i := 592) (by decide +kernel), List.mem_of_getElem? (i := 911) (by decide +kernel), List.mem_of_getElem? (i := 912) (by decide +kernel)⟩
theorem lw_p68 : lw_okq (⟨"PouredScreenModel", "rowOfSlot", "(II)I"⟩, 13) := ⟨⟨by decide +kernel, by decide +kernel⟩, List.mem_of_getElem? (i := 592) (by decide +kernel), List.mem_of_getElem? (i := 923) (by decide +kernel), List.mem_of_getElem? (i := 924) (by decide +kernel)⟩
theorem lw_p69 : lw_okq (⟨"PouredScreenModel", "signsFilled", "(I)I"⟩, 13) := ⟨⟨by decide +kernel, by decide +kernel⟩, List.mem_of_getElem? (i := 592) (by decide +kernel), List.mem_of_getElem? (i := 927) (by decide +kernel), List.mem_of_getElem? (i := 928) (by decide +kernel)⟩
theorem lw_p70 : lw_okq (⟨"PouredScreenModel", "lines", "()I"⟩, 13) := ⟨⟨by decide +kernel, by decide +kernel⟩, List.mem_of_getElem? (i := 592) (by decide +kernel), List.mem_of_getElem? (i := 935) (by decide +kernel), List.mem_of_getElem? (i := 936) (by decide +kernel)⟩
theorem lw_p71 : lw_okq (⟨"PouredScreenModel", "mixedLines", "(J)J"⟩, 13) := ⟨⟨by decide +kernel, by decide +kernel⟩, List.mem_of_getElem? (i := 592) (by decide +kernel), List.mem_of_getElem? (i := 951) (by decide +kernel), List.mem_of_getElem? (i := 952) (by decide +kernel)⟩
def lw_privs_5 : List (MethodName × Nat) := [(⟨"PouredScreenModel", "ends", "(II)V"⟩, 13), (⟨"PouredScreenModel", "marks", "()V"⟩, 13), (⟨"PouredScreenModel", "takes", "(II)V"⟩, 13), (⟨"PouredScreenModel", "lands", "(I)V"⟩, 13), (⟨"PouredScreenModel", "rowOfSlot", "(II)I"⟩, 13), (⟨"PouredScreenModel", "signsFilled", "(I)I"⟩, 13), (⟨"PouredScreenModel", "lines", "()I"⟩, 13), (⟨"PouredScreenModel", "mixedLines", "(J)J"⟩, 13)]
theorem lw_r5 : ∀ q ∈ lw_privs_5, lw_okq q := List.forall_mem_cons.mpr ⟨lw_p64, List.forall_mem_cons.mpr ⟨lw_p65, List.forall_mem_cons.mpr ⟨lw_p66, List.forall_mem_cons.mpr ⟨lw_p67, List.forall_mem_cons.mpr ⟨lw_p68, List.forall_mem_cons.mpr ⟨lw_p69, List.forall_mem_cons.mpr ⟨lw_p70, List.forall_mem_cons.mpr ⟨lw_p71, fun _ h => absurd h List.not_mem_nil⟩⟩⟩⟩⟩⟩⟩⟩
def lw_privs : List (MethodName × Nat) := lw_privs_1 ++ (lw_privs_2 ++ (lw_privs_3 ++ (lw_privs_4 ++ (lw_privs_5))))
def lw_tbl : List Cond := k2_sels lw_privs ++ tables_1
theorem lw_privs_ok : ∀ q ∈ lw_privs, lw_okq q := by
  show ∀ q ∈ lw_privs_1 ++ (lw_privs_2 ++ (lw_privs_3 ++ (lw_privs_4 ++ (lw_privs_5)))), lw_okq q
  exact List.forall_mem_append.mpr ⟨lw_r1, List.forall_mem_append.mpr ⟨lw_r2, List.forall_mem_append.mpr ⟨lw_r3, List.forall_mem_append.mpr ⟨lw_r4, lw_r5⟩⟩⟩⟩

def RX0 : String := "PouredScreen$Place"
def TX0 : u_T := fun k => match k with
  | 0 => ("PouredScreen$Place", "row", "I", false)
  | 1 => ("PouredScreen$Place", "column", "I", false)
  | _ => ("PouredScreen$Place", "pending", "Z", false)
def tyX0 : Nat → FieldType := fun k => match k with
  | 0 => .int
  | 1 => .int
  | _ => .boolean
abbrev wsX00 : List Cond := u_ws RX0 TX0 3
theorem nmX0 : ∀ a, a < 3 → ∀ b, b < 3 → a ≠ b → (TX0 a).2.1 ≠ (TX0 b).2.1 := by decide +kernel
theorem tyX0_ok : ∀ k, k < 3 → parseFieldDescriptor (TX0 k).2.2.1 = some (tyX0 k) := by decide +kernel
abbrev cX0_init : ByteArray := prog_2_method_1_code
def yX0_init : MethodName := ⟨RX0, "<init>", "()V"⟩
abbrev cX0_set : ByteArray := prog_2_method_2_code
def yX0_set : MethodName := ⟨RX0, "set", "(II)V"⟩
abbrev cX0_copyFrom : ByteArray := prog_2_method_3_code
def yX0_copyFrom : MethodName := ⟨RX0, "copyFrom", "(LPouredScreen$Place;)V"⟩
def RX1 : String := "PouredScreen$Pouring"
def TX1 : u_T := fun k => match k with
  | 0 => ("PouredScreen$Pouring", "from", "LPouredScreen$Sheet;", false)
  | 1 => ("PouredScreen$Pouring", "inRow", "I", false)
  | 2 => ("PouredScreen$Pouring", "inColumn", "I", false)
  | 3 => ("PouredScreen$Pouring", "endRow", "I", false)
  | 4 => ("PouredScreen$Pouring", "cells", "I", false)
  | 5 => ("PouredScreen$Pouring", "width", "I", false)
  | 6 => ("PouredScreen$Pouring", "sign", "I", false)
  | 7 => ("PouredScreen$Pouring", "read", "I", false)
  | 8 => ("PouredScreen$Pouring", "row", "I", false)
  | 9 => ("PouredScreen$Pouring", "column", "I", false)
  | 10 => ("PouredScreen$Pouring", "behind", "I", false)
  | 11 => ("PouredScreen$Pouring", "wraps", "Z", false)
  | _ => ("PouredScreen$Pouring", "leftGap", "Z", false)
def tyX1 : Nat → FieldType := fun k => match k with
  | 0 => .object "PouredScreen$Sheet"
  | 1 => .int
  | 2 => .int
  | 3 => .int
  | 4 => .int
  | 5 => .int
  | 6 => .int
  | 7 => .int
  | 8 => .int
  | 9 => .int
  | 10 => .int
  | 11 => .boolean
  | _ => .boolean
abbrev wsX10 : List Cond := u_ws RX1 TX1 13
theorem nmX1 : ∀ a, a < 13 → ∀ b, b < 13 → a ≠ b → (TX1 a).2.1 ≠ (TX1 b).2.1 := by decide +kernel
theorem tyX1_ok : ∀ k, k < 13 → parseFieldDescriptor (TX1 k).2.2.1 = some (tyX1 k) := by decide +kernel
abbrev cX1_init : ByteArray := prog_3_method_1_code
def yX1_init : MethodName := ⟨RX1, "<init>", "()V"⟩
abbrev cX1_begin : ByteArray := prog_3_method_2_code
def yX1_begin : MethodName := ⟨RX1, "begin", "(LPouredScreen$Sheet;III)V"⟩
abbrev cX1_next : ByteArray := prog_3_method_3_code
def yX1_next : MethodName := ⟨RX1, "next", "()Z"⟩
abbrev cX1_signOf : ByteArray := prog_3_method_4_code
def yX1_signOf : MethodName := ⟨RX1, "signOf", "(LPouredScreen$Sheet;III)I"⟩
abbrev cX1_readUpTo : ByteArray := prog_3_method_5_code
def yX1_readUpTo : MethodName := ⟨RX1, "readUpTo", "(I)Z"⟩
abbrev cX1_rowsBefore : ByteArray := prog_3_method_6_code
def yX1_rowsBefore : MethodName := ⟨RX1, "rowsBefore", "(LPouredScreen$Sheet;II)I"⟩
abbrev cX1_rowsIn : ByteArray := prog_3_method_7_code
def yX1_rowsIn : MethodName := ⟨RX1, "rowsIn", "(LPouredScreen$Sheet;I)I"⟩
abbrev cX1_pour : ByteArray := prog_3_method_8_code
def yX1_pour : MethodName := ⟨RX1, "pour", "(LPouredScreen$Sheet;LPouredScreen$Sheet;II)I"⟩
abbrev cX1_pourLines : ByteArray := prog_3_method_9_code
def yX1_pourLines : MethodName := ⟨RX1, "pourLines", "(LPouredScreen$Sheet;LPouredScreen$Sheet;I)V"⟩
abbrev cX1_pourLine : ByteArray := prog_3_method_10_code
def yX1_pourLine : MethodName := ⟨RX1, "pourLine", "(LPouredScreen$Sheet;I)V"⟩
abbrev cX1_follow : ByteArray := prog_3_method_11_code
def yX1_follow : MethodName := ⟨RX1, "follow", "(LPouredScreen$Sheet;LPouredScreen$Place;LPouredScreen$Sheet;LPouredScreen$Place;I)V"⟩
def RX2 : String := "PouredScreen$Row"
def TX2 : u_T := fun k => match k with
  | 0 => ("PouredScreen$Row", "cells", "[I", true)
  | 1 => ("PouredScreen$Row", "wrap", "Z", false)
  | _ => ("PouredScreen$Row", "gap", "Z", false)
def tyX2 : Nat → FieldType := fun k => match k with
  | 0 => .array .int
  | 1 => .boolean
  | _ => .boolean
abbrev wsX20 : List Cond := u_ws RX2 TX2 3
theorem nmX2 : ∀ a, a < 3 → ∀ b, b < 3 → a ≠ b → (TX2 a).2.1 ≠ (TX2 b).2.1 := by decide +kernel
theorem tyX2_ok : ∀ k, k < 3 → parseFieldDescriptor (TX2 k).2.2.1 = some (tyX2 k) := by decide +kernel
abbrev cX2_init : ByteArray := prog_4_method_1_code
def yX2_init : MethodName := ⟨RX2, "<init>", "()V"⟩
abbrev cX2_at : ByteArray := prog_4_method_2_code
def yX2_at : MethodName := ⟨RX2, "at", "(I)I"⟩
abbrev cX2_set : ByteArray := prog_4_method_3_code
def yX2_set : MethodName := ⟨RX2, "set", "(II)V"⟩
abbrev cX2_clear : ByteArray := prog_4_method_4_code
def yX2_clear : MethodName := ⟨RX2, "clear", "()V"⟩
abbrev cX2_unmark : ByteArray := prog_4_method_5_code
def yX2_unmark : MethodName := ⟨RX2, "unmark", "()V"⟩
abbrev cX2_copyFrom : ByteArray := prog_4_method_6_code
def yX2_copyFrom : MethodName := ⟨RX2, "copyFrom", "(LPouredScreen$Row;)V"⟩
abbrev cX2_taken : ByteArray := prog_4_method_7_code
def yX2_taken : MethodName := ⟨RX2, "taken", "()I"⟩
abbrev cX2_filled : ByteArray := prog_4_method_8_code
def yX2_filled : MethodName := ⟨RX2, "filled", "()I"⟩
abbrev cX2_isBlank : ByteArray := prog_4_method_9_code
def yX2_isBlank : MethodName := ⟨RX2, "isBlank", "()Z"⟩
abbrev cX2_signs : ByteArray := prog_4_method_10_code
def yX2_signs : MethodName := ⟨RX2, "signs", "()I"⟩
abbrev cX2_signsBefore : ByteArray := prog_4_method_11_code
def yX2_signsBefore : MethodName := ⟨RX2, "signsBefore", "(I)I"⟩
abbrev cX2_erase : ByteArray := prog_4_method_12_code
def yX2_erase : MethodName := ⟨RX2, "erase", "(III)V"⟩
abbrev cX2_put : ByteArray := prog_4_method_13_code
def yX2_put : MethodName := ⟨RX2, "put", "(II)V"⟩
abbrev cX2_overwrite : ByteArray := prog_4_method_14_code
def yX2_overwrite : MethodName := ⟨RX2, "overwrite", "(III)V"⟩
abbrev cX2_openCells : ByteArray := prog_4_method_15_code
def yX2_openCells : MethodName := ⟨RX2, "openCells", "(III)V"⟩
abbrev cX2_closeCells : ByteArray := prog_4_method_16_code
def yX2_closeCells : MethodName := ⟨RX2, "closeCells", "(III)V"⟩
def RX3 : String := "PouredScreen$Sheet"
def TX3 : u_T := fun k => match k with
  | 0 => ("PouredScreen$Sheet", "rows", "[LPouredScreen$Row;", true)
  | 1 => ("PouredScreen$Sheet", "cursor", "LPouredScreen$Place;", true)
  | 2 => ("PouredScreen$Sheet", "kept", "[LPouredScreen$Place;", true)
  | 3 => ("PouredScreen$Sheet", "keptCount", "I", false)
  | 4 => ("PouredScreen$Sheet", "history", "I", false)
  | 5 => ("PouredScreen$Sheet", "width", "I", false)
  | 6 => ("PouredScreen$Sheet", "height", "I", false)
  | 7 => ("PouredScreen$Sheet", "first", "I", false)
  | _ => ("PouredScreen$Sheet", "last", "I", false)
def tyX3 : Nat → FieldType := fun k => match k with
  | 0 => .array (.object "PouredScreen$Row")
  | 1 => .object "PouredScreen$Place"
  | 2 => .array (.object "PouredScreen$Place")
  | 3 => .int
  | 4 => .int
  | 5 => .int
  | 6 => .int
  | 7 => .int
  | _ => .int
abbrev wsX30 : List Cond := u_ws RX3 TX3 9
theorem nmX3 : ∀ a, a < 9 → ∀ b, b < 9 → a ≠ b → (TX3 a).2.1 ≠ (TX3 b).2.1 := by decide +kernel
theorem tyX3_ok : ∀ k, k < 9 → parseFieldDescriptor (TX3 k).2.2.1 = some (tyX3 k) := by decide +kernel
abbrev cX3_init : ByteArray := prog_5_method_1_code
def yX3_init : MethodName := ⟨RX3, "<init>", "()V"⟩
abbrev cX3_copyFrom : ByteArray := prog_5_method_2_code
def yX3_copyFrom : MethodName := ⟨RX3, "copyFrom", "(LPouredScreen$Sheet;)V"⟩
abbrev cX3_clear : ByteArray := prog_5_method_3_code
def yX3_clear : MethodName := ⟨RX3, "clear", "(II)V"⟩
abbrev cX3_rowAt : ByteArray := prog_5_method_4_code
def yX3_rowAt : MethodName := ⟨RX3, "rowAt", "(I)LPouredScreen$Row;"⟩
abbrev cX3_screenRow : ByteArray := prog_5_method_5_code
def yX3_screenRow : MethodName := ⟨RX3, "screenRow", "(I)LPouredScreen$Row;"⟩
abbrev cX3_hasCell : ByteArray := prog_5_method_6_code
def yX3_hasCell : MethodName := ⟨RX3, "hasCell", "(II)Z"⟩
abbrev cX3_isCursorInRegion : ByteArray := prog_5_method_7_code
def yX3_isCursorInRegion : MethodName := ⟨RX3, "isCursorInRegion", "()Z"⟩
abbrev cX3_keptPlace : ByteArray := prog_5_method_8_code
def yX3_keptPlace : MethodName := ⟨RX3, "keptPlace", "(I)LPouredScreen$Place;"⟩
abbrev cX3_keepCursor : ByteArray := prog_5_method_9_code
def yX3_keepCursor : MethodName := ⟨RX3, "keepCursor", "()V"⟩
abbrev cX3_takeCursorBack : ByteArray := prog_5_method_10_code
def yX3_takeCursorBack : MethodName := ⟨RX3, "takeCursorBack", "()V"⟩
abbrev cX3_taken : ByteArray := prog_5_method_11_code
def yX3_taken : MethodName := ⟨RX3, "taken", "()I"⟩
abbrev cX3_write : ByteArray := prog_5_method_12_code
def yX3_write : MethodName := ⟨RX3, "write", "(I)V"⟩
abbrev cX3_goOn : ByteArray := prog_5_method_13_code
def yX3_goOn : MethodName := ⟨RX3, "goOn", "()Z"⟩
abbrev cX3_lineFeed : ByteArray := prog_5_method_14_code
def yX3_lineFeed : MethodName := ⟨RX3, "lineFeed", "()Z"⟩
abbrev cX3_pushTopRow : ByteArray := prog_5_method_15_code
def yX3_pushTopRow : MethodName := ⟨RX3, "pushTopRow", "()V"⟩
abbrev cX3_eraseInRow : ByteArray := prog_5_method_16_code
def yX3_eraseInRow : MethodName := ⟨RX3, "eraseInRow", "(I)V"⟩
abbrev cX3_eraseRows : ByteArray := prog_5_method_17_code
def yX3_eraseRows : MethodName := ⟨RX3, "eraseRows", "(II)V"⟩
abbrev cX3_openRows : ByteArray := prog_5_method_18_code
def yX3_openRows : MethodName := ⟨RX3, "openRows", "(I)I"⟩
abbrev cX3_closeRows : ByteArray := prog_5_method_19_code
def yX3_closeRows : MethodName := ⟨RX3, "closeRows", "(I)I"⟩
abbrev cX3_takeRow : ByteArray := prog_5_method_20_code
def yX3_takeRow : MethodName := ⟨RX3, "takeRow", "(I)V"⟩
abbrev cX3_unmarkAbove : ByteArray := prog_5_method_21_code
def yX3_unmarkAbove : MethodName := ⟨RX3, "unmarkAbove", "(I)V"⟩
abbrev cX3_carryBlank : ByteArray := prog_5_method_22_code
def yX3_carryBlank : MethodName := ⟨RX3, "carryBlank", "(II)V"⟩
abbrev cX3_countedRows : ByteArray := prog_5_method_23_code
def yX3_countedRows : MethodName := ⟨RX3, "countedRows", "()I"⟩
abbrev cX3_endsLine : ByteArray := prog_5_method_24_code
def yX3_endsLine : MethodName := ⟨RX3, "endsLine", "(II)Z"⟩
abbrev cX3_linesBefore : ByteArray := prog_5_method_25_code
def yX3_linesBefore : MethodName := ⟨RX3, "linesBefore", "(I)I"⟩
abbrev cX3_lines : ByteArray := prog_5_method_26_code
def yX3_lines : MethodName := ⟨RX3, "lines", "()I"⟩
abbrev cX3_startOfLine : ByteArray := prog_5_method_27_code
def yX3_startOfLine : MethodName := ⟨RX3, "startOfLine", "(I)I"⟩
abbrev cX3_startOf : ByteArray := prog_5_method_28_code
def yX3_startOf : MethodName := ⟨RX3, "startOf", "(I)I"⟩
abbrev cX3_endOf : ByteArray := prog_5_method_29_code
def yX3_endOf : MethodName := ⟨RX3, "endOf", "(I)I"⟩
abbrev cX3_cellsOfLine : ByteArray := prog_5_method_30_code
def yX3_cellsOfLine : MethodName := ⟨RX3, "cellsOfLine", "(IZ)I"⟩
abbrev cX3_signsOfLine : ByteArray := prog_5_method_31_code
def yX3_signsOfLine : MethodName := ⟨RX3, "signsOfLine", "(II)I"⟩
abbrev cX3_lineOf : ByteArray := prog_5_method_32_code
def yX3_lineOf : MethodName := ⟨RX3, "lineOf", "(LPouredScreen$Place;)I"⟩
abbrev cX3_markOf : ByteArray := prog_5_method_33_code
def yX3_markOf : MethodName := ⟨RX3, "markOf", "(LPouredScreen$Place;)I"⟩
def RX4 : String := "PouredScreen"
def TX4 : u_T := fun k => match k with
  | 0 => ("PouredScreen", "sheet", "LPouredScreen$Sheet;", true)
  | 1 => ("PouredScreen", "remembered", "[LPouredScreen$Sheet;", true)
  | 2 => ("PouredScreen", "pouring", "LPouredScreen$Pouring;", true)
  | 3 => ("PouredScreen", "nextState", "I", false)
  | _ => ("PouredScreen", "states", "I", false)
def tyX4 : Nat → FieldType := fun k => match k with
  | 0 => .object "PouredScreen$Sheet"
  | 1 => .array (.object "PouredScreen$Sheet")
  | 2 => .object "PouredScreen$Pouring"
  | 3 => .int
  | _ => .int
abbrev wsX40 : List Cond := u_ws RX4 TX4 5
theorem nmX4 : ∀ a, a < 5 → ∀ b, b < 5 → a ≠ b → (TX4 a).2.1 ≠ (TX4 b).2.1 := by decide +kernel
theorem tyX4_ok : ∀ k, k < 5 → parseFieldDescriptor (TX4 k).2.2.1 = some (tyX4 k) := by decide +kernel
abbrev cX4_init : ByteArray := prog_1_method_1_code
def yX4_init : MethodName := ⟨RX4, "<init>", "()V"⟩
abbrev cX4_feed : ByteArray := prog_1_method_2_code
def yX4_feed : MethodName := ⟨RX4, "feed", "(I)I"⟩
abbrev cX4_moveTo : ByteArray := prog_1_method_3_code
def yX4_moveTo : MethodName := ⟨RX4, "moveTo", "(II)I"⟩
abbrev cX4_setRegion : ByteArray := prog_1_method_4_code
def yX4_setRegion : MethodName := ⟨RX4, "setRegion", "(II)I"⟩
abbrev cX4_eraseLine : ByteArray := prog_1_method_5_code
def yX4_eraseLine : MethodName := ⟨RX4, "eraseLine", "(I)I"⟩
abbrev cX4_eraseScreen : ByteArray := prog_1_method_6_code
def yX4_eraseScreen : MethodName := ⟨RX4, "eraseScreen", "(I)I"⟩
abbrev cX4_insertRows : ByteArray := prog_1_method_7_code
def yX4_insertRows : MethodName := ⟨RX4, "insertRows", "(I)I"⟩
abbrev cX4_deleteRows : ByteArray := prog_1_method_8_code
def yX4_deleteRows : MethodName := ⟨RX4, "deleteRows", "(I)I"⟩
abbrev cX4_insertCells : ByteArray := prog_1_method_9_code
def yX4_insertCells : MethodName := ⟨RX4, "insertCells", "(I)I"⟩
abbrev cX4_deleteCells : ByteArray := prog_1_method_10_code
def yX4_deleteCells : MethodName := ⟨RX4, "deleteCells", "(I)I"⟩
abbrev cX4_keep : ByteArray := prog_1_method_11_code
def yX4_keep : MethodName := ⟨RX4, "keep", "()I"⟩
abbrev cX4_back : ByteArray := prog_1_method_12_code
def yX4_back : MethodName := ⟨RX4, "back", "()I"⟩
abbrev cX4_resize : ByteArray := prog_1_method_13_code
def yX4_resize : MethodName := ⟨RX4, "resize", "(II)I"⟩
abbrev cX4_cell : ByteArray := prog_1_method_14_code
def yX4_cell : MethodName := ⟨RX4, "cell", "(II)I"⟩
abbrev cX4_row : ByteArray := prog_1_method_15_code
def yX4_row : MethodName := ⟨RX4, "row", "(II)I"⟩
abbrev cX4_line : ByteArray := prog_1_method_16_code
def yX4_line : MethodName := ⟨RX4, "line", "(II)I"⟩
abbrev cX4_sign : ByteArray := prog_1_method_17_code
def yX4_sign : MethodName := ⟨RX4, "sign", "(II)I"⟩
abbrev cX4_cursor : ByteArray := prog_1_method_18_code
def yX4_cursor : MethodName := ⟨RX4, "cursor", "(II)I"⟩
abbrev cX4_ifWidth : ByteArray := prog_1_method_19_code
def yX4_ifWidth : MethodName := ⟨RX4, "ifWidth", "(I)I"⟩
abbrev cX4_widthFor : ByteArray := prog_1_method_20_code
def yX4_widthFor : MethodName := ⟨RX4, "widthFor", "(I)I"⟩
abbrev cX4_told : ByteArray := prog_1_method_21_code
def yX4_told : MethodName := ⟨RX4, "told", "(I)I"⟩
abbrev cX4_undo : ByteArray := prog_1_method_22_code
def yX4_undo : MethodName := ⟨RX4, "undo", "()I"⟩
abbrev cX4_digest : ByteArray := prog_1_method_23_code
def yX4_digest : MethodName := ⟨RX4, "digest", "()J"⟩
abbrev cX4_mix : ByteArray := prog_1_method_24_code
def yX4_mix : MethodName := ⟨RX4, "mix", "(JI)J"⟩
abbrev cX4_mixRows : ByteArray := prog_1_method_25_code
def yX4_mixRows : MethodName := ⟨RX4, "mixRows", "(J)J"⟩
abbrev cX4_mixCells : ByteArray := prog_1_method_26_code
def yX4_mixCells : MethodName := ⟨RX4, "mixCells", "(J)J"⟩
abbrev cX4_mixLines : ByteArray := prog_1_method_27_code
def yX4_mixLines : MethodName := ⟨RX4, "mixLines", "(J)J"⟩
abbrev cX4_mixCursors : ByteArray := prog_1_method_28_code
def yX4_mixCursors : MethodName := ⟨RX4, "mixCursors", "(J)J"⟩
abbrev cX4_isControl : ByteArray := prog_1_method_29_code
def yX4_isControl : MethodName := ⟨RX4, "isControl", "(I)Z"⟩
abbrev cX4_isWidth : ByteArray := prog_1_method_30_code
def yX4_isWidth : MethodName := ⟨RX4, "isWidth", "(I)Z"⟩
abbrev cX4_sizeOf : ByteArray := prog_1_method_31_code
def yX4_sizeOf : MethodName := ⟨RX4, "sizeOf", "(I)I"⟩
abbrev cX4_obey : ByteArray := prog_1_method_32_code
def yX4_obey : MethodName := ⟨RX4, "obey", "(I)V"⟩
abbrev cX4_stateAt : ByteArray := prog_1_method_33_code
def yX4_stateAt : MethodName := ⟨RX4, "stateAt", "(I)LPouredScreen$Sheet;"⟩
abbrev cX4_remember : ByteArray := prog_1_method_34_code
def yX4_remember : MethodName := ⟨RX4, "remember", "()LPouredScreen$Sheet;"⟩
def RX5 : String := "PouredScreenModel"
def TX5 : u_T := fun k => match k with
  | 0 => ("PouredScreenModel", "page", "[I", true)
  | 1 => ("PouredScreenModel", "remembered", "I", false)
  | 2 => ("PouredScreenModel", "fresh", "[I", true)
  | 3 => ("PouredScreenModel", "lineOfCursor", "[I", true)
  | 4 => ("PouredScreenModel", "markOfCursor", "[I", true)
  | 5 => ("PouredScreenModel", "toRow", "[I", true)
  | 6 => ("PouredScreenModel", "toColumn", "[I", true)
  | 7 => ("PouredScreenModel", "isFull", "[Z", true)
  | 8 => ("PouredScreenModel", "width", "I", false)
  | 9 => ("PouredScreenModel", "base", "I", false)
  | 10 => ("PouredScreenModel", "fills", "Z", false)
  | 11 => ("PouredScreenModel", "outRow", "I", false)
  | _ => ("PouredScreenModel", "outColumn", "I", false)
def tyX5 : Nat → FieldType := fun k => match k with
  | 0 => .array .int
  | 1 => .int
  | 2 => .array .int
  | 3 => .array .int
  | 4 => .array .int
  | 5 => .array .int
  | 6 => .array .int
  | 7 => .array .boolean
  | 8 => .int
  | 9 => .int
  | 10 => .boolean
  | 11 => .int
  | _ => .int
abbrev wsX50 : List Cond := u_ws RX5 TX5 13
theorem nmX5 : ∀ a, a < 13 → ∀ b, b < 13 → a ≠ b → (TX5 a).2.1 ≠ (TX5 b).2.1 := by decide +kernel
theorem tyX5_ok : ∀ k, k < 13 → parseFieldDescriptor (TX5 k).2.2.1 = some (tyX5 k) := by decide +kernel
abbrev cX5_init : ByteArray := prog_7_method_1_code
def yX5_init : MethodName := ⟨RX5, "<init>", "()V"⟩
abbrev cX5_in : ByteArray := prog_7_method_3_code
def yX5_in : MethodName := ⟨RX5, "in", "(III)Z"⟩
abbrev cX5_records : ByteArray := prog_7_method_4_code
def yX5_records : MethodName := ⟨RX5, "records", "()V"⟩
abbrev cX5_at : ByteArray := prog_7_method_5_code
def yX5_at : MethodName := ⟨RX5, "at", "(II)I"⟩
abbrev cX5_code : ByteArray := prog_7_method_6_code
def yX5_code : MethodName := ⟨RX5, "code", "(II)I"⟩
abbrev cX5_isIt : ByteArray := prog_7_method_7_code
def yX5_isIt : MethodName := ⟨RX5, "isIt", "(II)Z"⟩
abbrev cX5_blanks : ByteArray := prog_7_method_8_code
def yX5_blanks : MethodName := ⟨RX5, "blanks", "(I)V"⟩
abbrev cX5_unwraps : ByteArray := prog_7_method_9_code
def yX5_unwraps : MethodName := ⟨RX5, "unwraps", "(I)V"⟩
abbrev cX5_copies : ByteArray := prog_7_method_10_code
def yX5_copies : MethodName := ⟨RX5, "copies", "(II)V"⟩
abbrev cX5_isWide : ByteArray := prog_7_method_11_code
def yX5_isWide : MethodName := ⟨RX5, "isWide", "(I)Z"⟩
abbrev cX5_isRight : ByteArray := prog_7_method_12_code
def yX5_isRight : MethodName := ⟨RX5, "isRight", "(I)Z"⟩
abbrev cX5_unwrapsAhead : ByteArray := prog_7_method_13_code
def yX5_unwrapsAhead : MethodName := ⟨RX5, "unwrapsAhead", "(I)V"⟩
abbrev cX5_sets : ByteArray := prog_7_method_14_code
def yX5_sets : MethodName := ⟨RX5, "sets", "(III)V"⟩
abbrev cX5_frees : ByteArray := prog_7_method_15_code
def yX5_frees : MethodName := ⟨RX5, "frees", "(III)V"⟩
abbrev cX5_erases : ByteArray := prog_7_method_16_code
def yX5_erases : MethodName := ⟨RX5, "erases", "(III)V"⟩
abbrev cX5_usedCells : ByteArray := prog_7_method_17_code
def yX5_usedCells : MethodName := ⟨RX5, "usedCells", "(I)I"⟩
abbrev cX5_filled : ByteArray := prog_7_method_18_code
def yX5_filled : MethodName := ⟨RX5, "filled", "(I)I"⟩
abbrev cX5_filledAll : ByteArray := prog_7_method_19_code
def yX5_filledAll : MethodName := ⟨RX5, "filledAll", "()I"⟩
abbrev cX5_keepsRow : ByteArray := prog_7_method_20_code
def yX5_keepsRow : MethodName := ⟨RX5, "keepsRow", "(I)V"⟩
abbrev cX5_scrolls : ByteArray := prog_7_method_21_code
def yX5_scrolls : MethodName := ⟨RX5, "scrolls", "()V"⟩
abbrev cX5_feedsLine : ByteArray := prog_7_method_22_code
def yX5_feedsLine : MethodName := ⟨RX5, "feedsLine", "()Z"⟩
abbrev cX5_goesOn : ByteArray := prog_7_method_23_code
def yX5_goesOn : MethodName := ⟨RX5, "goesOn", "(Z)V"⟩
abbrev cX5_writes : ByteArray := prog_7_method_24_code
def yX5_writes : MethodName := ⟨RX5, "writes", "(I)V"⟩
abbrev cX5_moves : ByteArray := prog_7_method_25_code
def yX5_moves : MethodName := ⟨RX5, "moves", "(I)V"⟩
abbrev cX5_feed : ByteArray := prog_7_method_26_code
def yX5_feed : MethodName := ⟨RX5, "feed", "(I)I"⟩
abbrev cX5_isRow : ByteArray := prog_7_method_27_code
def yX5_isRow : MethodName := ⟨RX5, "isRow", "(I)Z"⟩
abbrev cX5_isColumn : ByteArray := prog_7_method_28_code
def yX5_isColumn : MethodName := ⟨RX5, "isColumn", "(I)Z"⟩
abbrev cX5_goes : ByteArray := prog_7_method_29_code
def yX5_goes : MethodName := ⟨RX5, "goes", "(II)V"⟩
abbrev cX5_moveTo : ByteArray := prog_7_method_30_code
def yX5_moveTo : MethodName := ⟨RX5, "moveTo", "(II)I"⟩
abbrev cX5_setRegion : ByteArray := prog_7_method_31_code
def yX5_setRegion : MethodName := ⟨RX5, "setRegion", "(II)I"⟩
abbrev cX5_erasesLine : ByteArray := prog_7_method_32_code
def yX5_erasesLine : MethodName := ⟨RX5, "erasesLine", "(I)V"⟩
abbrev cX5_eraseLine : ByteArray := prog_7_method_33_code
def yX5_eraseLine : MethodName := ⟨RX5, "eraseLine", "(I)I"⟩
abbrev cX5_eraseScreen : ByteArray := prog_7_method_34_code
def yX5_eraseScreen : MethodName := ⟨RX5, "eraseScreen", "(I)I"⟩
abbrev cX5_isInRegion : ByteArray := prog_7_method_35_code
def yX5_isInRegion : MethodName := ⟨RX5, "isInRegion", "()Z"⟩
abbrev cX5_filledRows : ByteArray := prog_7_method_36_code
def yX5_filledRows : MethodName := ⟨RX5, "filledRows", "(II)I"⟩
abbrev cX5_insertRows : ByteArray := prog_7_method_37_code
def yX5_insertRows : MethodName := ⟨RX5, "insertRows", "(I)I"⟩
abbrev cX5_deleteRows : ByteArray := prog_7_method_38_code
def yX5_deleteRows : MethodName := ⟨RX5, "deleteRows", "(I)I"⟩
abbrev cX5_splits : ByteArray := prog_7_method_39_code
def yX5_splits : MethodName := ⟨RX5, "splits", "(Z)V"⟩
abbrev cX5_insertCells : ByteArray := prog_7_method_40_code
def yX5_insertCells : MethodName := ⟨RX5, "insertCells", "(I)I"⟩
abbrev cX5_deleteCells : ByteArray := prog_7_method_41_code
def yX5_deleteCells : MethodName := ⟨RX5, "deleteCells", "(I)I"⟩
abbrev cX5_keep : ByteArray := prog_7_method_42_code
def yX5_keep : MethodName := ⟨RX5, "keep", "()I"⟩
abbrev cX5_back : ByteArray := prog_7_method_43_code
def yX5_back : MethodName := ⟨RX5, "back", "()I"⟩
abbrev cX5_counted : ByteArray := prog_7_method_44_code
def yX5_counted : MethodName := ⟨RX5, "counted", "()I"⟩
abbrev cX5_slot : ByteArray := prog_7_method_45_code
def yX5_slot : MethodName := ⟨RX5, "slot", "(I)I"⟩
abbrev cX5_lineEnd : ByteArray := prog_7_method_46_code
def yX5_lineEnd : MethodName := ⟨RX5, "lineEnd", "(II)I"⟩
abbrev cX5_lineBegin : ByteArray := prog_7_method_47_code
def yX5_lineBegin : MethodName := ⟨RX5, "lineBegin", "(II)I"⟩
abbrev cX5_lines : ByteArray := prog_7_method_48_code
def yX5_lines : MethodName := ⟨RX5, "lines", "()I"⟩
abbrev cX5_cellsOf : ByteArray := prog_7_method_49_code
def yX5_cellsOf : MethodName := ⟨RX5, "cellsOf", "(II)I"⟩
abbrev cX5_signsIn : ByteArray := prog_7_method_50_code
def yX5_signsIn : MethodName := ⟨RX5, "signsIn", "(II)I"⟩
abbrev cX5_signsOf : ByteArray := prog_7_method_51_code
def yX5_signsOf : MethodName := ⟨RX5, "signsOf", "(II)I"⟩
abbrev cX5_lineOf : ByteArray := prog_7_method_52_code
def yX5_lineOf : MethodName := ⟨RX5, "lineOf", "(III)I"⟩
abbrev cX5_line : ByteArray := prog_7_method_53_code
def yX5_line : MethodName := ⟨RX5, "line", "(II)I"⟩
abbrev cX5_signOf : ByteArray := prog_7_method_54_code
def yX5_signOf : MethodName := ⟨RX5, "signOf", "(III)I"⟩
abbrev cX5_sign : ByteArray := prog_7_method_55_code
def yX5_sign : MethodName := ⟨RX5, "sign", "(II)I"⟩
abbrev cX5_lineAt : ByteArray := prog_7_method_56_code
def yX5_lineAt : MethodName := ⟨RX5, "lineAt", "(I)I"⟩
abbrev cX5_markOf : ByteArray := prog_7_method_57_code
def yX5_markOf : MethodName := ⟨RX5, "markOf", "(II)I"⟩
abbrev cX5_rowOf : ByteArray := prog_7_method_58_code
def yX5_rowOf : MethodName := ⟨RX5, "rowOf", "(I)I"⟩
abbrev cX5_columnOf : ByteArray := prog_7_method_59_code
def yX5_columnOf : MethodName := ⟨RX5, "columnOf", "(I)I"⟩
abbrev cX5_cursorOf : ByteArray := prog_7_method_60_code
def yX5_cursorOf : MethodName := ⟨RX5, "cursorOf", "(II)I"⟩
abbrev cX5_cursor : ByteArray := prog_7_method_61_code
def yX5_cursor : MethodName := ⟨RX5, "cursor", "(II)I"⟩
abbrev cX5_lays : ByteArray := prog_7_method_62_code
def yX5_lays : MethodName := ⟨RX5, "lays", "(II)V"⟩
abbrev cX5_pours : ByteArray := prog_7_method_63_code
def yX5_pours : MethodName := ⟨RX5, "pours", "(I)V"⟩
abbrev cX5_meets : ByteArray := prog_7_method_64_code
def yX5_meets : MethodName := ⟨RX5, "meets", "(II)V"⟩
abbrev cX5_ends : ByteArray := prog_7_method_65_code
def yX5_ends : MethodName := ⟨RX5, "ends", "(II)V"⟩
abbrev cX5_poursAll : ByteArray := prog_7_method_66_code
def yX5_poursAll : MethodName := ⟨RX5, "poursAll", "()I"⟩
abbrev cX5_rowsWith : ByteArray := prog_7_method_67_code
def yX5_rowsWith : MethodName := ⟨RX5, "rowsWith", "(I)I"⟩
abbrev cX5_ifWidth : ByteArray := prog_7_method_68_code
def yX5_ifWidth : MethodName := ⟨RX5, "ifWidth", "(I)I"⟩
abbrev cX5_widthFor : ByteArray := prog_7_method_69_code
def yX5_widthFor : MethodName := ⟨RX5, "widthFor", "(I)I"⟩
abbrev cX5_marks : ByteArray := prog_7_method_70_code
def yX5_marks : MethodName := ⟨RX5, "marks", "()V"⟩
abbrev cX5_takes : ByteArray := prog_7_method_71_code
def yX5_takes : MethodName := ⟨RX5, "takes", "(II)V"⟩
abbrev cX5_resize : ByteArray := prog_7_method_72_code
def yX5_resize : MethodName := ⟨RX5, "resize", "(II)I"⟩
abbrev cX5_lands : ByteArray := prog_7_method_73_code
def yX5_lands : MethodName := ⟨RX5, "lands", "(I)V"⟩
abbrev cX5_cell : ByteArray := prog_7_method_74_code
def yX5_cell : MethodName := ⟨RX5, "cell", "(II)I"⟩
abbrev cX5_signsFilled : ByteArray := prog_7_method_75_code
def yX5_signsFilled : MethodName := ⟨RX5, "signsFilled", "(I)I"⟩
abbrev cX5_rowOfSlot : ByteArray := prog_7_method_76_code
def yX5_rowOfSlot : MethodName := ⟨RX5, "rowOfSlot", "(II)I"⟩
abbrev cX5_row : ByteArray := prog_7_method_77_code
def yX5_row : MethodName := ⟨RX5, "row", "(II)I"⟩
abbrev cX5_told : ByteArray := prog_7_method_78_code
def yX5_told : MethodName := ⟨RX5, "told", "(I)I"⟩
abbrev cX5_undo : ByteArray := prog_7_method_79_code
def yX5_undo : MethodName := ⟨RX5, "undo", "()I"⟩
abbrev cX5_mixedLines : ByteArray := prog_7_method_80_code
def yX5_mixedLines : MethodName := ⟨RX5, "mixedLines", "(J)J"⟩
abbrev cX5_digest : ByteArray := prog_7_method_81_code
def yX5_digest : MethodName := ⟨RX5, "digest", "()J"⟩

def RL : String := "PouredScreenLaw"
abbrev cL_law : ByteArray := code
def yL_law : MethodName := ⟨RL, "law", "([I)Z"⟩

abbrev vwCl : List vw_C := [(RX0, TX0, 3), (RX1, TX1, 13), (RX2, TX2, 3), (RX3, TX3, 9), (RX4, TX4, 5), (RX5, TX5, 13)]
/-! the words of the tables that stay, for every method -/
def z_WG : List Cond := lw_tbl.filter goodWord
theorem z_tab (i : Nat) {w : Cond} (h : tables_1[i]? = some w) (hg : goodWord w = true) : w ∈ z_WG := List.mem_filter.mpr ⟨List.mem_append_right _ (List.mem_of_getElem? h), hg⟩
theorem z_sel (i : Nat) {q : MethodName × Nat} (h : lw_privs[i]? = some q) (hg : goodWord (Cond.selects q.1.cls q.1 q.1) = true) : Cond.selects q.1.cls q.1 q.1 ∈ z_WG := List.mem_filter.mpr ⟨List.mem_append_left _ (List.mem_map.mpr ⟨q, List.mem_of_getElem? h, rfl⟩), hg⟩
def z_nest : Cond → Bool
  | .fieldLinkNest .. => true
  | .methodLinkNest .. => true
  | .arrayOver (.object _) => true
  | _ => false
def z_WN : List Cond := tables_1.filter z_nest
theorem z_nst (i : Nat) {w : Cond} (h : tables_1[i]? = some w) (hg : z_nest w = true) : w ∈ z_WN := List.mem_filter.mpr ⟨List.mem_of_getElem? h, hg⟩
theorem z_good : ∀ w ∈ z_WG, goodWord w = true := fun w h => (List.mem_filter.mp h).2
theorem z_in : ∀ w ∈ z_WG, w ∈ lw_tbl := fun w h => (List.mem_filter.mp h).1
/-- a method: its name, code, locals, what it returns, its room, what else is known of the start -/
abbrev z_M : Type := MethodName × ByteArray × Nat × Option FieldType × Room × (State → Nat → Prop)
abbrev z_my (M : z_M) : MethodName := M.1
abbrev z_mc (M : z_M) : ByteArray := M.2.1
abbrev z_mn (M : z_M) : Nat := M.2.2.1
abbrev z_mr (M : z_M) : Option FieldType := M.2.2.2.1
abbrev z_mR (M : z_M) : Room := M.2.2.2.2.1
abbrev z_mE (M : z_M) : State → Nat → Prop := M.2.2.2.2.2
def z_D (len : Nat) (M : z_M) (pc n : Nat) (i : Instr) : Prop := decode (z_mc M) pc = .ok (i, len) ∧ pc + len = n
def z_J (M : z_M) (pc n tgt : Nat) (off : Int) (i : Instr) : Prop := decode (z_mc M) pc = .ok (i, 3) ∧ pc + 3 = n ∧ (pc : Int) + off = (tgt : Int)
/-- a field's entry: field k of class ci -/
def z_F (own : String) (idx ci k : Nat) (C : String) (T : u_T) (N : Nat) : Prop := vwCl[ci]? = some (C, T, N) ∧ k < N ∧ (Cond.fieldLink own idx (T k).1 (T k).2.1 (T k).2.2.1 ∈ z_WG ∨ ∃ host, Cond.fieldLinkNest own idx (T k).1 (T k).2.1 (T k).2.2.1 host ∈ z_WN)
/-- a method's entry -/
def z_LB (own : String) (idx : Nat) (y : MethodName) (b : ByteArray) (nL : Nat) (r : Option FieldType) (n : Nat) : Prop :=
  (Cond.methodLink own idx y ∈ z_WG ∨ ∃ host, Cond.methodLinkNest own idx y host ∈ z_WN) ∧ Cond.code y b nL r ∈ z_WG ∧ Cond.initialized y.cls ∈ z_WG ∧ (y.cls ≠ "java/lang/invoke/MethodHandle" ∧ y.cls ≠ "java/lang/invoke/VarHandle" ∧ (parseMethodDescriptor y.desc).map (fun d => d.parameters.length) = some n)
def z_LV (own : String) (idx : Nat) (y : MethodName) (b : ByteArray) (nL : Nat) (r : Option FieldType) (n : Nat) : Prop := z_LB own idx y b nL r n ∧ Cond.instanceMethod y ∈ z_WG ∧ Cond.selects y.cls y y ∈ z_WG
def z_LS (own : String) (idx : Nat) (y : MethodName) (b : ByteArray) (nL : Nat) (r : Option FieldType) (n : Nat) : Prop := z_LB own idx y b nL r n ∧ Cond.static y ∈ z_WG
def z_LI (own : String) (idx : Nat) (y : MethodName) (b : ByteArray) (nL : Nat) (r : Option FieldType) (n : Nat) : Prop := z_LB own idx y b nL r n ∧ y.name = "<init>" ∧ Cond.instanceMethod y ∈ z_WG
def M_X0_init : z_M := (yX0_init, cX0_init, 1, none, { frames := 1, cells := 0, slots := 0, locals := 24 }, fun _ _ => True)
def M_X0_set : z_M := (yX0_set, cX0_set, 3, none, { frames := 0, cells := 0, slots := 0, locals := 0 }, fun _ _ => True)
def M_X0_copyFrom : z_M := (yX0_copyFrom, cX0_copyFrom, 2, none, { frames := 0, cells := 0, slots := 0, locals := 0 }, fun _ _ => True)
def M_X1_init : z_M := (yX1_init, cX1_init, 1, none, { frames := 1, cells := 0, slots := 0, locals := 24 }, fun _ _ => True)
def M_X1_begin : z_M := (yX1_begin, cX1_begin, 5, none, { frames := 2, cells := 0, slots := 0, locals := 44 }, fun _ _ => True)
def M_X1_next : z_M := (yX1_next, cX1_next, 2, (some .boolean), { frames := 2, cells := 0, slots := 0, locals := 44 }, fun _ _ => True)
def M_X1_signOf : z_M := (yX1_signOf, cX1_signOf, 5, (some .int), { frames := 4, cells := 0, slots := 0, locals := 87 }, fun _ _ => True)
def M_X1_readUpTo : z_M := (yX1_readUpTo, cX1_readUpTo, 3, (some .boolean), { frames := 3, cells := 0, slots := 0, locals := 65 }, fun _ _ => True)
def M_X1_rowsBefore : z_M := (yX1_rowsBefore, cX1_rowsBefore, 9, (some .int), { frames := 3, cells := 0, slots := 0, locals := 68 }, fun _ _ => True)
def M_X1_rowsIn : z_M := (yX1_rowsIn, cX1_rowsIn, 3, (some .int), { frames := 4, cells := 0, slots := 0, locals := 96 }, fun _ _ => True)
def M_X1_pour : z_M := (yX1_pour, cX1_pour, 10, (some .int), { frames := 5, cells := 0, slots := 0, locals := 126 }, fun _ _ => True)
def M_X1_pourLines : z_M := (yX1_pourLines, cX1_pourLines, 8, none, { frames := 4, cells := 0, slots := 0, locals := 89 }, fun _ _ => True)
def M_X1_pourLine : z_M := (yX1_pourLine, cX1_pourLine, 5, none, { frames := 3, cells := 0, slots := 0, locals := 65 }, fun _ _ => True)
def M_X1_follow : z_M := (yX1_follow, cX1_follow, 11, none, { frames := 4, cells := 0, slots := 0, locals := 96 }, fun _ _ => True)
def M_X2_init : z_M := (yX2_init, cX2_init, 1, none, { frames := 1, cells := 1, slots := 20, locals := 24 }, fun _ _ => True)
def M_X2_at : z_M := (yX2_at, cX2_at, 2, (some .int), { frames := 0, cells := 0, slots := 0, locals := 0 }, fun _ _ => True)
def M_X2_set : z_M := (yX2_set, cX2_set, 3, none, { frames := 0, cells := 0, slots := 0, locals := 0 }, fun _ _ => True)
def M_X2_clear : z_M := (yX2_clear, cX2_clear, 2, none, { frames := 0, cells := 0, slots := 0, locals := 0 }, fun _ _ => True)
def M_X2_unmark : z_M := (yX2_unmark, cX2_unmark, 1, none, { frames := 0, cells := 0, slots := 0, locals := 0 }, fun _ _ => True)
def M_X2_copyFrom : z_M := (yX2_copyFrom, cX2_copyFrom, 2, none, { frames := 1, cells := 0, slots := 0, locals := 40 }, fun _ _ => True)
def M_X2_taken : z_M := (yX2_taken, cX2_taken, 6, (some .int), { frames := 0, cells := 0, slots := 0, locals := 0 }, fun _ _ => True)
def M_X2_filled : z_M := (yX2_filled, cX2_filled, 2, (some .int), { frames := 0, cells := 0, slots := 0, locals := 0 }, fun _ _ => True)
def M_X2_isBlank : z_M := (yX2_isBlank, cX2_isBlank, 1, (some .boolean), { frames := 1, cells := 0, slots := 0, locals := 21 }, fun _ _ => True)
def M_X2_signs : z_M := (yX2_signs, cX2_signs, 6, (some .int), { frames := 0, cells := 0, slots := 0, locals := 0 }, fun _ _ => True)
def M_X2_signsBefore : z_M := (yX2_signsBefore, cX2_signsBefore, 4, (some .int), { frames := 0, cells := 0, slots := 0, locals := 0 }, fun _ _ => True)
def M_X2_erase : z_M := (yX2_erase, cX2_erase, 7, none, { frames := 1, cells := 0, slots := 0, locals := 22 }, fun _ _ => True)
def M_X2_put : z_M := (yX2_put, cX2_put, 3, none, { frames := 1, cells := 0, slots := 0, locals := 22 }, fun _ _ => True)
def M_X2_overwrite : z_M := (yX2_overwrite, cX2_overwrite, 4, none, { frames := 2, cells := 0, slots := 0, locals := 48 }, fun _ _ => True)
def M_X2_openCells : z_M := (yX2_openCells, cX2_openCells, 5, none, { frames := 1, cells := 0, slots := 0, locals := 22 }, fun _ _ => True)
def M_X2_closeCells : z_M := (yX2_closeCells, cX2_closeCells, 5, none, { frames := 2, cells := 0, slots := 0, locals := 48 }, fun _ _ => True)
def M_X3_init : z_M := (yX3_init, cX3_init, 2, none, { frames := 2, cells := 70, slots := 783, locals := 44 }, fun _ _ => True)
def M_X3_copyFrom : z_M := (yX3_copyFrom, cX3_copyFrom, 3, none, { frames := 2, cells := 0, slots := 0, locals := 61 }, fun _ _ => True)
def M_X3_clear : z_M := (yX3_clear, cX3_clear, 7, none, { frames := 1, cells := 0, slots := 0, locals := 21 }, fun _ _ => True)
def M_X3_rowAt : z_M := (yX3_rowAt, cX3_rowAt, 2, (some (.object "PouredScreen$Row")), { frames := 0, cells := 0, slots := 0, locals := 0 }, fun _ _ => True)
def M_X3_screenRow : z_M := (yX3_screenRow, cX3_screenRow, 2, (some (.object "PouredScreen$Row")), { frames := 1, cells := 0, slots := 0, locals := 21 }, fun _ _ => True)
def M_X3_hasCell : z_M := (yX3_hasCell, cX3_hasCell, 3, (some .boolean), { frames := 0, cells := 0, slots := 0, locals := 0 }, fun _ _ => True)
def M_X3_isCursorInRegion : z_M := (yX3_isCursorInRegion, cX3_isCursorInRegion, 1, (some .boolean), { frames := 0, cells := 0, slots := 0, locals := 0 }, fun _ _ => True)
def M_X3_keptPlace : z_M := (yX3_keptPlace, cX3_keptPlace, 2, (some (.object "PouredScreen$Place")), { frames := 0, cells := 0, slots := 0, locals := 0 }, fun _ _ => True)
def M_X3_keepCursor : z_M := (yX3_keepCursor, cX3_keepCursor, 1, none, { frames := 1, cells := 0, slots := 0, locals := 22 }, fun _ _ => True)
def M_X3_takeCursorBack : z_M := (yX3_takeCursorBack, cX3_takeCursorBack, 1, none, { frames := 1, cells := 0, slots := 0, locals := 21 }, fun _ _ => True)
def M_X3_taken : z_M := (yX3_taken, cX3_taken, 3, (some .int), { frames := 2, cells := 0, slots := 0, locals := 42 }, fun _ _ => True)
def M_X3_write : z_M := (yX3_write, cX3_write, 2, none, { frames := 5, cells := 0, slots := 0, locals := 108 }, fun _ _ => True)
def M_X3_goOn : z_M := (yX3_goOn, cX3_goOn, 2, (some .boolean), { frames := 4, cells := 0, slots := 0, locals := 87 }, fun _ _ => True)
def M_X3_lineFeed : z_M := (yX3_lineFeed, cX3_lineFeed, 2, (some .boolean), { frames := 3, cells := 0, slots := 0, locals := 66 }, fun _ _ => True)
def M_X3_pushTopRow : z_M := (yX3_pushTopRow, cX3_pushTopRow, 2, none, { frames := 2, cells := 0, slots := 0, locals := 45 }, fun _ _ => True)
def M_X3_eraseInRow : z_M := (yX3_eraseInRow, cX3_eraseInRow, 4, none, { frames := 2, cells := 0, slots := 0, locals := 48 }, fun _ _ => True)
def M_X3_eraseRows : z_M := (yX3_eraseRows, cX3_eraseRows, 4, none, { frames := 2, cells := 0, slots := 0, locals := 48 }, fun _ _ => True)
def M_X3_openRows : z_M := (yX3_openRows, cX3_openRows, 4, (some .int), { frames := 2, cells := 0, slots := 0, locals := 45 }, fun _ _ => True)
def M_X3_closeRows : z_M := (yX3_closeRows, cX3_closeRows, 4, (some .int), { frames := 3, cells := 0, slots := 0, locals := 66 }, fun _ _ => True)
def M_X3_takeRow : z_M := (yX3_takeRow, cX3_takeRow, 2, none, { frames := 2, cells := 0, slots := 0, locals := 45 }, fun _ _ => True)
def M_X3_unmarkAbove : z_M := (yX3_unmarkAbove, cX3_unmarkAbove, 2, none, { frames := 1, cells := 0, slots := 0, locals := 21 }, fun _ _ => True)
def M_X3_carryBlank : z_M := (yX3_carryBlank, cX3_carryBlank, 5, none, { frames := 1, cells := 0, slots := 0, locals := 21 }, fun _ _ => True)
def M_X3_countedRows : z_M := (yX3_countedRows, cX3_countedRows, 3, (some .int), { frames := 1, cells := 0, slots := 0, locals := 24 }, fun _ _ => True)
def M_X3_endsLine : z_M := (yX3_endsLine, cX3_endsLine, 3, (some .boolean), { frames := 1, cells := 0, slots := 0, locals := 21 }, fun _ _ => True)
def M_X3_linesBefore : z_M := (yX3_linesBefore, cX3_linesBefore, 5, (some .int), { frames := 2, cells := 0, slots := 0, locals := 46 }, fun _ _ => True)
def M_X3_lines : z_M := (yX3_lines, cX3_lines, 1, (some .int), { frames := 3, cells := 0, slots := 0, locals := 70 }, fun _ _ => True)
def M_X3_startOfLine : z_M := (yX3_startOfLine, cX3_startOfLine, 5, (some .int), { frames := 2, cells := 0, slots := 0, locals := 46 }, fun _ _ => True)
def M_X3_startOf : z_M := (yX3_startOf, cX3_startOf, 3, (some .int), { frames := 1, cells := 0, slots := 0, locals := 21 }, fun _ _ => True)
def M_X3_endOf : z_M := (yX3_endOf, cX3_endOf, 4, (some .int), { frames := 2, cells := 0, slots := 0, locals := 46 }, fun _ _ => True)
def M_X3_cellsOfLine : z_M := (yX3_cellsOfLine, cX3_cellsOfLine, 4, (some .int), { frames := 1, cells := 0, slots := 0, locals := 21 }, fun _ _ => True)
def M_X3_signsOfLine : z_M := (yX3_signsOfLine, cX3_signsOfLine, 5, (some .int), { frames := 2, cells := 0, slots := 0, locals := 44 }, fun _ _ => True)
def M_X3_lineOf : z_M := (yX3_lineOf, cX3_lineOf, 2, (some .int), { frames := 3, cells := 0, slots := 0, locals := 70 }, fun _ _ => True)
def M_X3_markOf : z_M := (yX3_markOf, cX3_markOf, 7, (some .int), { frames := 2, cells := 0, slots := 0, locals := 46 }, fun _ _ => True)
def M_X4_init : z_M := (yX4_init, cX4_init, 2, none, { frames := 3, cells := 641, slots := 7149, locals := 65 }, fun _ _ => True)
def M_X4_feed : z_M := (yX4_feed, cX4_feed, 3, (some .int), { frames := 6, cells := 0, slots := 0, locals := 129 }, fun _ _ => True)
def M_X4_moveTo : z_M := (yX4_moveTo, cX4_moveTo, 4, (some .int), { frames := 4, cells := 0, slots := 0, locals := 104 }, fun _ _ => True)
def M_X4_setRegion : z_M := (yX4_setRegion, cX4_setRegion, 3, (some .int), { frames := 4, cells := 0, slots := 0, locals := 104 }, fun _ _ => True)
def M_X4_eraseLine : z_M := (yX4_eraseLine, cX4_eraseLine, 3, (some .int), { frames := 4, cells := 0, slots := 0, locals := 104 }, fun _ _ => True)
def M_X4_eraseScreen : z_M := (yX4_eraseScreen, cX4_eraseScreen, 3, (some .int), { frames := 4, cells := 0, slots := 0, locals := 104 }, fun _ _ => True)
def M_X4_insertRows : z_M := (yX4_insertRows, cX4_insertRows, 2, (some .int), { frames := 4, cells := 0, slots := 0, locals := 104 }, fun _ _ => True)
def M_X4_deleteRows : z_M := (yX4_deleteRows, cX4_deleteRows, 2, (some .int), { frames := 4, cells := 0, slots := 0, locals := 104 }, fun _ _ => True)
def M_X4_insertCells : z_M := (yX4_insertCells, cX4_insertCells, 4, (some .int), { frames := 4, cells := 0, slots := 0, locals := 104 }, fun _ _ => True)
def M_X4_deleteCells : z_M := (yX4_deleteCells, cX4_deleteCells, 4, (some .int), { frames := 4, cells := 0, slots := 0, locals := 104 }, fun _ _ => True)
def M_X4_keep : z_M := (yX4_keep, cX4_keep, 1, (some .int), { frames := 4, cells := 0, slots := 0, locals := 104 }, fun _ _ => True)
def M_X4_back : z_M := (yX4_back, cX4_back, 1, (some .int), { frames := 4, cells := 0, slots := 0, locals := 104 }, fun _ _ => True)
def M_X4_resize : z_M := (yX4_resize, cX4_resize, 4, (some .int), { frames := 6, cells := 0, slots := 0, locals := 155 }, fun _ _ => True)
def M_X4_cell : z_M := (yX4_cell, cX4_cell, 3, (some .int), { frames := 2, cells := 0, slots := 0, locals := 42 }, fun _ _ => True)
def M_X4_row : z_M := (yX4_row, cX4_row, 4, (some .int), { frames := 2, cells := 0, slots := 0, locals := 42 }, fun _ _ => True)
def M_X4_line : z_M := (yX4_line, cX4_line, 5, (some .int), { frames := 3, cells := 0, slots := 0, locals := 70 }, fun _ _ => True)
def M_X4_sign : z_M := (yX4_sign, cX4_sign, 4, (some .int), { frames := 5, cells := 0, slots := 0, locals := 111 }, fun _ _ => True)
def M_X4_cursor : z_M := (yX4_cursor, cX4_cursor, 4, (some .int), { frames := 4, cells := 0, slots := 0, locals := 91 }, fun _ _ => True)
def M_X4_ifWidth : z_M := (yX4_ifWidth, cX4_ifWidth, 2, (some .int), { frames := 5, cells := 0, slots := 0, locals := 118 }, fun _ _ => True)
def M_X4_widthFor : z_M := (yX4_widthFor, cX4_widthFor, 3, (some .int), { frames := 5, cells := 0, slots := 0, locals := 118 }, fun _ _ => True)
def M_X4_told : z_M := (yX4_told, cX4_told, 2, (some .int), { frames := 4, cells := 0, slots := 0, locals := 90 }, fun _ _ => True)
def M_X4_undo : z_M := (yX4_undo, cX4_undo, 1, (some .int), { frames := 3, cells := 0, slots := 0, locals := 83 }, fun _ _ => True)
def M_X4_digest : z_M := (yX4_digest, cX4_digest, 4, (some .long), { frames := 6, cells := 0, slots := 0, locals := 140 }, fun _ _ => True)
def M_X4_mix : z_M := (yX4_mix, cX4_mix, 3, (some .long), { frames := 0, cells := 0, slots := 0, locals := 0 }, fun _ _ => True)
def M_X4_mixRows : z_M := (yX4_mixRows, cX4_mixRows, 7, (some .long), { frames := 3, cells := 0, slots := 0, locals := 65 }, fun _ _ => True)
def M_X4_mixCells : z_M := (yX4_mixCells, cX4_mixCells, 7, (some .long), { frames := 3, cells := 0, slots := 0, locals := 64 }, fun _ _ => True)
def M_X4_mixLines : z_M := (yX4_mixLines, cX4_mixLines, 9, (some .long), { frames := 4, cells := 0, slots := 0, locals := 94 }, fun _ _ => True)
def M_X4_mixCursors : z_M := (yX4_mixCursors, cX4_mixCursors, 7, (some .long), { frames := 5, cells := 0, slots := 0, locals := 114 }, fun _ _ => True)
def M_X4_isControl : z_M := (yX4_isControl, cX4_isControl, 1, (some .boolean), { frames := 0, cells := 0, slots := 0, locals := 0 }, fun _ _ => True)
def M_X4_isWidth : z_M := (yX4_isWidth, cX4_isWidth, 1, (some .boolean), { frames := 0, cells := 0, slots := 0, locals := 0 }, fun _ _ => True)
def M_X4_sizeOf : z_M := (yX4_sizeOf, cX4_sizeOf, 1, (some .int), { frames := 0, cells := 0, slots := 0, locals := 0 }, fun _ _ => True)
def M_X4_obey : z_M := (yX4_obey, cX4_obey, 3, none, { frames := 4, cells := 0, slots := 0, locals := 87 }, fun _ _ => True)
def M_X4_stateAt : z_M := (yX4_stateAt, cX4_stateAt, 2, (some (.object "PouredScreen$Sheet")), { frames := 0, cells := 0, slots := 0, locals := 0 }, fun _ _ => True)
def M_X4_remember : z_M := (yX4_remember, cX4_remember, 2, (some (.object "PouredScreen$Sheet")), { frames := 3, cells := 0, slots := 0, locals := 83 }, fun _ _ => True)
def M_X5_init : z_M := (yX5_init, cX5_init, 2, none, { frames := 3, cells := 7, slots := 7195, locals := 64 }, fun _ _ => True)
def M_X5_in : z_M := (yX5_in, cX5_in, 3, (some .boolean), { frames := 0, cells := 0, slots := 0, locals := 0 }, fun _ _ => True)
def M_X5_records : z_M := (yX5_records, cX5_records, 2, none, { frames := 0, cells := 0, slots := 0, locals := 0 }, fun _ _ => True)
def M_X5_at : z_M := (yX5_at, cX5_at, 2, (some .int), { frames := 0, cells := 0, slots := 0, locals := 0 }, fun _ _ => True)
def M_X5_code : z_M := (yX5_code, cX5_code, 3, (some .int), { frames := 1, cells := 0, slots := 0, locals := 21 }, fun _ _ => True)
def M_X5_isIt : z_M := (yX5_isIt, cX5_isIt, 3, (some .boolean), { frames := 1, cells := 0, slots := 0, locals := 21 }, fun _ _ => True)
def M_X5_blanks : z_M := (yX5_blanks, cX5_blanks, 3, none, { frames := 2, cells := 0, slots := 0, locals := 42 }, fun _ _ => True)
def M_X5_unwraps : z_M := (yX5_unwraps, cX5_unwraps, 2, none, { frames := 1, cells := 0, slots := 0, locals := 21 }, fun _ _ => True)
def M_X5_copies : z_M := (yX5_copies, cX5_copies, 4, none, { frames := 1, cells := 0, slots := 0, locals := 21 }, fun _ _ => True)
def M_X5_isWide : z_M := (yX5_isWide, cX5_isWide, 1, (some .boolean), { frames := 1, cells := 0, slots := 0, locals := 22 }, fun _ _ => True)
def M_X5_isRight : z_M := (yX5_isRight, cX5_isRight, 1, (some .boolean), { frames := 0, cells := 0, slots := 0, locals := 0 }, fun _ _ => True)
def M_X5_unwrapsAhead : z_M := (yX5_unwrapsAhead, cX5_unwrapsAhead, 2, none, { frames := 2, cells := 0, slots := 0, locals := 42 }, fun _ _ => True)
def M_X5_sets : z_M := (yX5_sets, cX5_sets, 4, none, { frames := 2, cells := 0, slots := 0, locals := 42 }, fun _ _ => True)
def M_X5_frees : z_M := (yX5_frees, cX5_frees, 4, none, { frames := 3, cells := 0, slots := 0, locals := 65 }, fun _ _ => True)
def M_X5_erases : z_M := (yX5_erases, cX5_erases, 5, none, { frames := 4, cells := 0, slots := 0, locals := 88 }, fun _ _ => True)
def M_X5_usedCells : z_M := (yX5_usedCells, cX5_usedCells, 3, (some .int), { frames := 2, cells := 0, slots := 0, locals := 43 }, fun _ _ => True)
def M_X5_filled : z_M := (yX5_filled, cX5_filled, 4, (some .int), { frames := 2, cells := 0, slots := 0, locals := 43 }, fun _ _ => True)
def M_X5_filledAll : z_M := (yX5_filledAll, cX5_filledAll, 3, (some .int), { frames := 3, cells := 0, slots := 0, locals := 66 }, fun _ _ => True)
def M_X5_keepsRow : z_M := (yX5_keepsRow, cX5_keepsRow, 3, none, { frames := 2, cells := 0, slots := 0, locals := 44 }, fun _ _ => True)
def M_X5_scrolls : z_M := (yX5_scrolls, cX5_scrolls, 4, none, { frames := 3, cells := 0, slots := 0, locals := 66 }, fun _ _ => True)
def M_X5_feedsLine : z_M := (yX5_feedsLine, cX5_feedsLine, 1, (some .boolean), { frames := 4, cells := 0, slots := 0, locals := 89 }, fun _ _ => True)
def M_X5_goesOn : z_M := (yX5_goesOn, cX5_goesOn, 4, none, { frames := 5, cells := 0, slots := 0, locals := 109 }, fun _ _ => True)
def M_X5_writes : z_M := (yX5_writes, cX5_writes, 4, none, { frames := 6, cells := 0, slots := 0, locals := 132 }, fun _ _ => True)
def M_X5_moves : z_M := (yX5_moves, cX5_moves, 4, none, { frames := 5, cells := 0, slots := 0, locals := 109 }, fun _ _ => True)
def M_X5_feed : z_M := (yX5_feed, cX5_feed, 3, (some .int), { frames := 7, cells := 0, slots := 0, locals := 155 }, fun _ _ => True)
def M_X5_isRow : z_M := (yX5_isRow, cX5_isRow, 2, (some .boolean), { frames := 1, cells := 0, slots := 0, locals := 22 }, fun _ _ => True)
def M_X5_isColumn : z_M := (yX5_isColumn, cX5_isColumn, 2, (some .boolean), { frames := 1, cells := 0, slots := 0, locals := 22 }, fun _ _ => True)
def M_X5_goes : z_M := (yX5_goes, cX5_goes, 3, none, { frames := 0, cells := 0, slots := 0, locals := 0 }, fun _ _ => True)
def M_X5_moveTo : z_M := (yX5_moveTo, cX5_moveTo, 4, (some .int), { frames := 2, cells := 0, slots := 0, locals := 43 }, fun _ _ => True)
def M_X5_setRegion : z_M := (yX5_setRegion, cX5_setRegion, 3, (some .int), { frames := 2, cells := 0, slots := 0, locals := 43 }, fun _ _ => True)
def M_X5_erasesLine : z_M := (yX5_erasesLine, cX5_erasesLine, 4, none, { frames := 5, cells := 0, slots := 0, locals := 112 }, fun _ _ => True)
def M_X5_eraseLine : z_M := (yX5_eraseLine, cX5_eraseLine, 3, (some .int), { frames := 6, cells := 0, slots := 0, locals := 135 }, fun _ _ => True)
def M_X5_eraseScreen : z_M := (yX5_eraseScreen, cX5_eraseScreen, 5, (some .int), { frames := 6, cells := 0, slots := 0, locals := 135 }, fun _ _ => True)
def M_X5_isInRegion : z_M := (yX5_isInRegion, cX5_isInRegion, 1, (some .boolean), { frames := 1, cells := 0, slots := 0, locals := 22 }, fun _ _ => True)
def M_X5_filledRows : z_M := (yX5_filledRows, cX5_filledRows, 5, (some .int), { frames := 3, cells := 0, slots := 0, locals := 66 }, fun _ _ => True)
def M_X5_insertRows : z_M := (yX5_insertRows, cX5_insertRows, 7, (some .int), { frames := 4, cells := 0, slots := 0, locals := 90 }, fun _ _ => True)
def M_X5_deleteRows : z_M := (yX5_deleteRows, cX5_deleteRows, 7, (some .int), { frames := 4, cells := 0, slots := 0, locals := 90 }, fun _ _ => True)
def M_X5_splits : z_M := (yX5_splits, cX5_splits, 4, none, { frames := 2, cells := 0, slots := 0, locals := 43 }, fun _ _ => True)
def M_X5_insertCells : z_M := (yX5_insertCells, cX5_insertCells, 7, (some .int), { frames := 3, cells := 0, slots := 0, locals := 66 }, fun _ _ => True)
def M_X5_deleteCells : z_M := (yX5_deleteCells, cX5_deleteCells, 7, (some .int), { frames := 3, cells := 0, slots := 0, locals := 66 }, fun _ _ => True)
def M_X5_keep : z_M := (yX5_keep, cX5_keep, 1, (some .int), { frames := 1, cells := 0, slots := 0, locals := 21 }, fun _ _ => True)
def M_X5_back : z_M := (yX5_back, cX5_back, 1, (some .int), { frames := 1, cells := 0, slots := 0, locals := 22 }, fun _ _ => True)
def M_X5_counted : z_M := (yX5_counted, cX5_counted, 3, (some .int), { frames := 3, cells := 0, slots := 0, locals := 66 }, fun _ _ => True)
def M_X5_slot : z_M := (yX5_slot, cX5_slot, 2, (some .int), { frames := 0, cells := 0, slots := 0, locals := 0 }, fun _ _ => True)
def M_X5_lineEnd : z_M := (yX5_lineEnd, cX5_lineEnd, 4, (some .int), { frames := 2, cells := 0, slots := 0, locals := 43 }, fun _ _ => True)
def M_X5_lineBegin : z_M := (yX5_lineBegin, cX5_lineBegin, 5, (some .int), { frames := 3, cells := 0, slots := 0, locals := 66 }, fun _ _ => True)
def M_X5_lines : z_M := (yX5_lines, cX5_lines, 4, (some .int), { frames := 4, cells := 0, slots := 0, locals := 88 }, fun _ _ => True)
def M_X5_cellsOf : z_M := (yX5_cellsOf, cX5_cellsOf, 3, (some .int), { frames := 3, cells := 0, slots := 0, locals := 65 }, fun _ _ => True)
def M_X5_signsIn : z_M := (yX5_signsIn, cX5_signsIn, 5, (some .int), { frames := 2, cells := 0, slots := 0, locals := 43 }, fun _ _ => True)
def M_X5_signsOf : z_M := (yX5_signsOf, cX5_signsOf, 5, (some .int), { frames := 4, cells := 0, slots := 0, locals := 87 }, fun _ _ => True)
def M_X5_lineOf : z_M := (yX5_lineOf, cX5_lineOf, 6, (some .int), { frames := 5, cells := 0, slots := 0, locals := 111 }, fun _ _ => True)
def M_X5_line : z_M := (yX5_line, cX5_line, 5, (some .int), { frames := 6, cells := 0, slots := 0, locals := 136 }, fun _ _ => True)
def M_X5_signOf : z_M := (yX5_signOf, cX5_signOf, 9, (some .int), { frames := 4, cells := 0, slots := 0, locals := 87 }, fun _ _ => True)
def M_X5_sign : z_M := (yX5_sign, cX5_sign, 5, (some .int), { frames := 5, cells := 0, slots := 0, locals := 115 }, fun _ _ => True)
def M_X5_lineAt : z_M := (yX5_lineAt, cX5_lineAt, 6, (some .int), { frames := 4, cells := 0, slots := 0, locals := 88 }, fun _ _ => True)
def M_X5_markOf : z_M := (yX5_markOf, cX5_markOf, 9, (some .int), { frames := 5, cells := 0, slots := 0, locals := 113 }, fun _ _ => True)
def M_X5_rowOf : z_M := (yX5_rowOf, cX5_rowOf, 2, (some .int), { frames := 0, cells := 0, slots := 0, locals := 0 }, fun _ _ => True)
def M_X5_columnOf : z_M := (yX5_columnOf, cX5_columnOf, 2, (some .int), { frames := 0, cells := 0, slots := 0, locals := 0 }, fun _ _ => True)
def M_X5_cursorOf : z_M := (yX5_cursorOf, cX5_cursorOf, 4, (some .int), { frames := 6, cells := 0, slots := 0, locals := 141 }, fun _ _ => True)
def M_X5_cursor : z_M := (yX5_cursor, cX5_cursor, 3, (some .int), { frames := 7, cells := 0, slots := 0, locals := 164 }, fun _ _ => True)
def M_X5_lays : z_M := (yX5_lays, cX5_lays, 4, none, { frames := 0, cells := 0, slots := 0, locals := 0 }, fun _ _ => True)
def M_X5_pours : z_M := (yX5_pours, cX5_pours, 3, none, { frames := 2, cells := 0, slots := 0, locals := 42 }, fun _ _ => True)
def M_X5_meets : z_M := (yX5_meets, cX5_meets, 4, none, { frames := 0, cells := 0, slots := 0, locals := 0 }, fun _ _ => True)
def M_X5_ends : z_M := (yX5_ends, cX5_ends, 5, none, { frames := 0, cells := 0, slots := 0, locals := 0 }, fun _ _ => True)
def M_X5_poursAll : z_M := (yX5_poursAll, cX5_poursAll, 10, (some .int), { frames := 4, cells := 0, slots := 0, locals := 88 }, fun _ _ => True)
def M_X5_rowsWith : z_M := (yX5_rowsWith, cX5_rowsWith, 2, (some .int), { frames := 5, cells := 0, slots := 0, locals := 117 }, fun _ _ => True)
def M_X5_ifWidth : z_M := (yX5_ifWidth, cX5_ifWidth, 2, (some .int), { frames := 6, cells := 0, slots := 0, locals := 138 }, fun _ _ => True)
def M_X5_widthFor : z_M := (yX5_widthFor, cX5_widthFor, 3, (some .int), { frames := 6, cells := 0, slots := 0, locals := 138 }, fun _ _ => True)
def M_X5_marks : z_M := (yX5_marks, cX5_marks, 3, none, { frames := 7, cells := 0, slots := 0, locals := 164 }, fun _ _ => True)
def M_X5_takes : z_M := (yX5_takes, cX5_takes, 4, none, { frames := 1, cells := 0, slots := 0, locals := 21 }, fun _ _ => True)
def M_X5_resize : z_M := (yX5_resize, cX5_resize, 6, (some .int), { frames := 8, cells := 0, slots := 0, locals := 186 }, fun _ _ => True)
def M_X5_lands : z_M := (yX5_lands, cX5_lands, 6, none, { frames := 1, cells := 0, slots := 0, locals := 22 }, fun _ _ => True)
def M_X5_cell : z_M := (yX5_cell, cX5_cell, 4, (some .int), { frames := 2, cells := 0, slots := 0, locals := 43 }, fun _ _ => True)
def M_X5_signsFilled : z_M := (yX5_signsFilled, cX5_signsFilled, 4, (some .int), { frames := 2, cells := 0, slots := 0, locals := 43 }, fun _ _ => True)
def M_X5_rowOfSlot : z_M := (yX5_rowOfSlot, cX5_rowOfSlot, 3, (some .int), { frames := 3, cells := 0, slots := 0, locals := 66 }, fun _ _ => True)
def M_X5_row : z_M := (yX5_row, cX5_row, 3, (some .int), { frames := 4, cells := 0, slots := 0, locals := 88 }, fun _ _ => True)
def M_X5_told : z_M := (yX5_told, cX5_told, 2, (some .int), { frames := 5, cells := 0, slots := 0, locals := 111 }, fun _ _ => True)
def M_X5_undo : z_M := (yX5_undo, cX5_undo, 2, (some .int), { frames := 0, cells := 0, slots := 0, locals := 0 }, fun _ _ => True)
def M_X5_mixedLines : z_M := (yX5_mixedLines, cX5_mixedLines, 10, (some .long), { frames := 6, cells := 0, slots := 0, locals := 136 }, fun _ _ => True)
def M_X5_digest : z_M := (yX5_digest, cX5_digest, 5, (some .long), { frames := 7, cells := 0, slots := 0, locals := 165 }, fun _ _ => True)
def M_L_law : z_M := (yL_law, cL_law, 4, ret, room_1, fun _ _ => True)
theorem f_RX4_12 : z_F RX4 12 4 0 RX4 TX4 5 := ⟨rfl, by decide, Or.inl (z_tab 163 (by decide +kernel) rfl)⟩
theorem f_RX4_16 : z_F RX4 16 4 1 RX4 TX4 5 := ⟨rfl, by decide, Or.inl (z_tab 164 (by decide +kernel) rfl)⟩
theorem f_RX4_23 : z_F RX4 23 4 2 RX4 TX4 5 := ⟨rfl, by decide, Or.inl (z_tab 165 (by decide +kernel) rfl)⟩
theorem f_RX4_27 : z_F RX4 27 4 3 RX4 TX4 5 := ⟨rfl, by decide, Or.inl (z_tab 166 (by decide +kernel) rfl)⟩
theorem f_RX4_31 : z_F RX4 31 4 4 RX4 TX4 5 := ⟨rfl, by decide, Or.inl (z_tab 167 (by decide +kernel) rfl)⟩
theorem f_RX4_49 : z_F RX4 49 3 4 RX3 TX3 9 := ⟨rfl, by decide, Or.inr ⟨"PouredScreen", z_nst 85 (by decide +kernel) rfl⟩⟩
theorem f_RX4_56 : z_F RX4 56 3 5 RX3 TX3 9 := ⟨rfl, by decide, Or.inr ⟨"PouredScreen", z_nst 88 (by decide +kernel) rfl⟩⟩
theorem f_RX4_59 : z_F RX4 59 3 1 RX3 TX3 9 := ⟨rfl, by decide, Or.inr ⟨"PouredScreen", z_nst 78 (by decide +kernel) rfl⟩⟩
theorem f_RX4_63 : z_F RX4 63 0 0 RX0 TX0 3 := ⟨rfl, by decide, Or.inr ⟨"PouredScreen", z_nst 32 (by decide +kernel) rfl⟩⟩
theorem f_RX4_68 : z_F RX4 68 0 1 RX0 TX0 3 := ⟨rfl, by decide, Or.inr ⟨"PouredScreen", z_nst 36 (by decide +kernel) rfl⟩⟩
theorem f_RX4_75 : z_F RX4 75 3 6 RX3 TX3 9 := ⟨rfl, by decide, Or.inr ⟨"PouredScreen", z_nst 91 (by decide +kernel) rfl⟩⟩
theorem f_RX4_78 : z_F RX4 78 3 7 RX3 TX3 9 := ⟨rfl, by decide, Or.inr ⟨"PouredScreen", z_nst 93 (by decide +kernel) rfl⟩⟩
theorem f_RX4_81 : z_F RX4 81 3 8 RX3 TX3 9 := ⟨rfl, by decide, Or.inr ⟨"PouredScreen", z_nst 95 (by decide +kernel) rfl⟩⟩
theorem f_RX4_91 : z_F RX4 91 0 2 RX0 TX0 3 := ⟨rfl, by decide, Or.inr ⟨"PouredScreen", z_nst 39 (by decide +kernel) rfl⟩⟩
theorem f_RX4_129 : z_F RX4 129 3 3 RX3 TX3 9 := ⟨rfl, by decide, Or.inr ⟨"PouredScreen", z_nst 83 (by decide +kernel) rfl⟩⟩
theorem f_RX4_151 : z_F RX4 151 2 1 RX2 TX2 3 := ⟨rfl, by decide, Or.inr ⟨"PouredScreen", z_nst 63 (by decide +kernel) rfl⟩⟩
theorem f_RX4_154 : z_F RX4 154 2 2 RX2 TX2 3 := ⟨rfl, by decide, Or.inr ⟨"PouredScreen", z_nst 67 (by decide +kernel) rfl⟩⟩
theorem f_RX4_250 : z_F RX4 250 1 6 RX1 TX1 13 := ⟨rfl, by decide, Or.inr ⟨"PouredScreen", z_nst 129 (by decide +kernel) rfl⟩⟩
theorem f_RX0_7 : z_F RX0 7 0 0 RX0 TX0 3 := ⟨rfl, by decide, Or.inl (z_tab 31 (by decide +kernel) rfl)⟩
theorem f_RX0_13 : z_F RX0 13 0 1 RX0 TX0 3 := ⟨rfl, by decide, Or.inl (z_tab 35 (by decide +kernel) rfl)⟩
theorem f_RX0_16 : z_F RX0 16 0 2 RX0 TX0 3 := ⟨rfl, by decide, Or.inl (z_tab 38 (by decide +kernel) rfl)⟩
theorem f_RX1_9 : z_F RX1 9 1 0 RX1 TX1 13 := ⟨rfl, by decide, Or.inl (z_tab 122 (by decide +kernel) rfl)⟩
theorem f_RX1_15 : z_F RX1 15 1 1 RX1 TX1 13 := ⟨rfl, by decide, Or.inl (z_tab 123 (by decide +kernel) rfl)⟩
theorem f_RX1_19 : z_F RX1 19 1 2 RX1 TX1 13 := ⟨rfl, by decide, Or.inl (z_tab 124 (by decide +kernel) rfl)⟩
theorem f_RX1_22 : z_F RX1 22 1 3 RX1 TX1 13 := ⟨rfl, by decide, Or.inl (z_tab 125 (by decide +kernel) rfl)⟩
theorem f_RX1_25 : z_F RX1 25 1 4 RX1 TX1 13 := ⟨rfl, by decide, Or.inl (z_tab 126 (by decide +kernel) rfl)⟩
theorem f_RX1_28 : z_F RX1 28 1 5 RX1 TX1 13 := ⟨rfl, by decide, Or.inl (z_tab 127 (by decide +kernel) rfl)⟩
theorem f_RX1_31 : z_F RX1 31 1 6 RX1 TX1 13 := ⟨rfl, by decide, Or.inl (z_tab 128 (by decide +kernel) rfl)⟩
theorem f_RX1_34 : z_F RX1 34 1 7 RX1 TX1 13 := ⟨rfl, by decide, Or.inl (z_tab 130 (by decide +kernel) rfl)⟩
theorem f_RX1_37 : z_F RX1 37 1 8 RX1 TX1 13 := ⟨rfl, by decide, Or.inl (z_tab 131 (by decide +kernel) rfl)⟩
theorem f_RX1_40 : z_F RX1 40 1 9 RX1 TX1 13 := ⟨rfl, by decide, Or.inl (z_tab 132 (by decide +kernel) rfl)⟩
theorem f_RX1_43 : z_F RX1 43 1 10 RX1 TX1 13 := ⟨rfl, by decide, Or.inl (z_tab 133 (by decide +kernel) rfl)⟩
theorem f_RX1_46 : z_F RX1 46 1 11 RX1 TX1 13 := ⟨rfl, by decide, Or.inl (z_tab 134 (by decide +kernel) rfl)⟩
theorem f_RX1_50 : z_F RX1 50 1 12 RX1 TX1 13 := ⟨rfl, by decide, Or.inl (z_tab 135 (by decide +kernel) rfl)⟩
theorem f_RX1_72 : z_F RX1 72 3 5 RX3 TX3 9 := ⟨rfl, by decide, Or.inr ⟨"PouredScreen", z_nst 89 (by decide +kernel) rfl⟩⟩
theorem f_RX1_114 : z_F RX1 114 3 4 RX3 TX3 9 := ⟨rfl, by decide, Or.inr ⟨"PouredScreen", z_nst 86 (by decide +kernel) rfl⟩⟩
theorem f_RX1_121 : z_F RX1 121 3 1 RX3 TX3 9 := ⟨rfl, by decide, Or.inr ⟨"PouredScreen", z_nst 79 (by decide +kernel) rfl⟩⟩
theorem f_RX1_129 : z_F RX1 129 3 3 RX3 TX3 9 := ⟨rfl, by decide, Or.inr ⟨"PouredScreen", z_nst 82 (by decide +kernel) rfl⟩⟩
theorem f_RX1_136 : z_F RX1 136 0 2 RX0 TX0 3 := ⟨rfl, by decide, Or.inr ⟨"PouredScreen", z_nst 40 (by decide +kernel) rfl⟩⟩
theorem f_RX1_145 : z_F RX1 145 2 1 RX2 TX2 3 := ⟨rfl, by decide, Or.inr ⟨"PouredScreen", z_nst 61 (by decide +kernel) rfl⟩⟩
theorem f_RX1_148 : z_F RX1 148 2 2 RX2 TX2 3 := ⟨rfl, by decide, Or.inr ⟨"PouredScreen", z_nst 65 (by decide +kernel) rfl⟩⟩
theorem f_RX1_154 : z_F RX1 154 0 0 RX0 TX0 3 := ⟨rfl, by decide, Or.inr ⟨"PouredScreen", z_nst 34 (by decide +kernel) rfl⟩⟩
theorem f_RX2_9 : z_F RX2 9 2 0 RX2 TX2 3 := ⟨rfl, by decide, Or.inl (z_tab 59 (by decide +kernel) rfl)⟩
theorem f_RX2_18 : z_F RX2 18 2 1 RX2 TX2 3 := ⟨rfl, by decide, Or.inl (z_tab 60 (by decide +kernel) rfl)⟩
theorem f_RX2_22 : z_F RX2 22 2 2 RX2 TX2 3 := ⟨rfl, by decide, Or.inl (z_tab 64 (by decide +kernel) rfl)⟩
theorem f_RX3_11 : z_F RX3 11 3 0 RX3 TX3 9 := ⟨rfl, by decide, Or.inl (z_tab 76 (by decide +kernel) rfl)⟩
theorem f_RX3_20 : z_F RX3 20 3 1 RX3 TX3 9 := ⟨rfl, by decide, Or.inl (z_tab 77 (by decide +kernel) rfl)⟩
theorem f_RX3_24 : z_F RX3 24 3 2 RX3 TX3 9 := ⟨rfl, by decide, Or.inl (z_tab 80 (by decide +kernel) rfl)⟩
theorem f_RX3_28 : z_F RX3 28 3 3 RX3 TX3 9 := ⟨rfl, by decide, Or.inl (z_tab 81 (by decide +kernel) rfl)⟩
theorem f_RX3_32 : z_F RX3 32 3 4 RX3 TX3 9 := ⟨rfl, by decide, Or.inl (z_tab 84 (by decide +kernel) rfl)⟩
theorem f_RX3_35 : z_F RX3 35 3 5 RX3 TX3 9 := ⟨rfl, by decide, Or.inl (z_tab 87 (by decide +kernel) rfl)⟩
theorem f_RX3_38 : z_F RX3 38 3 6 RX3 TX3 9 := ⟨rfl, by decide, Or.inl (z_tab 90 (by decide +kernel) rfl)⟩
theorem f_RX3_41 : z_F RX3 41 3 7 RX3 TX3 9 := ⟨rfl, by decide, Or.inl (z_tab 92 (by decide +kernel) rfl)⟩
theorem f_RX3_44 : z_F RX3 44 3 8 RX3 TX3 9 := ⟨rfl, by decide, Or.inl (z_tab 94 (by decide +kernel) rfl)⟩
theorem f_RX3_66 : z_F RX3 66 0 0 RX0 TX0 3 := ⟨rfl, by decide, Or.inr ⟨"PouredScreen", z_nst 33 (by decide +kernel) rfl⟩⟩
theorem f_RX3_69 : z_F RX3 69 0 1 RX0 TX0 3 := ⟨rfl, by decide, Or.inr ⟨"PouredScreen", z_nst 37 (by decide +kernel) rfl⟩⟩
theorem f_RX3_83 : z_F RX3 83 0 2 RX0 TX0 3 := ⟨rfl, by decide, Or.inr ⟨"PouredScreen", z_nst 41 (by decide +kernel) rfl⟩⟩
theorem f_RX3_99 : z_F RX3 99 2 2 RX2 TX2 3 := ⟨rfl, by decide, Or.inr ⟨"PouredScreen", z_nst 66 (by decide +kernel) rfl⟩⟩
theorem f_RX3_105 : z_F RX3 105 2 1 RX2 TX2 3 := ⟨rfl, by decide, Or.inr ⟨"PouredScreen", z_nst 62 (by decide +kernel) rfl⟩⟩
theorem f_RX5_7 : z_F RX5 7 5 0 RX5 TX5 13 := ⟨rfl, by decide, Or.inl (z_tab 608 (by decide +kernel) rfl)⟩
theorem f_RX5_13 : z_F RX5 13 5 2 RX5 TX5 13 := ⟨rfl, by decide, Or.inl (z_tab 610 (by decide +kernel) rfl)⟩
theorem f_RX5_16 : z_F RX5 16 5 3 RX5 TX5 13 := ⟨rfl, by decide, Or.inl (z_tab 611 (by decide +kernel) rfl)⟩
theorem f_RX5_19 : z_F RX5 19 5 4 RX5 TX5 13 := ⟨rfl, by decide, Or.inl (z_tab 612 (by decide +kernel) rfl)⟩
theorem f_RX5_22 : z_F RX5 22 5 5 RX5 TX5 13 := ⟨rfl, by decide, Or.inl (z_tab 613 (by decide +kernel) rfl)⟩
theorem f_RX5_25 : z_F RX5 25 5 6 RX5 TX5 13 := ⟨rfl, by decide, Or.inl (z_tab 614 (by decide +kernel) rfl)⟩
theorem f_RX5_28 : z_F RX5 28 5 7 RX5 TX5 13 := ⟨rfl, by decide, Or.inl (z_tab 615 (by decide +kernel) rfl)⟩
theorem f_RX5_36 : z_F RX5 36 5 1 RX5 TX5 13 := ⟨rfl, by decide, Or.inl (z_tab 609 (by decide +kernel) rfl)⟩
theorem f_RX5_180 : z_F RX5 180 5 11 RX5 TX5 13 := ⟨rfl, by decide, Or.inl (z_tab 619 (by decide +kernel) rfl)⟩
theorem f_RX5_183 : z_F RX5 183 5 9 RX5 TX5 13 := ⟨rfl, by decide, Or.inl (z_tab 617 (by decide +kernel) rfl)⟩
theorem f_RX5_186 : z_F RX5 186 5 10 RX5 TX5 13 := ⟨rfl, by decide, Or.inl (z_tab 618 (by decide +kernel) rfl)⟩
theorem f_RX5_190 : z_F RX5 190 5 12 RX5 TX5 13 := ⟨rfl, by decide, Or.inl (z_tab 620 (by decide +kernel) rfl)⟩
theorem f_RX5_193 : z_F RX5 193 5 8 RX5 TX5 13 := ⟨rfl, by decide, Or.inl (z_tab 616 (by decide +kernel) rfl)⟩
theorem l_RX4_11 : z_LI RX4 11 yX3_init cX3_init 2 (none) 0 := ⟨⟨Or.inl (z_tab 19 (by decide +kernel) rfl), z_tab 21 (by decide +kernel) rfl, z_tab 2 (by decide +kernel) rfl, by decide +kernel, by decide +kernel, by decide +kernel⟩, rfl, z_tab 20 (by decide +kernel) rfl⟩
theorem l_RX4_22 : z_LI RX4 22 yX1_init cX1_init 1 (none) 0 := ⟨⟨Or.inr ⟨"PouredScreen", z_nst 118 (by decide +kernel) rfl⟩, z_tab 120 (by decide +kernel) rfl, z_tab 5 (by decide +kernel) rfl, by decide +kernel, by decide +kernel, by decide +kernel⟩, rfl, z_tab 119 (by decide +kernel) rfl⟩
theorem l_RX4_34 : z_LS RX4 34 yX4_isControl cX4_isControl 1 ((some .boolean)) 1 := ⟨⟨Or.inl (z_tab 183 (by decide +kernel) rfl), z_tab 185 (by decide +kernel) rfl, z_tab 1 (by decide +kernel) rfl, by decide +kernel, by decide +kernel, by decide +kernel⟩, z_tab 184 (by decide +kernel) rfl⟩
theorem l_RX4_38 : z_LV RX4 38 yX4_remember cX4_remember 2 ((some (.object "PouredScreen$Sheet"))) 0 := ⟨⟨Or.inl (z_tab 186 (by decide +kernel) rfl), z_tab 189 (by decide +kernel) rfl, z_tab 1 (by decide +kernel) rfl, by decide +kernel, by decide +kernel, by decide +kernel⟩, z_tab 188 (by decide +kernel) rfl, z_sel 0 (q := (yX4_remember, 5)) (by decide +kernel) rfl⟩
theorem l_RX4_42 : z_LV RX4 42 yX3_write cX3_write 2 (none) 1 := ⟨⟨Or.inl (z_tab 220 (by decide +kernel) rfl), z_tab 223 (by decide +kernel) rfl, z_tab 2 (by decide +kernel) rfl, by decide +kernel, by decide +kernel, by decide +kernel⟩, z_tab 221 (by decide +kernel) rfl, z_tab 222 (by decide +kernel) rfl⟩
theorem l_RX4_46 : z_LV RX4 46 yX4_obey cX4_obey 3 (none) 1 := ⟨⟨Or.inl (z_tab 282 (by decide +kernel) rfl), z_tab 285 (by decide +kernel) rfl, z_tab 1 (by decide +kernel) rfl, by decide +kernel, by decide +kernel, by decide +kernel⟩, z_tab 284 (by decide +kernel) rfl, z_sel 8 (q := (yX4_obey, 5)) (by decide +kernel) rfl⟩
theorem l_RX4_52 : z_LV RX4 52 yX3_hasCell cX3_hasCell 3 ((some .boolean)) 2 := ⟨⟨Or.inl (z_tab 294 (by decide +kernel) rfl), z_tab 297 (by decide +kernel) rfl, z_tab 2 (by decide +kernel) rfl, by decide +kernel, by decide +kernel, by decide +kernel⟩, z_tab 295 (by decide +kernel) rfl, z_tab 296 (by decide +kernel) rfl⟩
theorem l_RX4_71 : z_LV RX4 71 yX0_set cX0_set 3 (none) 2 := ⟨⟨Or.inl (z_tab 298 (by decide +kernel) rfl), z_tab 301 (by decide +kernel) rfl, z_tab 3 (by decide +kernel) rfl, by decide +kernel, by decide +kernel, by decide +kernel⟩, z_tab 299 (by decide +kernel) rfl, z_tab 300 (by decide +kernel) rfl⟩
theorem l_RX4_84 : z_LV RX4 84 yX3_taken cX3_taken 3 ((some .int)) 0 := ⟨⟨Or.inl (z_tab 310 (by decide +kernel) rfl), z_tab 313 (by decide +kernel) rfl, z_tab 2 (by decide +kernel) rfl, by decide +kernel, by decide +kernel, by decide +kernel⟩, z_tab 311 (by decide +kernel) rfl, z_tab 312 (by decide +kernel) rfl⟩
theorem l_RX4_88 : z_LV RX4 88 yX3_eraseInRow cX3_eraseInRow 4 (none) 1 := ⟨⟨Or.inl (z_tab 318 (by decide +kernel) rfl), z_tab 321 (by decide +kernel) rfl, z_tab 2 (by decide +kernel) rfl, by decide +kernel, by decide +kernel, by decide +kernel⟩, z_tab 319 (by decide +kernel) rfl, z_tab 320 (by decide +kernel) rfl⟩
theorem l_RX4_95 : z_LV RX4 95 yX3_eraseRows cX3_eraseRows 4 (none) 2 := ⟨⟨Or.inl (z_tab 327 (by decide +kernel) rfl), z_tab 330 (by decide +kernel) rfl, z_tab 2 (by decide +kernel) rfl, by decide +kernel, by decide +kernel, by decide +kernel⟩, z_tab 328 (by decide +kernel) rfl, z_tab 329 (by decide +kernel) rfl⟩
theorem l_RX4_98 : z_LV RX4 98 yX3_isCursorInRegion cX3_isCursorInRegion 1 ((some .boolean)) 0 := ⟨⟨Or.inl (z_tab 335 (by decide +kernel) rfl), z_tab 338 (by decide +kernel) rfl, z_tab 2 (by decide +kernel) rfl, by decide +kernel, by decide +kernel, by decide +kernel⟩, z_tab 336 (by decide +kernel) rfl, z_tab 337 (by decide +kernel) rfl⟩
theorem l_RX4_102 : z_LV RX4 102 yX3_openRows cX3_openRows 4 ((some .int)) 1 := ⟨⟨Or.inl (z_tab 339 (by decide +kernel) rfl), z_tab 342 (by decide +kernel) rfl, z_tab 2 (by decide +kernel) rfl, by decide +kernel, by decide +kernel, by decide +kernel⟩, z_tab 340 (by decide +kernel) rfl, z_tab 341 (by decide +kernel) rfl⟩
theorem l_RX4_106 : z_LV RX4 106 yX3_closeRows cX3_closeRows 4 ((some .int)) 1 := ⟨⟨Or.inl (z_tab 355 (by decide +kernel) rfl), z_tab 358 (by decide +kernel) rfl, z_tab 2 (by decide +kernel) rfl, by decide +kernel, by decide +kernel, by decide +kernel⟩, z_tab 356 (by decide +kernel) rfl, z_tab 357 (by decide +kernel) rfl⟩
theorem l_RX4_109 : z_LV RX4 109 yX3_screenRow cX3_screenRow 2 ((some (.object "PouredScreen$Row"))) 1 := ⟨⟨Or.inl (z_tab 363 (by decide +kernel) rfl), z_tab 256 (by decide +kernel) rfl, z_tab 2 (by decide +kernel) rfl, by decide +kernel, by decide +kernel, by decide +kernel⟩, z_tab 254 (by decide +kernel) rfl, z_tab 255 (by decide +kernel) rfl⟩
theorem l_RX4_113 : z_LV RX4 113 yX2_taken cX2_taken 6 ((some .int)) 0 := ⟨⟨Or.inl (z_tab 364 (by decide +kernel) rfl), z_tab 317 (by decide +kernel) rfl, z_tab 4 (by decide +kernel) rfl, by decide +kernel, by decide +kernel, by decide +kernel⟩, z_tab 315 (by decide +kernel) rfl, z_tab 316 (by decide +kernel) rfl⟩
theorem l_RX4_122 : z_LV RX4 122 yX2_openCells cX2_openCells 5 (none) 3 := ⟨⟨Or.inl (z_tab 365 (by decide +kernel) rfl), z_tab 368 (by decide +kernel) rfl, z_tab 4 (by decide +kernel) rfl, by decide +kernel, by decide +kernel, by decide +kernel⟩, z_tab 366 (by decide +kernel) rfl, z_tab 367 (by decide +kernel) rfl⟩
theorem l_RX4_126 : z_LV RX4 126 yX2_closeCells cX2_closeCells 5 (none) 3 := ⟨⟨Or.inl (z_tab 373 (by decide +kernel) rfl), z_tab 376 (by decide +kernel) rfl, z_tab 4 (by decide +kernel) rfl, by decide +kernel, by decide +kernel, by decide +kernel⟩, z_tab 374 (by decide +kernel) rfl, z_tab 375 (by decide +kernel) rfl⟩
theorem l_RX4_132 : z_LV RX4 132 yX3_keepCursor cX3_keepCursor 1 (none) 0 := ⟨⟨Or.inl (z_tab 381 (by decide +kernel) rfl), z_tab 384 (by decide +kernel) rfl, z_tab 2 (by decide +kernel) rfl, by decide +kernel, by decide +kernel, by decide +kernel⟩, z_tab 382 (by decide +kernel) rfl, z_tab 383 (by decide +kernel) rfl⟩
theorem l_RX4_135 : z_LV RX4 135 yX3_takeCursorBack cX3_takeCursorBack 1 (none) 0 := ⟨⟨Or.inl (z_tab 390 (by decide +kernel) rfl), z_tab 393 (by decide +kernel) rfl, z_tab 2 (by decide +kernel) rfl, by decide +kernel, by decide +kernel, by decide +kernel⟩, z_tab 391 (by decide +kernel) rfl, z_tab 392 (by decide +kernel) rfl⟩
theorem l_RX4_138 : z_LS RX4 138 yX4_isWidth cX4_isWidth 1 ((some .boolean)) 1 := ⟨⟨Or.inl (z_tab 398 (by decide +kernel) rfl), z_tab 400 (by decide +kernel) rfl, z_tab 1 (by decide +kernel) rfl, by decide +kernel, by decide +kernel, by decide +kernel⟩, z_tab 399 (by decide +kernel) rfl⟩
theorem l_RX4_141 : z_LV RX4 141 yX1_pour cX1_pour 10 ((some .int)) 4 := ⟨⟨Or.inl (z_tab 401 (by decide +kernel) rfl), z_tab 404 (by decide +kernel) rfl, z_tab 5 (by decide +kernel) rfl, by decide +kernel, by decide +kernel, by decide +kernel⟩, z_tab 402 (by decide +kernel) rfl, z_tab 403 (by decide +kernel) rfl⟩
theorem l_RX4_145 : z_LV RX4 145 yX2_at cX2_at 2 ((some .int)) 1 := ⟨⟨Or.inl (z_tab 488 (by decide +kernel) rfl), z_tab 272 (by decide +kernel) rfl, z_tab 4 (by decide +kernel) rfl, by decide +kernel, by decide +kernel, by decide +kernel⟩, z_tab 270 (by decide +kernel) rfl, z_tab 271 (by decide +kernel) rfl⟩
theorem l_RX4_157 : z_LV RX4 157 yX2_filled cX2_filled 2 ((some .int)) 0 := ⟨⟨Or.inl (z_tab 496 (by decide +kernel) rfl), z_tab 350 (by decide +kernel) rfl, z_tab 4 (by decide +kernel) rfl, by decide +kernel, by decide +kernel, by decide +kernel⟩, z_tab 348 (by decide +kernel) rfl, z_tab 349 (by decide +kernel) rfl⟩
theorem l_RX4_160 : z_LV RX4 160 yX2_signs cX2_signs 6 ((some .int)) 0 := ⟨⟨Or.inl (z_tab 497 (by decide +kernel) rfl), z_tab 500 (by decide +kernel) rfl, z_tab 4 (by decide +kernel) rfl, by decide +kernel, by decide +kernel, by decide +kernel⟩, z_tab 498 (by decide +kernel) rfl, z_tab 499 (by decide +kernel) rfl⟩
theorem l_RX4_163 : z_LV RX4 163 yX3_startOfLine cX3_startOfLine 5 ((some .int)) 1 := ⟨⟨Or.inl (z_tab 505 (by decide +kernel) rfl), z_tab 508 (by decide +kernel) rfl, z_tab 2 (by decide +kernel) rfl, by decide +kernel, by decide +kernel, by decide +kernel⟩, z_tab 506 (by decide +kernel) rfl, z_tab 507 (by decide +kernel) rfl⟩
theorem l_RX4_166 : z_LV RX4 166 yX3_endOf cX3_endOf 4 ((some .int)) 1 := ⟨⟨Or.inl (z_tab 509 (by decide +kernel) rfl), z_tab 477 (by decide +kernel) rfl, z_tab 2 (by decide +kernel) rfl, by decide +kernel, by decide +kernel, by decide +kernel⟩, z_tab 475 (by decide +kernel) rfl, z_tab 476 (by decide +kernel) rfl⟩
theorem l_RX4_169 : z_LV RX4 169 yX3_signsOfLine cX3_signsOfLine 5 ((some .int)) 2 := ⟨⟨Or.inl (z_tab 510 (by decide +kernel) rfl), z_tab 513 (by decide +kernel) rfl, z_tab 2 (by decide +kernel) rfl, by decide +kernel, by decide +kernel, by decide +kernel⟩, z_tab 511 (by decide +kernel) rfl, z_tab 512 (by decide +kernel) rfl⟩
theorem l_RX4_175 : z_LV RX4 175 yX1_signOf cX1_signOf 5 ((some .int)) 4 := ⟨⟨Or.inl (z_tab 518 (by decide +kernel) rfl), z_tab 521 (by decide +kernel) rfl, z_tab 5 (by decide +kernel) rfl, by decide +kernel, by decide +kernel, by decide +kernel⟩, z_tab 519 (by decide +kernel) rfl, z_tab 520 (by decide +kernel) rfl⟩
theorem l_RX4_179 : z_LV RX4 179 yX3_keptPlace cX3_keptPlace 2 ((some (.object "PouredScreen$Place"))) 1 := ⟨⟨Or.inl (z_tab 526 (by decide +kernel) rfl), z_tab 205 (by decide +kernel) rfl, z_tab 2 (by decide +kernel) rfl, by decide +kernel, by decide +kernel, by decide +kernel⟩, z_tab 203 (by decide +kernel) rfl, z_tab 204 (by decide +kernel) rfl⟩
theorem l_RX4_183 : z_LV RX4 183 yX3_lineOf cX3_lineOf 2 ((some .int)) 1 := ⟨⟨Or.inl (z_tab 527 (by decide +kernel) rfl), z_tab 530 (by decide +kernel) rfl, z_tab 2 (by decide +kernel) rfl, by decide +kernel, by decide +kernel, by decide +kernel⟩, z_tab 528 (by decide +kernel) rfl, z_tab 529 (by decide +kernel) rfl⟩
theorem l_RX4_187 : z_LV RX4 187 yX3_markOf cX3_markOf 7 ((some .int)) 1 := ⟨⟨Or.inl (z_tab 535 (by decide +kernel) rfl), z_tab 464 (by decide +kernel) rfl, z_tab 2 (by decide +kernel) rfl, by decide +kernel, by decide +kernel, by decide +kernel⟩, z_tab 462 (by decide +kernel) rfl, z_tab 463 (by decide +kernel) rfl⟩
theorem l_RX4_190 : z_LV RX4 190 yX1_rowsIn cX1_rowsIn 3 ((some .int)) 2 := ⟨⟨Or.inl (z_tab 540 (by decide +kernel) rfl), z_tab 408 (by decide +kernel) rfl, z_tab 5 (by decide +kernel) rfl, by decide +kernel, by decide +kernel, by decide +kernel⟩, z_tab 406 (by decide +kernel) rfl, z_tab 407 (by decide +kernel) rfl⟩
theorem l_RX4_194 : z_LV RX4 194 yX3_lines cX3_lines 1 ((some .int)) 0 := ⟨⟨Or.inl (z_tab 549 (by decide +kernel) rfl), z_tab 552 (by decide +kernel) rfl, z_tab 2 (by decide +kernel) rfl, by decide +kernel, by decide +kernel, by decide +kernel⟩, z_tab 550 (by decide +kernel) rfl, z_tab 551 (by decide +kernel) rfl⟩
theorem l_RX4_197 : z_LV RX4 197 yX3_countedRows cX3_countedRows 3 ((some .int)) 0 := ⟨⟨Or.inl (z_tab 553 (by decide +kernel) rfl), z_tab 412 (by decide +kernel) rfl, z_tab 2 (by decide +kernel) rfl, by decide +kernel, by decide +kernel, by decide +kernel⟩, z_tab 410 (by decide +kernel) rfl, z_tab 411 (by decide +kernel) rfl⟩
theorem l_RX4_200 : z_LV RX4 200 yX4_stateAt cX4_stateAt 2 ((some (.object "PouredScreen$Sheet"))) 1 := ⟨⟨Or.inl (z_tab 190 (by decide +kernel) rfl), z_tab 193 (by decide +kernel) rfl, z_tab 1 (by decide +kernel) rfl, by decide +kernel, by decide +kernel, by decide +kernel⟩, z_tab 192 (by decide +kernel) rfl, z_sel 1 (q := (yX4_stateAt, 5)) (by decide +kernel) rfl⟩
theorem l_RX4_204 : z_LV RX4 204 yX3_copyFrom cX3_copyFrom 3 (none) 1 := ⟨⟨Or.inl (z_tab 194 (by decide +kernel) rfl), z_tab 197 (by decide +kernel) rfl, z_tab 2 (by decide +kernel) rfl, by decide +kernel, by decide +kernel, by decide +kernel⟩, z_tab 195 (by decide +kernel) rfl, z_tab 196 (by decide +kernel) rfl⟩
theorem l_RX4_210 : z_LV RX4 210 yX4_told cX4_told 2 ((some .int)) 1 := ⟨⟨Or.inl (z_tab 563 (by decide +kernel) rfl), z_tab 548 (by decide +kernel) rfl, z_tab 1 (by decide +kernel) rfl, by decide +kernel, by decide +kernel, by decide +kernel⟩, z_tab 546 (by decide +kernel) rfl, z_tab 547 (by decide +kernel) rfl⟩
theorem l_RX4_213 : z_LS RX4 213 yX4_mix cX4_mix 3 ((some .long)) 2 := ⟨⟨Or.inl (z_tab 564 (by decide +kernel) rfl), z_tab 566 (by decide +kernel) rfl, z_tab 1 (by decide +kernel) rfl, by decide +kernel, by decide +kernel, by decide +kernel⟩, z_tab 565 (by decide +kernel) rfl⟩
theorem l_RX4_217 : z_LV RX4 217 yX4_mixRows cX4_mixRows 7 ((some .long)) 1 := ⟨⟨Or.inl (z_tab 568 (by decide +kernel) rfl), z_tab 571 (by decide +kernel) rfl, z_tab 1 (by decide +kernel) rfl, by decide +kernel, by decide +kernel, by decide +kernel⟩, z_tab 570 (by decide +kernel) rfl, z_sel 15 (q := (yX4_mixRows, 5)) (by decide +kernel) rfl⟩
theorem l_RX4_221 : z_LV RX4 221 yX4_mixCells cX4_mixCells 7 ((some .long)) 1 := ⟨⟨Or.inl (z_tab 573 (by decide +kernel) rfl), z_tab 576 (by decide +kernel) rfl, z_tab 1 (by decide +kernel) rfl, by decide +kernel, by decide +kernel, by decide +kernel⟩, z_tab 575 (by decide +kernel) rfl, z_sel 16 (q := (yX4_mixCells, 5)) (by decide +kernel) rfl⟩
theorem l_RX4_224 : z_LV RX4 224 yX4_mixLines cX4_mixLines 9 ((some .long)) 1 := ⟨⟨Or.inl (z_tab 578 (by decide +kernel) rfl), z_tab 581 (by decide +kernel) rfl, z_tab 1 (by decide +kernel) rfl, by decide +kernel, by decide +kernel, by decide +kernel⟩, z_tab 580 (by decide +kernel) rfl, z_sel 17 (q := (yX4_mixLines, 5)) (by decide +kernel) rfl⟩
theorem l_RX4_227 : z_LV RX4 227 yX4_mixCursors cX4_mixCursors 7 ((some .long)) 1 := ⟨⟨Or.inl (z_tab 585 (by decide +kernel) rfl), z_tab 588 (by decide +kernel) rfl, z_tab 1 (by decide +kernel) rfl, by decide +kernel, by decide +kernel, by decide +kernel⟩, z_tab 587 (by decide +kernel) rfl, z_sel 18 (q := (yX4_mixCursors, 5)) (by decide +kernel) rfl⟩
theorem l_RX4_230 : z_LV RX4 230 yX4_ifWidth cX4_ifWidth 2 ((some .int)) 1 := ⟨⟨Or.inl (z_tab 590 (by decide +kernel) rfl), z_tab 539 (by decide +kernel) rfl, z_tab 1 (by decide +kernel) rfl, by decide +kernel, by decide +kernel, by decide +kernel⟩, z_tab 537 (by decide +kernel) rfl, z_tab 538 (by decide +kernel) rfl⟩
theorem l_RX4_235 : z_LV RX4 235 yX4_row cX4_row 4 ((some .int)) 2 := ⟨⟨Or.inl (z_tab 572 (by decide +kernel) rfl), z_tab 495 (by decide +kernel) rfl, z_tab 1 (by decide +kernel) rfl, by decide +kernel, by decide +kernel, by decide +kernel⟩, z_tab 493 (by decide +kernel) rfl, z_tab 494 (by decide +kernel) rfl⟩
theorem l_RX4_237 : z_LV RX4 237 yX4_cell cX4_cell 3 ((some .int)) 2 := ⟨⟨Or.inl (z_tab 577 (by decide +kernel) rfl), z_tab 487 (by decide +kernel) rfl, z_tab 1 (by decide +kernel) rfl, by decide +kernel, by decide +kernel, by decide +kernel⟩, z_tab 485 (by decide +kernel) rfl, z_tab 486 (by decide +kernel) rfl⟩
theorem l_RX4_240 : z_LV RX4 240 yX4_line cX4_line 5 ((some .int)) 2 := ⟨⟨Or.inl (z_tab 582 (by decide +kernel) rfl), z_tab 504 (by decide +kernel) rfl, z_tab 1 (by decide +kernel) rfl, by decide +kernel, by decide +kernel, by decide +kernel⟩, z_tab 502 (by decide +kernel) rfl, z_tab 503 (by decide +kernel) rfl⟩
theorem l_RX4_243 : z_LV RX4 243 yX1_begin cX1_begin 5 (none) 4 := ⟨⟨Or.inl (z_tab 583 (by decide +kernel) rfl), z_tab 426 (by decide +kernel) rfl, z_tab 5 (by decide +kernel) rfl, by decide +kernel, by decide +kernel, by decide +kernel⟩, z_tab 424 (by decide +kernel) rfl, z_tab 425 (by decide +kernel) rfl⟩
theorem l_RX4_247 : z_LV RX4 247 yX1_next cX1_next 2 ((some .boolean)) 0 := ⟨⟨Or.inl (z_tab 584 (by decide +kernel) rfl), z_tab 434 (by decide +kernel) rfl, z_tab 5 (by decide +kernel) rfl, by decide +kernel, by decide +kernel, by decide +kernel⟩, z_tab 432 (by decide +kernel) rfl, z_tab 433 (by decide +kernel) rfl⟩
theorem l_RX4_253 : z_LV RX4 253 yX4_cursor cX4_cursor 4 ((some .int)) 2 := ⟨⟨Or.inl (z_tab 589 (by decide +kernel) rfl), z_tab 525 (by decide +kernel) rfl, z_tab 1 (by decide +kernel) rfl, by decide +kernel, by decide +kernel, by decide +kernel⟩, z_tab 523 (by decide +kernel) rfl, z_tab 524 (by decide +kernel) rfl⟩
theorem l_RX4_255 : z_LV RX4 255 yX3_lineFeed cX3_lineFeed 2 ((some .boolean)) 0 := ⟨⟨Or.inl (z_tab 289 (by decide +kernel) rfl), z_tab 231 (by decide +kernel) rfl, z_tab 2 (by decide +kernel) rfl, by decide +kernel, by decide +kernel, by decide +kernel⟩, z_tab 229 (by decide +kernel) rfl, z_tab 230 (by decide +kernel) rfl⟩
theorem l_RX1_53 : z_LV RX1 53 yX3_cellsOfLine cX3_cellsOfLine 4 ((some .int)) 2 := ⟨⟨Or.inl (z_tab 427 (by decide +kernel) rfl), z_tab 430 (by decide +kernel) rfl, z_tab 2 (by decide +kernel) rfl, by decide +kernel, by decide +kernel, by decide +kernel⟩, z_tab 428 (by decide +kernel) rfl, z_tab 429 (by decide +kernel) rfl⟩
theorem l_RX1_59 : z_LV RX1 59 yX3_rowAt cX3_rowAt 2 ((some (.object "PouredScreen$Row"))) 1 := ⟨⟨Or.inl (z_tab 435 (by decide +kernel) rfl), z_tab 209 (by decide +kernel) rfl, z_tab 2 (by decide +kernel) rfl, by decide +kernel, by decide +kernel, by decide +kernel⟩, z_tab 207 (by decide +kernel) rfl, z_tab 208 (by decide +kernel) rfl⟩
theorem l_RX1_63 : z_LV RX1 63 yX2_at cX2_at 2 ((some .int)) 1 := ⟨⟨Or.inl (z_tab 436 (by decide +kernel) rfl), z_tab 272 (by decide +kernel) rfl, z_tab 4 (by decide +kernel) rfl, by decide +kernel, by decide +kernel, by decide +kernel⟩, z_tab 270 (by decide +kernel) rfl, z_tab 271 (by decide +kernel) rfl⟩
theorem l_RX1_69 : z_LS RX1 69 yX4_sizeOf cX4_sizeOf 1 ((some .int)) 1 := ⟨⟨Or.inr ⟨"PouredScreen", z_nst 437 (by decide +kernel) rfl⟩, z_tab 259 (by decide +kernel) rfl, z_tab 1 (by decide +kernel) rfl, by decide +kernel, by decide +kernel, by decide +kernel⟩, z_tab 258 (by decide +kernel) rfl⟩
theorem l_RX1_73 : z_LV RX1 73 yX1_begin cX1_begin 5 (none) 4 := ⟨⟨Or.inl (z_tab 423 (by decide +kernel) rfl), z_tab 426 (by decide +kernel) rfl, z_tab 5 (by decide +kernel) rfl, by decide +kernel, by decide +kernel, by decide +kernel⟩, z_tab 424 (by decide +kernel) rfl, z_tab 425 (by decide +kernel) rfl⟩
theorem l_RX1_77 : z_LV RX1 77 yX1_readUpTo cX1_readUpTo 3 ((some .boolean)) 1 := ⟨⟨Or.inl (z_tab 478 (by decide +kernel) rfl), z_tab 481 (by decide +kernel) rfl, z_tab 5 (by decide +kernel) rfl, by decide +kernel, by decide +kernel, by decide +kernel⟩, z_tab 480 (by decide +kernel) rfl, z_sel 13 (q := (yX1_readUpTo, 13)) (by decide +kernel) rfl⟩
theorem l_RX1_81 : z_LV RX1 81 yX1_next cX1_next 2 ((some .boolean)) 0 := ⟨⟨Or.inl (z_tab 431 (by decide +kernel) rfl), z_tab 434 (by decide +kernel) rfl, z_tab 5 (by decide +kernel) rfl, by decide +kernel, by decide +kernel, by decide +kernel⟩, z_tab 432 (by decide +kernel) rfl, z_tab 433 (by decide +kernel) rfl⟩
theorem l_RX1_85 : z_LV RX1 85 yX3_countedRows cX3_countedRows 3 ((some .int)) 0 := ⟨⟨Or.inl (z_tab 409 (by decide +kernel) rfl), z_tab 412 (by decide +kernel) rfl, z_tab 2 (by decide +kernel) rfl, by decide +kernel, by decide +kernel, by decide +kernel⟩, z_tab 410 (by decide +kernel) rfl, z_tab 411 (by decide +kernel) rfl⟩
theorem l_RX1_89 : z_LV RX1 89 yX3_endsLine cX3_endsLine 3 ((some .boolean)) 2 := ⟨⟨Or.inl (z_tab 419 (by decide +kernel) rfl), z_tab 422 (by decide +kernel) rfl, z_tab 2 (by decide +kernel) rfl, by decide +kernel, by decide +kernel, by decide +kernel⟩, z_tab 420 (by decide +kernel) rfl, z_tab 421 (by decide +kernel) rfl⟩
theorem l_RX1_93 : z_LV RX1 93 yX1_rowsBefore cX1_rowsBefore 9 ((some .int)) 3 := ⟨⟨Or.inl (z_tab 415 (by decide +kernel) rfl), z_tab 418 (by decide +kernel) rfl, z_tab 5 (by decide +kernel) rfl, by decide +kernel, by decide +kernel, by decide +kernel⟩, z_tab 417 (by decide +kernel) rfl, z_sel 9 (q := (yX1_rowsBefore, 13)) (by decide +kernel) rfl⟩
theorem l_RX1_97 : z_LV RX1 97 yX1_rowsIn cX1_rowsIn 3 ((some .int)) 2 := ⟨⟨Or.inl (z_tab 405 (by decide +kernel) rfl), z_tab 408 (by decide +kernel) rfl, z_tab 5 (by decide +kernel) rfl, by decide +kernel, by decide +kernel, by decide +kernel⟩, z_tab 406 (by decide +kernel) rfl, z_tab 407 (by decide +kernel) rfl⟩
theorem l_RX1_107 : z_LV RX1 107 yX3_clear cX3_clear 7 (none) 2 := ⟨⟨Or.inl (z_tab 439 (by decide +kernel) rfl), z_tab 442 (by decide +kernel) rfl, z_tab 2 (by decide +kernel) rfl, by decide +kernel, by decide +kernel, by decide +kernel⟩, z_tab 440 (by decide +kernel) rfl, z_tab 441 (by decide +kernel) rfl⟩
theorem l_RX1_117 : z_LV RX1 117 yX1_pourLines cX1_pourLines 8 (none) 3 := ⟨⟨Or.inl (z_tab 444 (by decide +kernel) rfl), z_tab 447 (by decide +kernel) rfl, z_tab 5 (by decide +kernel) rfl, by decide +kernel, by decide +kernel, by decide +kernel⟩, z_tab 446 (by decide +kernel) rfl, z_sel 10 (q := (yX1_pourLines, 13)) (by decide +kernel) rfl⟩
theorem l_RX1_125 : z_LV RX1 125 yX1_follow cX1_follow 11 (none) 5 := ⟨⟨Or.inl (z_tab 453 (by decide +kernel) rfl), z_tab 456 (by decide +kernel) rfl, z_tab 5 (by decide +kernel) rfl, by decide +kernel, by decide +kernel, by decide +kernel⟩, z_tab 455 (by decide +kernel) rfl, z_sel 12 (q := (yX1_follow, 13)) (by decide +kernel) rfl⟩
theorem l_RX1_132 : z_LV RX1 132 yX3_keptPlace cX3_keptPlace 2 ((some (.object "PouredScreen$Place"))) 1 := ⟨⟨Or.inl (z_tab 483 (by decide +kernel) rfl), z_tab 205 (by decide +kernel) rfl, z_tab 2 (by decide +kernel) rfl, by decide +kernel, by decide +kernel, by decide +kernel⟩, z_tab 203 (by decide +kernel) rfl, z_tab 204 (by decide +kernel) rfl⟩
theorem l_RX1_141 : z_LV RX1 141 yX1_pourLine cX1_pourLine 5 (none) 2 := ⟨⟨Or.inl (z_tab 448 (by decide +kernel) rfl), z_tab 451 (by decide +kernel) rfl, z_tab 5 (by decide +kernel) rfl, by decide +kernel, by decide +kernel, by decide +kernel⟩, z_tab 450 (by decide +kernel) rfl, z_sel 11 (q := (yX1_pourLine, 13)) (by decide +kernel) rfl⟩
theorem l_RX1_151 : z_LV RX1 151 yX2_put cX2_put 3 (none) 2 := ⟨⟨Or.inl (z_tab 452 (by decide +kernel) rfl), z_tab 281 (by decide +kernel) rfl, z_tab 4 (by decide +kernel) rfl, by decide +kernel, by decide +kernel, by decide +kernel⟩, z_tab 279 (by decide +kernel) rfl, z_tab 280 (by decide +kernel) rfl⟩
theorem l_RX1_155 : z_LV RX1 155 yX3_startOf cX3_startOf 3 ((some .int)) 1 := ⟨⟨Or.inl (z_tab 457 (by decide +kernel) rfl), z_tab 460 (by decide +kernel) rfl, z_tab 2 (by decide +kernel) rfl, by decide +kernel, by decide +kernel, by decide +kernel⟩, z_tab 458 (by decide +kernel) rfl, z_tab 459 (by decide +kernel) rfl⟩
theorem l_RX1_158 : z_LV RX1 158 yX3_markOf cX3_markOf 7 ((some .int)) 1 := ⟨⟨Or.inl (z_tab 461 (by decide +kernel) rfl), z_tab 464 (by decide +kernel) rfl, z_tab 2 (by decide +kernel) rfl, by decide +kernel, by decide +kernel, by decide +kernel⟩, z_tab 462 (by decide +kernel) rfl, z_tab 463 (by decide +kernel) rfl⟩
theorem l_RX1_162 : z_LV RX1 162 yX3_endOf cX3_endOf 4 ((some .int)) 1 := ⟨⟨Or.inl (z_tab 474 (by decide +kernel) rfl), z_tab 477 (by decide +kernel) rfl, z_tab 2 (by decide +kernel) rfl, by decide +kernel, by decide +kernel, by decide +kernel⟩, z_tab 475 (by decide +kernel) rfl, z_tab 476 (by decide +kernel) rfl⟩
theorem l_RX1_165 : z_LV RX1 165 yX0_set cX0_set 3 (none) 2 := ⟨⟨Or.inl (z_tab 482 (by decide +kernel) rfl), z_tab 301 (by decide +kernel) rfl, z_tab 3 (by decide +kernel) rfl, by decide +kernel, by decide +kernel, by decide +kernel⟩, z_tab 299 (by decide +kernel) rfl, z_tab 300 (by decide +kernel) rfl⟩
theorem l_RX2_15 : z_LV RX2 15 yX2_clear cX2_clear 2 (none) 0 := ⟨⟨Or.inl (z_tab 55 (by decide +kernel) rfl), z_tab 58 (by decide +kernel) rfl, z_tab 4 (by decide +kernel) rfl, by decide +kernel, by decide +kernel, by decide +kernel⟩, z_tab 56 (by decide +kernel) rfl, z_tab 57 (by decide +kernel) rfl⟩
theorem l_RX2_31 : z_LV RX2 31 yX2_filled cX2_filled 2 ((some .int)) 0 := ⟨⟨Or.inl (z_tab 347 (by decide +kernel) rfl), z_tab 350 (by decide +kernel) rfl, z_tab 4 (by decide +kernel) rfl, by decide +kernel, by decide +kernel, by decide +kernel⟩, z_tab 348 (by decide +kernel) rfl, z_tab 349 (by decide +kernel) rfl⟩
theorem l_RX2_35 : z_LV RX2 35 yX2_at cX2_at 2 ((some .int)) 1 := ⟨⟨Or.inl (z_tab 269 (by decide +kernel) rfl), z_tab 272 (by decide +kernel) rfl, z_tab 4 (by decide +kernel) rfl, by decide +kernel, by decide +kernel, by decide +kernel⟩, z_tab 270 (by decide +kernel) rfl, z_tab 271 (by decide +kernel) rfl⟩
theorem l_RX2_39 : z_LV RX2 39 yX2_set cX2_set 3 (none) 2 := ⟨⟨Or.inl (z_tab 273 (by decide +kernel) rfl), z_tab 276 (by decide +kernel) rfl, z_tab 4 (by decide +kernel) rfl, by decide +kernel, by decide +kernel, by decide +kernel⟩, z_tab 275 (by decide +kernel) rfl, z_sel 7 (q := (yX2_set, 3)) (by decide +kernel) rfl⟩
theorem l_RX2_43 : z_LV RX2 43 yX2_unmark cX2_unmark 1 (none) 0 := ⟨⟨Or.inl (z_tab 277 (by decide +kernel) rfl), z_tab 239 (by decide +kernel) rfl, z_tab 4 (by decide +kernel) rfl, by decide +kernel, by decide +kernel, by decide +kernel⟩, z_tab 237 (by decide +kernel) rfl, z_tab 238 (by decide +kernel) rfl⟩
theorem l_RX2_46 : z_LS RX2 46 yX4_sizeOf cX4_sizeOf 1 ((some .int)) 1 := ⟨⟨Or.inr ⟨"PouredScreen", z_nst 264 (by decide +kernel) rfl⟩, z_tab 259 (by decide +kernel) rfl, z_tab 1 (by decide +kernel) rfl, by decide +kernel, by decide +kernel, by decide +kernel⟩, z_tab 258 (by decide +kernel) rfl⟩
theorem l_RX2_49 : z_LV RX2 49 yX2_erase cX2_erase 7 (none) 3 := ⟨⟨Or.inl (z_tab 265 (by decide +kernel) rfl), z_tab 268 (by decide +kernel) rfl, z_tab 4 (by decide +kernel) rfl, by decide +kernel, by decide +kernel, by decide +kernel⟩, z_tab 266 (by decide +kernel) rfl, z_tab 267 (by decide +kernel) rfl⟩
theorem l_RX2_53 : z_LV RX2 53 yX2_put cX2_put 3 (none) 2 := ⟨⟨Or.inl (z_tab 278 (by decide +kernel) rfl), z_tab 281 (by decide +kernel) rfl, z_tab 4 (by decide +kernel) rfl, by decide +kernel, by decide +kernel, by decide +kernel⟩, z_tab 279 (by decide +kernel) rfl, z_tab 280 (by decide +kernel) rfl⟩
theorem l_RX3_19 : z_LI RX3 19 yX0_init cX0_init 1 (none) 0 := ⟨⟨Or.inr ⟨"PouredScreen", z_nst 27 (by decide +kernel) rfl⟩, z_tab 29 (by decide +kernel) rfl, z_tab 3 (by decide +kernel) rfl, by decide +kernel, by decide +kernel, by decide +kernel⟩, rfl, z_tab 28 (by decide +kernel) rfl⟩
theorem l_RX3_47 : z_LI RX3 47 yX2_init cX2_init 1 (none) 0 := ⟨⟨Or.inl (z_tab 51 (by decide +kernel) rfl), z_tab 53 (by decide +kernel) rfl, z_tab 4 (by decide +kernel) rfl, by decide +kernel, by decide +kernel, by decide +kernel⟩, rfl, z_tab 52 (by decide +kernel) rfl⟩
theorem l_RX3_48 : z_LV RX3 48 yX0_copyFrom cX0_copyFrom 2 (none) 1 := ⟨⟨Or.inl (z_tab 198 (by decide +kernel) rfl), z_tab 201 (by decide +kernel) rfl, z_tab 3 (by decide +kernel) rfl, by decide +kernel, by decide +kernel, by decide +kernel⟩, z_tab 199 (by decide +kernel) rfl, z_tab 200 (by decide +kernel) rfl⟩
theorem l_RX3_52 : z_LV RX3 52 yX3_keptPlace cX3_keptPlace 2 ((some (.object "PouredScreen$Place"))) 1 := ⟨⟨Or.inl (z_tab 202 (by decide +kernel) rfl), z_tab 205 (by decide +kernel) rfl, z_tab 2 (by decide +kernel) rfl, by decide +kernel, by decide +kernel, by decide +kernel⟩, z_tab 203 (by decide +kernel) rfl, z_tab 204 (by decide +kernel) rfl⟩
theorem l_RX3_56 : z_LV RX3 56 yX3_rowAt cX3_rowAt 2 ((some (.object "PouredScreen$Row"))) 1 := ⟨⟨Or.inl (z_tab 206 (by decide +kernel) rfl), z_tab 209 (by decide +kernel) rfl, z_tab 2 (by decide +kernel) rfl, by decide +kernel, by decide +kernel, by decide +kernel⟩, z_tab 207 (by decide +kernel) rfl, z_tab 208 (by decide +kernel) rfl⟩
theorem l_RX3_60 : z_LV RX3 60 yX2_copyFrom cX2_copyFrom 2 (none) 1 := ⟨⟨Or.inl (z_tab 210 (by decide +kernel) rfl), z_tab 213 (by decide +kernel) rfl, z_tab 4 (by decide +kernel) rfl, by decide +kernel, by decide +kernel, by decide +kernel⟩, z_tab 211 (by decide +kernel) rfl, z_tab 212 (by decide +kernel) rfl⟩
theorem l_RX3_63 : z_LV RX3 63 yX2_clear cX2_clear 2 (none) 0 := ⟨⟨Or.inl (z_tab 244 (by decide +kernel) rfl), z_tab 58 (by decide +kernel) rfl, z_tab 4 (by decide +kernel) rfl, by decide +kernel, by decide +kernel, by decide +kernel⟩, z_tab 56 (by decide +kernel) rfl, z_tab 57 (by decide +kernel) rfl⟩
theorem l_RX3_72 : z_LV RX3 72 yX0_set cX0_set 3 (none) 2 := ⟨⟨Or.inl (z_tab 385 (by decide +kernel) rfl), z_tab 301 (by decide +kernel) rfl, z_tab 3 (by decide +kernel) rfl, by decide +kernel, by decide +kernel, by decide +kernel⟩, z_tab 299 (by decide +kernel) rfl, z_tab 300 (by decide +kernel) rfl⟩
theorem l_RX3_76 : z_LV RX3 76 yX3_screenRow cX3_screenRow 2 ((some (.object "PouredScreen$Row"))) 1 := ⟨⟨Or.inl (z_tab 253 (by decide +kernel) rfl), z_tab 256 (by decide +kernel) rfl, z_tab 2 (by decide +kernel) rfl, by decide +kernel, by decide +kernel, by decide +kernel⟩, z_tab 254 (by decide +kernel) rfl, z_tab 255 (by decide +kernel) rfl⟩
theorem l_RX3_79 : z_LV RX3 79 yX2_taken cX2_taken 6 ((some .int)) 0 := ⟨⟨Or.inl (z_tab 314 (by decide +kernel) rfl), z_tab 317 (by decide +kernel) rfl, z_tab 4 (by decide +kernel) rfl, by decide +kernel, by decide +kernel, by decide +kernel⟩, z_tab 315 (by decide +kernel) rfl, z_tab 316 (by decide +kernel) rfl⟩
theorem l_RX3_87 : z_LV RX3 87 yX3_goOn cX3_goOn 2 ((some .boolean)) 0 := ⟨⟨Or.inl (z_tab 224 (by decide +kernel) rfl), z_tab 227 (by decide +kernel) rfl, z_tab 2 (by decide +kernel) rfl, by decide +kernel, by decide +kernel, by decide +kernel⟩, z_tab 226 (by decide +kernel) rfl, z_sel 2 (q := (yX3_goOn, 9)) (by decide +kernel) rfl⟩
theorem l_RX3_91 : z_LS RX3 91 yX4_sizeOf cX4_sizeOf 1 ((some .int)) 1 := ⟨⟨Or.inr ⟨"PouredScreen", z_nst 257 (by decide +kernel) rfl⟩, z_tab 259 (by decide +kernel) rfl, z_tab 1 (by decide +kernel) rfl, by decide +kernel, by decide +kernel, by decide +kernel⟩, z_tab 258 (by decide +kernel) rfl⟩
theorem l_RX3_95 : z_LV RX3 95 yX2_overwrite cX2_overwrite 4 (none) 3 := ⟨⟨Or.inl (z_tab 260 (by decide +kernel) rfl), z_tab 263 (by decide +kernel) rfl, z_tab 4 (by decide +kernel) rfl, by decide +kernel, by decide +kernel, by decide +kernel⟩, z_tab 261 (by decide +kernel) rfl, z_tab 262 (by decide +kernel) rfl⟩
theorem l_RX3_102 : z_LV RX3 102 yX3_lineFeed cX3_lineFeed 2 ((some .boolean)) 0 := ⟨⟨Or.inl (z_tab 228 (by decide +kernel) rfl), z_tab 231 (by decide +kernel) rfl, z_tab 2 (by decide +kernel) rfl, by decide +kernel, by decide +kernel, by decide +kernel⟩, z_tab 229 (by decide +kernel) rfl, z_tab 230 (by decide +kernel) rfl⟩
theorem l_RX3_108 : z_LV RX3 108 yX3_pushTopRow cX3_pushTopRow 2 (none) 0 := ⟨⟨Or.inl (z_tab 232 (by decide +kernel) rfl), z_tab 235 (by decide +kernel) rfl, z_tab 2 (by decide +kernel) rfl, by decide +kernel, by decide +kernel, by decide +kernel⟩, z_tab 234 (by decide +kernel) rfl, z_sel 3 (q := (yX3_pushTopRow, 9)) (by decide +kernel) rfl⟩
theorem l_RX3_111 : z_LV RX3 111 yX3_takeRow cX3_takeRow 2 (none) 1 := ⟨⟨Or.inl (z_tab 245 (by decide +kernel) rfl), z_tab 248 (by decide +kernel) rfl, z_tab 2 (by decide +kernel) rfl, by decide +kernel, by decide +kernel, by decide +kernel⟩, z_tab 247 (by decide +kernel) rfl, z_sel 5 (q := (yX3_takeRow, 9)) (by decide +kernel) rfl⟩
theorem l_RX3_115 : z_LV RX3 115 yX2_unmark cX2_unmark 1 (none) 0 := ⟨⟨Or.inl (z_tab 236 (by decide +kernel) rfl), z_tab 239 (by decide +kernel) rfl, z_tab 4 (by decide +kernel) rfl, by decide +kernel, by decide +kernel, by decide +kernel⟩, z_tab 237 (by decide +kernel) rfl, z_tab 238 (by decide +kernel) rfl⟩
theorem l_RX3_118 : z_LV RX3 118 yX3_carryBlank cX3_carryBlank 5 (none) 2 := ⟨⟨Or.inl (z_tab 240 (by decide +kernel) rfl), z_tab 243 (by decide +kernel) rfl, z_tab 2 (by decide +kernel) rfl, by decide +kernel, by decide +kernel, by decide +kernel⟩, z_tab 242 (by decide +kernel) rfl, z_sel 4 (q := (yX3_carryBlank, 9)) (by decide +kernel) rfl⟩
theorem l_RX3_121 : z_LV RX3 121 yX2_erase cX2_erase 7 (none) 3 := ⟨⟨Or.inl (z_tab 322 (by decide +kernel) rfl), z_tab 268 (by decide +kernel) rfl, z_tab 4 (by decide +kernel) rfl, by decide +kernel, by decide +kernel, by decide +kernel⟩, z_tab 266 (by decide +kernel) rfl, z_tab 267 (by decide +kernel) rfl⟩
theorem l_RX3_124 : z_LV RX3 124 yX2_isBlank cX2_isBlank 1 ((some .boolean)) 0 := ⟨⟨Or.inl (z_tab 343 (by decide +kernel) rfl), z_tab 346 (by decide +kernel) rfl, z_tab 4 (by decide +kernel) rfl, by decide +kernel, by decide +kernel, by decide +kernel⟩, z_tab 344 (by decide +kernel) rfl, z_tab 345 (by decide +kernel) rfl⟩
theorem l_RX3_127 : z_LV RX3 127 yX3_unmarkAbove cX3_unmarkAbove 2 (none) 1 := ⟨⟨Or.inl (z_tab 249 (by decide +kernel) rfl), z_tab 252 (by decide +kernel) rfl, z_tab 2 (by decide +kernel) rfl, by decide +kernel, by decide +kernel, by decide +kernel⟩, z_tab 251 (by decide +kernel) rfl, z_sel 6 (q := (yX3_unmarkAbove, 9)) (by decide +kernel) rfl⟩
theorem l_RX3_136 : z_LV RX3 136 yX2_filled cX2_filled 2 ((some .int)) 0 := ⟨⟨Or.inl (z_tab 414 (by decide +kernel) rfl), z_tab 350 (by decide +kernel) rfl, z_tab 4 (by decide +kernel) rfl, by decide +kernel, by decide +kernel, by decide +kernel⟩, z_tab 348 (by decide +kernel) rfl, z_tab 349 (by decide +kernel) rfl⟩
theorem l_RX3_139 : z_LV RX3 139 yX3_countedRows cX3_countedRows 3 ((some .int)) 0 := ⟨⟨Or.inl (z_tab 471 (by decide +kernel) rfl), z_tab 412 (by decide +kernel) rfl, z_tab 2 (by decide +kernel) rfl, by decide +kernel, by decide +kernel, by decide +kernel⟩, z_tab 410 (by decide +kernel) rfl, z_tab 411 (by decide +kernel) rfl⟩
theorem l_RX3_142 : z_LV RX3 142 yX3_endsLine cX3_endsLine 3 ((some .boolean)) 2 := ⟨⟨Or.inl (z_tab 472 (by decide +kernel) rfl), z_tab 422 (by decide +kernel) rfl, z_tab 2 (by decide +kernel) rfl, by decide +kernel, by decide +kernel, by decide +kernel⟩, z_tab 420 (by decide +kernel) rfl, z_tab 421 (by decide +kernel) rfl⟩
theorem l_RX3_146 : z_LV RX3 146 yX3_linesBefore cX3_linesBefore 5 ((some .int)) 1 := ⟨⟨Or.inl (z_tab 531 (by decide +kernel) rfl), z_tab 534 (by decide +kernel) rfl, z_tab 2 (by decide +kernel) rfl, by decide +kernel, by decide +kernel, by decide +kernel⟩, z_tab 533 (by decide +kernel) rfl, z_sel 14 (q := (yX3_linesBefore, 9)) (by decide +kernel) rfl⟩
theorem l_RX3_149 : z_LV RX3 149 yX3_cellsOfLine cX3_cellsOfLine 4 ((some .int)) 2 := ⟨⟨Or.inl (z_tab 466 (by decide +kernel) rfl), z_tab 430 (by decide +kernel) rfl, z_tab 2 (by decide +kernel) rfl, by decide +kernel, by decide +kernel, by decide +kernel⟩, z_tab 428 (by decide +kernel) rfl, z_tab 429 (by decide +kernel) rfl⟩
theorem l_RX3_153 : z_LV RX3 153 yX2_signsBefore cX2_signsBefore 4 ((some .int)) 1 := ⟨⟨Or.inl (z_tab 467 (by decide +kernel) rfl), z_tab 470 (by decide +kernel) rfl, z_tab 4 (by decide +kernel) rfl, by decide +kernel, by decide +kernel, by decide +kernel⟩, z_tab 468 (by decide +kernel) rfl, z_tab 469 (by decide +kernel) rfl⟩
theorem l_RX3_156 : z_LV RX3 156 yX3_startOf cX3_startOf 3 ((some .int)) 1 := ⟨⟨Or.inl (z_tab 465 (by decide +kernel) rfl), z_tab 460 (by decide +kernel) rfl, z_tab 2 (by decide +kernel) rfl, by decide +kernel, by decide +kernel, by decide +kernel⟩, z_tab 458 (by decide +kernel) rfl, z_tab 459 (by decide +kernel) rfl⟩
theorem l_RL_9 : z_LI RL 9 yX4_init cX4_init 2 (none) 0 := ⟨⟨Or.inl (z_tab 11 (by decide +kernel) rfl), z_tab 13 (by decide +kernel) rfl, z_tab 1 (by decide +kernel) rfl, by decide +kernel, by decide +kernel, by decide +kernel⟩, rfl, z_tab 12 (by decide +kernel) rfl⟩
theorem l_RL_12 : z_LI RL 12 yX5_init cX5_init 2 (none) 0 := ⟨⟨Or.inl (z_tab 593 (by decide +kernel) rfl), z_tab 595 (by decide +kernel) rfl, z_tab 6 (by decide +kernel) rfl, by decide +kernel, by decide +kernel, by decide +kernel⟩, rfl, z_tab 594 (by decide +kernel) rfl⟩
theorem l_RL_13 : z_LV RL 13 yX4_feed cX4_feed 3 ((some .int)) 1 := ⟨⟨Or.inl (z_tab 179 (by decide +kernel) rfl), z_tab 182 (by decide +kernel) rfl, z_tab 1 (by decide +kernel) rfl, by decide +kernel, by decide +kernel, by decide +kernel⟩, z_tab 180 (by decide +kernel) rfl, z_tab 181 (by decide +kernel) rfl⟩
theorem l_RL_17 : z_LV RL 17 yX5_feed cX5_feed 3 ((some .int)) 1 := ⟨⟨Or.inl (z_tab 649 (by decide +kernel) rfl), z_tab 652 (by decide +kernel) rfl, z_tab 6 (by decide +kernel) rfl, by decide +kernel, by decide +kernel, by decide +kernel⟩, z_tab 650 (by decide +kernel) rfl, z_tab 651 (by decide +kernel) rfl⟩
theorem l_RL_18 : z_LV RL 18 yX4_moveTo cX4_moveTo 4 ((some .int)) 2 := ⟨⟨Or.inl (z_tab 290 (by decide +kernel) rfl), z_tab 293 (by decide +kernel) rfl, z_tab 1 (by decide +kernel) rfl, by decide +kernel, by decide +kernel, by decide +kernel⟩, z_tab 291 (by decide +kernel) rfl, z_tab 292 (by decide +kernel) rfl⟩
theorem l_RL_22 : z_LV RL 22 yX5_moveTo cX5_moveTo 4 ((some .int)) 2 := ⟨⟨Or.inl (z_tab 714 (by decide +kernel) rfl), z_tab 717 (by decide +kernel) rfl, z_tab 6 (by decide +kernel) rfl, by decide +kernel, by decide +kernel, by decide +kernel⟩, z_tab 715 (by decide +kernel) rfl, z_tab 716 (by decide +kernel) rfl⟩
theorem l_RL_23 : z_LV RL 23 yX4_setRegion cX4_setRegion 3 ((some .int)) 2 := ⟨⟨Or.inl (z_tab 302 (by decide +kernel) rfl), z_tab 305 (by decide +kernel) rfl, z_tab 1 (by decide +kernel) rfl, by decide +kernel, by decide +kernel, by decide +kernel⟩, z_tab 303 (by decide +kernel) rfl, z_tab 304 (by decide +kernel) rfl⟩
theorem l_RL_26 : z_LV RL 26 yX5_setRegion cX5_setRegion 3 ((some .int)) 2 := ⟨⟨Or.inl (z_tab 730 (by decide +kernel) rfl), z_tab 733 (by decide +kernel) rfl, z_tab 6 (by decide +kernel) rfl, by decide +kernel, by decide +kernel, by decide +kernel⟩, z_tab 731 (by decide +kernel) rfl, z_tab 732 (by decide +kernel) rfl⟩
theorem l_RL_27 : z_LV RL 27 yX4_eraseLine cX4_eraseLine 3 ((some .int)) 1 := ⟨⟨Or.inl (z_tab 306 (by decide +kernel) rfl), z_tab 309 (by decide +kernel) rfl, z_tab 1 (by decide +kernel) rfl, by decide +kernel, by decide +kernel, by decide +kernel⟩, z_tab 307 (by decide +kernel) rfl, z_tab 308 (by decide +kernel) rfl⟩
theorem l_RL_30 : z_LV RL 30 yX5_eraseLine cX5_eraseLine 3 ((some .int)) 1 := ⟨⟨Or.inl (z_tab 734 (by decide +kernel) rfl), z_tab 737 (by decide +kernel) rfl, z_tab 6 (by decide +kernel) rfl, by decide +kernel, by decide +kernel, by decide +kernel⟩, z_tab 735 (by decide +kernel) rfl, z_tab 736 (by decide +kernel) rfl⟩
theorem l_RL_31 : z_LV RL 31 yX4_eraseScreen cX4_eraseScreen 3 ((some .int)) 1 := ⟨⟨Or.inl (z_tab 323 (by decide +kernel) rfl), z_tab 326 (by decide +kernel) rfl, z_tab 1 (by decide +kernel) rfl, by decide +kernel, by decide +kernel, by decide +kernel⟩, z_tab 324 (by decide +kernel) rfl, z_tab 325 (by decide +kernel) rfl⟩
theorem l_RL_34 : z_LV RL 34 yX5_eraseScreen cX5_eraseScreen 5 ((some .int)) 1 := ⟨⟨Or.inl (z_tab 750 (by decide +kernel) rfl), z_tab 753 (by decide +kernel) rfl, z_tab 6 (by decide +kernel) rfl, by decide +kernel, by decide +kernel, by decide +kernel⟩, z_tab 751 (by decide +kernel) rfl, z_tab 752 (by decide +kernel) rfl⟩
theorem l_RL_35 : z_LV RL 35 yX4_insertRows cX4_insertRows 2 ((some .int)) 1 := ⟨⟨Or.inl (z_tab 331 (by decide +kernel) rfl), z_tab 334 (by decide +kernel) rfl, z_tab 1 (by decide +kernel) rfl, by decide +kernel, by decide +kernel, by decide +kernel⟩, z_tab 332 (by decide +kernel) rfl, z_tab 333 (by decide +kernel) rfl⟩
theorem l_RL_38 : z_LV RL 38 yX5_insertRows cX5_insertRows 7 ((some .int)) 1 := ⟨⟨Or.inl (z_tab 754 (by decide +kernel) rfl), z_tab 757 (by decide +kernel) rfl, z_tab 6 (by decide +kernel) rfl, by decide +kernel, by decide +kernel, by decide +kernel⟩, z_tab 755 (by decide +kernel) rfl, z_tab 756 (by decide +kernel) rfl⟩
theorem l_RL_39 : z_LV RL 39 yX4_deleteRows cX4_deleteRows 2 ((some .int)) 1 := ⟨⟨Or.inl (z_tab 351 (by decide +kernel) rfl), z_tab 354 (by decide +kernel) rfl, z_tab 1 (by decide +kernel) rfl, by decide +kernel, by decide +kernel, by decide +kernel⟩, z_tab 352 (by decide +kernel) rfl, z_tab 353 (by decide +kernel) rfl⟩
theorem l_RL_42 : z_LV RL 42 yX5_deleteRows cX5_deleteRows 7 ((some .int)) 1 := ⟨⟨Or.inl (z_tab 766 (by decide +kernel) rfl), z_tab 769 (by decide +kernel) rfl, z_tab 6 (by decide +kernel) rfl, by decide +kernel, by decide +kernel, by decide +kernel⟩, z_tab 767 (by decide +kernel) rfl, z_tab 768 (by decide +kernel) rfl⟩
theorem l_RL_43 : z_LV RL 43 yX4_insertCells cX4_insertCells 4 ((some .int)) 1 := ⟨⟨Or.inl (z_tab 359 (by decide +kernel) rfl), z_tab 362 (by decide +kernel) rfl, z_tab 1 (by decide +kernel) rfl, by decide +kernel, by decide +kernel, by decide +kernel⟩, z_tab 360 (by decide +kernel) rfl, z_tab 361 (by decide +kernel) rfl⟩
theorem l_RL_46 : z_LV RL 46 yX5_insertCells cX5_insertCells 7 ((some .int)) 1 := ⟨⟨Or.inl (z_tab 770 (by decide +kernel) rfl), z_tab 773 (by decide +kernel) rfl, z_tab 6 (by decide +kernel) rfl, by decide +kernel, by decide +kernel, by decide +kernel⟩, z_tab 771 (by decide +kernel) rfl, z_tab 772 (by decide +kernel) rfl⟩
theorem l_RL_47 : z_LV RL 47 yX4_deleteCells cX4_deleteCells 4 ((some .int)) 1 := ⟨⟨Or.inl (z_tab 369 (by decide +kernel) rfl), z_tab 372 (by decide +kernel) rfl, z_tab 1 (by decide +kernel) rfl, by decide +kernel, by decide +kernel, by decide +kernel⟩, z_tab 370 (by decide +kernel) rfl, z_tab 371 (by decide +kernel) rfl⟩
theorem l_RL_50 : z_LV RL 50 yX5_deleteCells cX5_deleteCells 7 ((some .int)) 1 := ⟨⟨Or.inl (z_tab 778 (by decide +kernel) rfl), z_tab 781 (by decide +kernel) rfl, z_tab 6 (by decide +kernel) rfl, by decide +kernel, by decide +kernel, by decide +kernel⟩, z_tab 779 (by decide +kernel) rfl, z_tab 780 (by decide +kernel) rfl⟩
theorem l_RL_51 : z_LV RL 51 yX4_keep cX4_keep 1 ((some .int)) 0 := ⟨⟨Or.inl (z_tab 377 (by decide +kernel) rfl), z_tab 380 (by decide +kernel) rfl, z_tab 1 (by decide +kernel) rfl, by decide +kernel, by decide +kernel, by decide +kernel⟩, z_tab 378 (by decide +kernel) rfl, z_tab 379 (by decide +kernel) rfl⟩
theorem l_RL_55 : z_LV RL 55 yX5_keep cX5_keep 1 ((some .int)) 0 := ⟨⟨Or.inl (z_tab 782 (by decide +kernel) rfl), z_tab 785 (by decide +kernel) rfl, z_tab 6 (by decide +kernel) rfl, by decide +kernel, by decide +kernel, by decide +kernel⟩, z_tab 783 (by decide +kernel) rfl, z_tab 784 (by decide +kernel) rfl⟩
theorem l_RL_56 : z_LV RL 56 yX4_back cX4_back 1 ((some .int)) 0 := ⟨⟨Or.inl (z_tab 386 (by decide +kernel) rfl), z_tab 389 (by decide +kernel) rfl, z_tab 1 (by decide +kernel) rfl, by decide +kernel, by decide +kernel, by decide +kernel⟩, z_tab 387 (by decide +kernel) rfl, z_tab 388 (by decide +kernel) rfl⟩
theorem l_RL_59 : z_LV RL 59 yX5_back cX5_back 1 ((some .int)) 0 := ⟨⟨Or.inl (z_tab 786 (by decide +kernel) rfl), z_tab 789 (by decide +kernel) rfl, z_tab 6 (by decide +kernel) rfl, by decide +kernel, by decide +kernel, by decide +kernel⟩, z_tab 787 (by decide +kernel) rfl, z_tab 788 (by decide +kernel) rfl⟩
theorem l_RL_60 : z_LV RL 60 yX4_resize cX4_resize 4 ((some .int)) 2 := ⟨⟨Or.inl (z_tab 394 (by decide +kernel) rfl), z_tab 397 (by decide +kernel) rfl, z_tab 1 (by decide +kernel) rfl, by decide +kernel, by decide +kernel, by decide +kernel⟩, z_tab 395 (by decide +kernel) rfl, z_tab 396 (by decide +kernel) rfl⟩
theorem l_RL_63 : z_LV RL 63 yX5_resize cX5_resize 6 ((some .int)) 2 := ⟨⟨Or.inl (z_tab 898 (by decide +kernel) rfl), z_tab 901 (by decide +kernel) rfl, z_tab 6 (by decide +kernel) rfl, by decide +kernel, by decide +kernel, by decide +kernel⟩, z_tab 899 (by decide +kernel) rfl, z_tab 900 (by decide +kernel) rfl⟩
theorem l_RL_64 : z_LV RL 64 yX4_cell cX4_cell 3 ((some .int)) 2 := ⟨⟨Or.inl (z_tab 484 (by decide +kernel) rfl), z_tab 487 (by decide +kernel) rfl, z_tab 1 (by decide +kernel) rfl, by decide +kernel, by decide +kernel, by decide +kernel⟩, z_tab 485 (by decide +kernel) rfl, z_tab 486 (by decide +kernel) rfl⟩
theorem l_RL_67 : z_LV RL 67 yX5_cell cX5_cell 4 ((some .int)) 2 := ⟨⟨Or.inl (z_tab 914 (by decide +kernel) rfl), z_tab 917 (by decide +kernel) rfl, z_tab 6 (by decide +kernel) rfl, by decide +kernel, by decide +kernel, by decide +kernel⟩, z_tab 915 (by decide +kernel) rfl, z_tab 916 (by decide +kernel) rfl⟩
theorem l_RL_68 : z_LV RL 68 yX4_row cX4_row 4 ((some .int)) 2 := ⟨⟨Or.inl (z_tab 492 (by decide +kernel) rfl), z_tab 495 (by decide +kernel) rfl, z_tab 1 (by decide +kernel) rfl, by decide +kernel, by decide +kernel, by decide +kernel⟩, z_tab 493 (by decide +kernel) rfl, z_tab 494 (by decide +kernel) rfl⟩
theorem l_RL_71 : z_LV RL 71 yX5_row cX5_row 3 ((some .int)) 2 := ⟨⟨Or.inl (z_tab 918 (by decide +kernel) rfl), z_tab 921 (by decide +kernel) rfl, z_tab 6 (by decide +kernel) rfl, by decide +kernel, by decide +kernel, by decide +kernel⟩, z_tab 919 (by decide +kernel) rfl, z_tab 920 (by decide +kernel) rfl⟩
theorem l_RL_72 : z_LV RL 72 yX4_line cX4_line 5 ((some .int)) 2 := ⟨⟨Or.inl (z_tab 501 (by decide +kernel) rfl), z_tab 504 (by decide +kernel) rfl, z_tab 1 (by decide +kernel) rfl, by decide +kernel, by decide +kernel, by decide +kernel⟩, z_tab 502 (by decide +kernel) rfl, z_tab 503 (by decide +kernel) rfl⟩
theorem l_RL_75 : z_LV RL 75 yX5_line cX5_line 5 ((some .int)) 2 := ⟨⟨Or.inl (z_tab 790 (by decide +kernel) rfl), z_tab 793 (by decide +kernel) rfl, z_tab 6 (by decide +kernel) rfl, by decide +kernel, by decide +kernel, by decide +kernel⟩, z_tab 791 (by decide +kernel) rfl, z_tab 792 (by decide +kernel) rfl⟩
theorem l_RL_76 : z_LV RL 76 yX4_sign cX4_sign 4 ((some .int)) 2 := ⟨⟨Or.inl (z_tab 514 (by decide +kernel) rfl), z_tab 517 (by decide +kernel) rfl, z_tab 1 (by decide +kernel) rfl, by decide +kernel, by decide +kernel, by decide +kernel⟩, z_tab 515 (by decide +kernel) rfl, z_tab 516 (by decide +kernel) rfl⟩
theorem l_RL_79 : z_LV RL 79 yX5_sign cX5_sign 5 ((some .int)) 2 := ⟨⟨Or.inl (z_tab 834 (by decide +kernel) rfl), z_tab 837 (by decide +kernel) rfl, z_tab 6 (by decide +kernel) rfl, by decide +kernel, by decide +kernel, by decide +kernel⟩, z_tab 835 (by decide +kernel) rfl, z_tab 836 (by decide +kernel) rfl⟩
theorem l_RL_80 : z_LV RL 80 yX4_cursor cX4_cursor 4 ((some .int)) 2 := ⟨⟨Or.inl (z_tab 522 (by decide +kernel) rfl), z_tab 525 (by decide +kernel) rfl, z_tab 1 (by decide +kernel) rfl, by decide +kernel, by decide +kernel, by decide +kernel⟩, z_tab 523 (by decide +kernel) rfl, z_tab 524 (by decide +kernel) rfl⟩
theorem l_RL_83 : z_LV RL 83 yX5_cursor cX5_cursor 3 ((some .int)) 2 := ⟨⟨Or.inl (z_tab 842 (by decide +kernel) rfl), z_tab 845 (by decide +kernel) rfl, z_tab 6 (by decide +kernel) rfl, by decide +kernel, by decide +kernel, by decide +kernel⟩, z_tab 843 (by decide +kernel) rfl, z_tab 844 (by decide +kernel) rfl⟩
theorem l_RL_84 : z_LV RL 84 yX4_ifWidth cX4_ifWidth 2 ((some .int)) 1 := ⟨⟨Or.inl (z_tab 536 (by decide +kernel) rfl), z_tab 539 (by decide +kernel) rfl, z_tab 1 (by decide +kernel) rfl, by decide +kernel, by decide +kernel, by decide +kernel⟩, z_tab 537 (by decide +kernel) rfl, z_tab 538 (by decide +kernel) rfl⟩
theorem l_RL_87 : z_LV RL 87 yX5_ifWidth cX5_ifWidth 2 ((some .int)) 1 := ⟨⟨Or.inl (z_tab 866 (by decide +kernel) rfl), z_tab 869 (by decide +kernel) rfl, z_tab 6 (by decide +kernel) rfl, by decide +kernel, by decide +kernel, by decide +kernel⟩, z_tab 867 (by decide +kernel) rfl, z_tab 868 (by decide +kernel) rfl⟩
theorem l_RL_88 : z_LV RL 88 yX4_widthFor cX4_widthFor 3 ((some .int)) 1 := ⟨⟨Or.inl (z_tab 541 (by decide +kernel) rfl), z_tab 544 (by decide +kernel) rfl, z_tab 1 (by decide +kernel) rfl, by decide +kernel, by decide +kernel, by decide +kernel⟩, z_tab 542 (by decide +kernel) rfl, z_tab 543 (by decide +kernel) rfl⟩
theorem l_RL_91 : z_LV RL 91 yX5_widthFor cX5_widthFor 3 ((some .int)) 1 := ⟨⟨Or.inl (z_tab 894 (by decide +kernel) rfl), z_tab 897 (by decide +kernel) rfl, z_tab 6 (by decide +kernel) rfl, by decide +kernel, by decide +kernel, by decide +kernel⟩, z_tab 895 (by decide +kernel) rfl, z_tab 896 (by decide +kernel) rfl⟩
theorem l_RL_92 : z_LV RL 92 yX4_told cX4_told 2 ((some .int)) 1 := ⟨⟨Or.inl (z_tab 545 (by decide +kernel) rfl), z_tab 548 (by decide +kernel) rfl, z_tab 1 (by decide +kernel) rfl, by decide +kernel, by decide +kernel, by decide +kernel⟩, z_tab 546 (by decide +kernel) rfl, z_tab 547 (by decide +kernel) rfl⟩
theorem l_RL_95 : z_LV RL 95 yX5_told cX5_told 2 ((some .int)) 1 := ⟨⟨Or.inl (z_tab 930 (by decide +kernel) rfl), z_tab 933 (by decide +kernel) rfl, z_tab 6 (by decide +kernel) rfl, by decide +kernel, by decide +kernel, by decide +kernel⟩, z_tab 931 (by decide +kernel) rfl, z_tab 932 (by decide +kernel) rfl⟩
theorem l_RL_96 : z_LV RL 96 yX4_undo cX4_undo 1 ((some .int)) 0 := ⟨⟨Or.inl (z_tab 554 (by decide +kernel) rfl), z_tab 557 (by decide +kernel) rfl, z_tab 1 (by decide +kernel) rfl, by decide +kernel, by decide +kernel, by decide +kernel⟩, z_tab 555 (by decide +kernel) rfl, z_tab 556 (by decide +kernel) rfl⟩
theorem l_RL_99 : z_LV RL 99 yX5_undo cX5_undo 2 ((some .int)) 0 := ⟨⟨Or.inl (z_tab 938 (by decide +kernel) rfl), z_tab 941 (by decide +kernel) rfl, z_tab 6 (by decide +kernel) rfl, by decide +kernel, by decide +kernel, by decide +kernel⟩, z_tab 939 (by decide +kernel) rfl, z_tab 940 (by decide +kernel) rfl⟩
theorem l_RL_100 : z_LV RL 100 yX4_digest cX4_digest 4 ((some .long)) 0 := ⟨⟨Or.inl (z_tab 558 (by decide +kernel) rfl), z_tab 561 (by decide +kernel) rfl, z_tab 1 (by decide +kernel) rfl, by decide +kernel, by decide +kernel, by decide +kernel⟩, z_tab 559 (by decide +kernel) rfl, z_tab 560 (by decide +kernel) rfl⟩
theorem l_RL_104 : z_LV RL 104 yX5_digest cX5_digest 5 ((some .long)) 0 := ⟨⟨Or.inl (z_tab 942 (by decide +kernel) rfl), z_tab 945 (by decide +kernel) rfl, z_tab 6 (by decide +kernel) rfl, by decide +kernel, by decide +kernel, by decide +kernel⟩, z_tab 943 (by decide +kernel) rfl, z_tab 944 (by decide +kernel) rfl⟩
theorem l_RX5_32 : z_LV RX5 32 yX5_blanks cX5_blanks 3 (none) 1 := ⟨⟨Or.inl (z_tab 597 (by decide +kernel) rfl), z_tab 600 (by decide +kernel) rfl, z_tab 6 (by decide +kernel) rfl, by decide +kernel, by decide +kernel, by decide +kernel⟩, z_tab 599 (by decide +kernel) rfl, z_sel 19 (q := (yX5_blanks, 13)) (by decide +kernel) rfl⟩
theorem l_RX5_40 : z_LS RX5 40 yX5_at cX5_at 2 ((some .int)) 2 := ⟨⟨Or.inl (z_tab 601 (by decide +kernel) rfl), z_tab 603 (by decide +kernel) rfl, z_tab 6 (by decide +kernel) rfl, by decide +kernel, by decide +kernel, by decide +kernel⟩, z_tab 602 (by decide +kernel) rfl⟩
theorem l_RX5_44 : z_LV RX5 44 yX5_unwraps cX5_unwraps 2 (none) 1 := ⟨⟨Or.inl (z_tab 604 (by decide +kernel) rfl), z_tab 607 (by decide +kernel) rfl, z_tab 6 (by decide +kernel) rfl, by decide +kernel, by decide +kernel, by decide +kernel⟩, z_tab 606 (by decide +kernel) rfl, z_sel 20 (q := (yX5_unwraps, 13)) (by decide +kernel) rfl⟩
theorem l_RX5_47 : z_LS RX5 47 yX5_in cX5_in 3 ((some .boolean)) 3 := ⟨⟨Or.inl (z_tab 653 (by decide +kernel) rfl), z_tab 655 (by decide +kernel) rfl, z_tab 6 (by decide +kernel) rfl, by decide +kernel, by decide +kernel, by decide +kernel⟩, z_tab 654 (by decide +kernel) rfl⟩
theorem l_RX5_51 : z_LV RX5 51 yX5_code cX5_code 3 ((some .int)) 2 := ⟨⟨Or.inl (z_tab 703 (by decide +kernel) rfl), z_tab 706 (by decide +kernel) rfl, z_tab 6 (by decide +kernel) rfl, by decide +kernel, by decide +kernel, by decide +kernel⟩, z_tab 705 (by decide +kernel) rfl, z_sel 32 (q := (yX5_code, 13)) (by decide +kernel) rfl⟩
theorem l_RX5_54 : z_LS RX5 54 yX5_isRight cX5_isRight 1 ((some .boolean)) 1 := ⟨⟨Or.inl (z_tab 707 (by decide +kernel) rfl), z_tab 709 (by decide +kernel) rfl, z_tab 6 (by decide +kernel) rfl, by decide +kernel, by decide +kernel, by decide +kernel⟩, z_tab 708 (by decide +kernel) rfl⟩
theorem l_RX5_58 : z_LV RX5 58 yX5_sets cX5_sets 4 (none) 3 := ⟨⟨Or.inl (z_tab 710 (by decide +kernel) rfl), z_tab 713 (by decide +kernel) rfl, z_tab 6 (by decide +kernel) rfl, by decide +kernel, by decide +kernel, by decide +kernel⟩, z_tab 712 (by decide +kernel) rfl, z_sel 33 (q := (yX5_sets, 13)) (by decide +kernel) rfl⟩
theorem l_RX5_62 : z_LS RX5 62 yX5_isWide cX5_isWide 1 ((some .boolean)) 1 := ⟨⟨Or.inl (z_tab 692 (by decide +kernel) rfl), z_tab 694 (by decide +kernel) rfl, z_tab 6 (by decide +kernel) rfl, by decide +kernel, by decide +kernel, by decide +kernel⟩, z_tab 693 (by decide +kernel) rfl⟩
theorem l_RX5_65 : z_LV RX5 65 yX5_frees cX5_frees 4 (none) 3 := ⟨⟨Or.inl (z_tab 699 (by decide +kernel) rfl), z_tab 702 (by decide +kernel) rfl, z_tab 6 (by decide +kernel) rfl, by decide +kernel, by decide +kernel, by decide +kernel⟩, z_tab 701 (by decide +kernel) rfl, z_sel 31 (q := (yX5_frees, 13)) (by decide +kernel) rfl⟩
theorem l_RX5_68 : z_LV RX5 68 yX5_filled cX5_filled 4 ((some .int)) 1 := ⟨⟨Or.inl (z_tab 742 (by decide +kernel) rfl), z_tab 745 (by decide +kernel) rfl, z_tab 6 (by decide +kernel) rfl, by decide +kernel, by decide +kernel, by decide +kernel⟩, z_tab 744 (by decide +kernel) rfl, z_sel 38 (q := (yX5_filled, 13)) (by decide +kernel) rfl⟩
theorem l_RX5_72 : z_LV RX5 72 yX5_copies cX5_copies 4 (none) 2 := ⟨⟨Or.inl (z_tab 676 (by decide +kernel) rfl), z_tab 679 (by decide +kernel) rfl, z_tab 6 (by decide +kernel) rfl, by decide +kernel, by decide +kernel, by decide +kernel⟩, z_tab 678 (by decide +kernel) rfl, z_sel 26 (q := (yX5_copies, 13)) (by decide +kernel) rfl⟩
theorem l_RX5_76 : z_LV RX5 76 yX5_keepsRow cX5_keepsRow 3 (none) 1 := ⟨⟨Or.inl (z_tab 672 (by decide +kernel) rfl), z_tab 675 (by decide +kernel) rfl, z_tab 6 (by decide +kernel) rfl, by decide +kernel, by decide +kernel, by decide +kernel⟩, z_tab 674 (by decide +kernel) rfl, z_sel 25 (q := (yX5_keepsRow, 13)) (by decide +kernel) rfl⟩
theorem l_RX5_79 : z_LV RX5 79 yX5_unwrapsAhead cX5_unwrapsAhead 2 (none) 1 := ⟨⟨Or.inl (z_tab 680 (by decide +kernel) rfl), z_tab 683 (by decide +kernel) rfl, z_tab 6 (by decide +kernel) rfl, by decide +kernel, by decide +kernel, by decide +kernel⟩, z_tab 682 (by decide +kernel) rfl, z_sel 27 (q := (yX5_unwrapsAhead, 13)) (by decide +kernel) rfl⟩
theorem l_RX5_82 : z_LV RX5 82 yX5_scrolls cX5_scrolls 4 (none) 0 := ⟨⟨Or.inl (z_tab 668 (by decide +kernel) rfl), z_tab 671 (by decide +kernel) rfl, z_tab 6 (by decide +kernel) rfl, by decide +kernel, by decide +kernel, by decide +kernel⟩, z_tab 670 (by decide +kernel) rfl, z_sel 24 (q := (yX5_scrolls, 13)) (by decide +kernel) rfl⟩
theorem l_RX5_85 : z_LV RX5 85 yX5_feedsLine cX5_feedsLine 1 ((some .boolean)) 0 := ⟨⟨Or.inl (z_tab 664 (by decide +kernel) rfl), z_tab 667 (by decide +kernel) rfl, z_tab 6 (by decide +kernel) rfl, by decide +kernel, by decide +kernel, by decide +kernel⟩, z_tab 666 (by decide +kernel) rfl, z_sel 23 (q := (yX5_feedsLine, 13)) (by decide +kernel) rfl⟩
theorem l_RX5_89 : z_LV RX5 89 yX5_goesOn cX5_goesOn 4 (none) 1 := ⟨⟨Or.inl (z_tab 688 (by decide +kernel) rfl), z_tab 691 (by decide +kernel) rfl, z_tab 6 (by decide +kernel) rfl, by decide +kernel, by decide +kernel, by decide +kernel⟩, z_tab 690 (by decide +kernel) rfl, z_sel 29 (q := (yX5_goesOn, 13)) (by decide +kernel) rfl⟩
theorem l_RX5_93 : z_LV RX5 93 yX5_erases cX5_erases 5 (none) 3 := ⟨⟨Or.inl (z_tab 695 (by decide +kernel) rfl), z_tab 698 (by decide +kernel) rfl, z_tab 6 (by decide +kernel) rfl, by decide +kernel, by decide +kernel, by decide +kernel⟩, z_tab 697 (by decide +kernel) rfl, z_sel 30 (q := (yX5_erases, 13)) (by decide +kernel) rfl⟩
theorem l_RX5_96 : z_LV RX5 96 yX5_records cX5_records 2 (none) 0 := ⟨⟨Or.inl (z_tab 656 (by decide +kernel) rfl), z_tab 659 (by decide +kernel) rfl, z_tab 6 (by decide +kernel) rfl, by decide +kernel, by decide +kernel, by decide +kernel⟩, z_tab 658 (by decide +kernel) rfl, z_sel 21 (q := (yX5_records, 13)) (by decide +kernel) rfl⟩
theorem l_RX5_99 : z_LV RX5 99 yX5_moves cX5_moves 4 (none) 1 := ⟨⟨Or.inl (z_tab 660 (by decide +kernel) rfl), z_tab 663 (by decide +kernel) rfl, z_tab 6 (by decide +kernel) rfl, by decide +kernel, by decide +kernel, by decide +kernel⟩, z_tab 662 (by decide +kernel) rfl, z_sel 22 (q := (yX5_moves, 13)) (by decide +kernel) rfl⟩
theorem l_RX5_102 : z_LV RX5 102 yX5_writes cX5_writes 4 (none) 1 := ⟨⟨Or.inl (z_tab 684 (by decide +kernel) rfl), z_tab 687 (by decide +kernel) rfl, z_tab 6 (by decide +kernel) rfl, by decide +kernel, by decide +kernel, by decide +kernel⟩, z_tab 686 (by decide +kernel) rfl, z_sel 28 (q := (yX5_writes, 13)) (by decide +kernel) rfl⟩
theorem l_RX5_105 : z_LV RX5 105 yX5_isRow cX5_isRow 2 ((some .boolean)) 1 := ⟨⟨Or.inl (z_tab 718 (by decide +kernel) rfl), z_tab 721 (by decide +kernel) rfl, z_tab 6 (by decide +kernel) rfl, by decide +kernel, by decide +kernel, by decide +kernel⟩, z_tab 720 (by decide +kernel) rfl, z_sel 34 (q := (yX5_isRow, 13)) (by decide +kernel) rfl⟩
theorem l_RX5_108 : z_LV RX5 108 yX5_isColumn cX5_isColumn 2 ((some .boolean)) 1 := ⟨⟨Or.inl (z_tab 722 (by decide +kernel) rfl), z_tab 725 (by decide +kernel) rfl, z_tab 6 (by decide +kernel) rfl, by decide +kernel, by decide +kernel, by decide +kernel⟩, z_tab 724 (by decide +kernel) rfl, z_sel 35 (q := (yX5_isColumn, 13)) (by decide +kernel) rfl⟩
theorem l_RX5_111 : z_LV RX5 111 yX5_goes cX5_goes 3 (none) 2 := ⟨⟨Or.inl (z_tab 726 (by decide +kernel) rfl), z_tab 729 (by decide +kernel) rfl, z_tab 6 (by decide +kernel) rfl, by decide +kernel, by decide +kernel, by decide +kernel⟩, z_tab 728 (by decide +kernel) rfl, z_sel 36 (q := (yX5_goes, 13)) (by decide +kernel) rfl⟩
theorem l_RX5_114 : z_LV RX5 114 yX5_filledAll cX5_filledAll 3 ((some .int)) 0 := ⟨⟨Or.inl (z_tab 738 (by decide +kernel) rfl), z_tab 741 (by decide +kernel) rfl, z_tab 6 (by decide +kernel) rfl, by decide +kernel, by decide +kernel, by decide +kernel⟩, z_tab 740 (by decide +kernel) rfl, z_sel 37 (q := (yX5_filledAll, 13)) (by decide +kernel) rfl⟩
theorem l_RX5_118 : z_LV RX5 118 yX5_erasesLine cX5_erasesLine 4 (none) 1 := ⟨⟨Or.inl (z_tab 746 (by decide +kernel) rfl), z_tab 749 (by decide +kernel) rfl, z_tab 6 (by decide +kernel) rfl, by decide +kernel, by decide +kernel, by decide +kernel⟩, z_tab 748 (by decide +kernel) rfl, z_sel 39 (q := (yX5_erasesLine, 13)) (by decide +kernel) rfl⟩
theorem l_RX5_121 : z_LV RX5 121 yX5_isInRegion cX5_isInRegion 1 ((some .boolean)) 0 := ⟨⟨Or.inl (z_tab 758 (by decide +kernel) rfl), z_tab 761 (by decide +kernel) rfl, z_tab 6 (by decide +kernel) rfl, by decide +kernel, by decide +kernel, by decide +kernel⟩, z_tab 760 (by decide +kernel) rfl, z_sel 40 (q := (yX5_isInRegion, 13)) (by decide +kernel) rfl⟩
theorem l_RX5_124 : z_LV RX5 124 yX5_filledRows cX5_filledRows 5 ((some .int)) 2 := ⟨⟨Or.inl (z_tab 762 (by decide +kernel) rfl), z_tab 765 (by decide +kernel) rfl, z_tab 6 (by decide +kernel) rfl, by decide +kernel, by decide +kernel, by decide +kernel⟩, z_tab 764 (by decide +kernel) rfl, z_sel 41 (q := (yX5_filledRows, 13)) (by decide +kernel) rfl⟩
theorem l_RX5_127 : z_LV RX5 127 yX5_splits cX5_splits 4 (none) 1 := ⟨⟨Or.inl (z_tab 774 (by decide +kernel) rfl), z_tab 777 (by decide +kernel) rfl, z_tab 6 (by decide +kernel) rfl, by decide +kernel, by decide +kernel, by decide +kernel⟩, z_tab 776 (by decide +kernel) rfl, z_sel 42 (q := (yX5_splits, 13)) (by decide +kernel) rfl⟩
theorem l_RX5_130 : z_LV RX5 130 yX5_slot cX5_slot 2 ((some .int)) 1 := ⟨⟨Or.inl (z_tab 806 (by decide +kernel) rfl), z_tab 809 (by decide +kernel) rfl, z_tab 6 (by decide +kernel) rfl, by decide +kernel, by decide +kernel, by decide +kernel⟩, z_tab 808 (by decide +kernel) rfl, z_sel 46 (q := (yX5_slot, 13)) (by decide +kernel) rfl⟩
theorem l_RX5_133 : z_LV RX5 133 yX5_isIt cX5_isIt 3 ((some .boolean)) 2 := ⟨⟨Or.inl (z_tab 810 (by decide +kernel) rfl), z_tab 813 (by decide +kernel) rfl, z_tab 6 (by decide +kernel) rfl, by decide +kernel, by decide +kernel, by decide +kernel⟩, z_tab 812 (by decide +kernel) rfl, z_sel 47 (q := (yX5_isIt, 13)) (by decide +kernel) rfl⟩
theorem l_RX5_137 : z_LV RX5 137 yX5_lineEnd cX5_lineEnd 4 ((some .int)) 2 := ⟨⟨Or.inl (z_tab 802 (by decide +kernel) rfl), z_tab 805 (by decide +kernel) rfl, z_tab 6 (by decide +kernel) rfl, by decide +kernel, by decide +kernel, by decide +kernel⟩, z_tab 804 (by decide +kernel) rfl, z_sel 45 (q := (yX5_lineEnd, 13)) (by decide +kernel) rfl⟩
theorem l_RX5_140 : z_LV RX5 140 yX5_counted cX5_counted 3 ((some .int)) 0 := ⟨⟨Or.inl (z_tab 794 (by decide +kernel) rfl), z_tab 797 (by decide +kernel) rfl, z_tab 6 (by decide +kernel) rfl, by decide +kernel, by decide +kernel, by decide +kernel⟩, z_tab 796 (by decide +kernel) rfl, z_sel 43 (q := (yX5_counted, 13)) (by decide +kernel) rfl⟩
theorem l_RX5_143 : z_LV RX5 143 yX5_usedCells cX5_usedCells 3 ((some .int)) 1 := ⟨⟨Or.inl (z_tab 826 (by decide +kernel) rfl), z_tab 829 (by decide +kernel) rfl, z_tab 6 (by decide +kernel) rfl, by decide +kernel, by decide +kernel, by decide +kernel⟩, z_tab 828 (by decide +kernel) rfl, z_sel 51 (q := (yX5_usedCells, 13)) (by decide +kernel) rfl⟩
theorem l_RX5_146 : z_LV RX5 146 yX5_cellsOf cX5_cellsOf 3 ((some .int)) 2 := ⟨⟨Or.inl (z_tab 822 (by decide +kernel) rfl), z_tab 825 (by decide +kernel) rfl, z_tab 6 (by decide +kernel) rfl, by decide +kernel, by decide +kernel, by decide +kernel⟩, z_tab 824 (by decide +kernel) rfl, z_sel 50 (q := (yX5_cellsOf, 13)) (by decide +kernel) rfl⟩
theorem l_RX5_149 : z_LV RX5 149 yX5_signsIn cX5_signsIn 5 ((some .int)) 2 := ⟨⟨Or.inl (z_tab 830 (by decide +kernel) rfl), z_tab 833 (by decide +kernel) rfl, z_tab 6 (by decide +kernel) rfl, by decide +kernel, by decide +kernel, by decide +kernel⟩, z_tab 832 (by decide +kernel) rfl, z_sel 52 (q := (yX5_signsIn, 13)) (by decide +kernel) rfl⟩
theorem l_RX5_152 : z_LV RX5 152 yX5_signsOf cX5_signsOf 5 ((some .int)) 2 := ⟨⟨Or.inl (z_tab 818 (by decide +kernel) rfl), z_tab 821 (by decide +kernel) rfl, z_tab 6 (by decide +kernel) rfl, by decide +kernel, by decide +kernel, by decide +kernel⟩, z_tab 820 (by decide +kernel) rfl, z_sel 49 (q := (yX5_signsOf, 13)) (by decide +kernel) rfl⟩
theorem l_RX5_155 : z_LV RX5 155 yX5_lineBegin cX5_lineBegin 5 ((some .int)) 2 := ⟨⟨Or.inl (z_tab 798 (by decide +kernel) rfl), z_tab 801 (by decide +kernel) rfl, z_tab 6 (by decide +kernel) rfl, by decide +kernel, by decide +kernel, by decide +kernel⟩, z_tab 800 (by decide +kernel) rfl, z_sel 44 (q := (yX5_lineBegin, 13)) (by decide +kernel) rfl⟩
theorem l_RX5_158 : z_LV RX5 158 yX5_lineOf cX5_lineOf 6 ((some .int)) 3 := ⟨⟨Or.inl (z_tab 814 (by decide +kernel) rfl), z_tab 817 (by decide +kernel) rfl, z_tab 6 (by decide +kernel) rfl, by decide +kernel, by decide +kernel, by decide +kernel⟩, z_tab 816 (by decide +kernel) rfl, z_sel 48 (q := (yX5_lineOf, 13)) (by decide +kernel) rfl⟩
theorem l_RX5_162 : z_LV RX5 162 yX5_signOf cX5_signOf 9 ((some .int)) 3 := ⟨⟨Or.inl (z_tab 838 (by decide +kernel) rfl), z_tab 841 (by decide +kernel) rfl, z_tab 6 (by decide +kernel) rfl, by decide +kernel, by decide +kernel, by decide +kernel⟩, z_tab 840 (by decide +kernel) rfl, z_sel 53 (q := (yX5_signOf, 13)) (by decide +kernel) rfl⟩
theorem l_RX5_165 : z_LV RX5 165 yX5_lineAt cX5_lineAt 6 ((some .int)) 1 := ⟨⟨Or.inl (z_tab 858 (by decide +kernel) rfl), z_tab 861 (by decide +kernel) rfl, z_tab 6 (by decide +kernel) rfl, by decide +kernel, by decide +kernel, by decide +kernel⟩, z_tab 860 (by decide +kernel) rfl, z_sel 57 (q := (yX5_lineAt, 13)) (by decide +kernel) rfl⟩
theorem l_RX5_168 : z_LV RX5 168 yX5_columnOf cX5_columnOf 2 ((some .int)) 1 := ⟨⟨Or.inl (z_tab 850 (by decide +kernel) rfl), z_tab 853 (by decide +kernel) rfl, z_tab 6 (by decide +kernel) rfl, by decide +kernel, by decide +kernel, by decide +kernel⟩, z_tab 852 (by decide +kernel) rfl, z_sel 55 (q := (yX5_columnOf, 13)) (by decide +kernel) rfl⟩
theorem l_RX5_171 : z_LV RX5 171 yX5_rowOf cX5_rowOf 2 ((some .int)) 1 := ⟨⟨Or.inl (z_tab 854 (by decide +kernel) rfl), z_tab 857 (by decide +kernel) rfl, z_tab 6 (by decide +kernel) rfl, by decide +kernel, by decide +kernel, by decide +kernel⟩, z_tab 856 (by decide +kernel) rfl, z_sel 56 (q := (yX5_rowOf, 13)) (by decide +kernel) rfl⟩
theorem l_RX5_174 : z_LV RX5 174 yX5_markOf cX5_markOf 9 ((some .int)) 2 := ⟨⟨Or.inl (z_tab 862 (by decide +kernel) rfl), z_tab 865 (by decide +kernel) rfl, z_tab 6 (by decide +kernel) rfl, by decide +kernel, by decide +kernel, by decide +kernel⟩, z_tab 864 (by decide +kernel) rfl, z_sel 58 (q := (yX5_markOf, 13)) (by decide +kernel) rfl⟩
theorem l_RX5_177 : z_LV RX5 177 yX5_cursorOf cX5_cursorOf 4 ((some .int)) 2 := ⟨⟨Or.inl (z_tab 846 (by decide +kernel) rfl), z_tab 849 (by decide +kernel) rfl, z_tab 6 (by decide +kernel) rfl, by decide +kernel, by decide +kernel, by decide +kernel⟩, z_tab 848 (by decide +kernel) rfl, z_sel 54 (q := (yX5_cursorOf, 13)) (by decide +kernel) rfl⟩
theorem l_RX5_196 : z_LV RX5 196 yX5_lays cX5_lays 4 (none) 2 := ⟨⟨Or.inl (z_tab 882 (by decide +kernel) rfl), z_tab 885 (by decide +kernel) rfl, z_tab 6 (by decide +kernel) rfl, by decide +kernel, by decide +kernel, by decide +kernel⟩, z_tab 884 (by decide +kernel) rfl, z_sel 62 (q := (yX5_lays, 13)) (by decide +kernel) rfl⟩
theorem l_RX5_199 : z_LV RX5 199 yX5_pours cX5_pours 3 (none) 1 := ⟨⟨Or.inl (z_tab 878 (by decide +kernel) rfl), z_tab 881 (by decide +kernel) rfl, z_tab 6 (by decide +kernel) rfl, by decide +kernel, by decide +kernel, by decide +kernel⟩, z_tab 880 (by decide +kernel) rfl, z_sel 61 (q := (yX5_pours, 13)) (by decide +kernel) rfl⟩
theorem l_RX5_202 : z_LV RX5 202 yX5_meets cX5_meets 4 (none) 2 := ⟨⟨Or.inl (z_tab 886 (by decide +kernel) rfl), z_tab 889 (by decide +kernel) rfl, z_tab 6 (by decide +kernel) rfl, by decide +kernel, by decide +kernel, by decide +kernel⟩, z_tab 888 (by decide +kernel) rfl, z_sel 63 (q := (yX5_meets, 13)) (by decide +kernel) rfl⟩
theorem l_RX5_205 : z_LV RX5 205 yX5_ends cX5_ends 5 (none) 2 := ⟨⟨Or.inl (z_tab 890 (by decide +kernel) rfl), z_tab 893 (by decide +kernel) rfl, z_tab 6 (by decide +kernel) rfl, by decide +kernel, by decide +kernel, by decide +kernel⟩, z_tab 892 (by decide +kernel) rfl, z_sel 64 (q := (yX5_ends, 13)) (by decide +kernel) rfl⟩
theorem l_RX5_208 : z_LV RX5 208 yX5_poursAll cX5_poursAll 10 ((some .int)) 0 := ⟨⟨Or.inl (z_tab 874 (by decide +kernel) rfl), z_tab 877 (by decide +kernel) rfl, z_tab 6 (by decide +kernel) rfl, by decide +kernel, by decide +kernel, by decide +kernel⟩, z_tab 876 (by decide +kernel) rfl, z_sel 60 (q := (yX5_poursAll, 13)) (by decide +kernel) rfl⟩
theorem l_RX5_211 : z_LV RX5 211 yX5_rowsWith cX5_rowsWith 2 ((some .int)) 1 := ⟨⟨Or.inl (z_tab 870 (by decide +kernel) rfl), z_tab 873 (by decide +kernel) rfl, z_tab 6 (by decide +kernel) rfl, by decide +kernel, by decide +kernel, by decide +kernel⟩, z_tab 872 (by decide +kernel) rfl, z_sel 59 (q := (yX5_rowsWith, 13)) (by decide +kernel) rfl⟩
theorem l_RX5_214 : z_LV RX5 214 yX5_marks cX5_marks 3 (none) 0 := ⟨⟨Or.inl (z_tab 902 (by decide +kernel) rfl), z_tab 905 (by decide +kernel) rfl, z_tab 6 (by decide +kernel) rfl, by decide +kernel, by decide +kernel, by decide +kernel⟩, z_tab 904 (by decide +kernel) rfl, z_sel 65 (q := (yX5_marks, 13)) (by decide +kernel) rfl⟩
theorem l_RX5_217 : z_LV RX5 217 yX5_takes cX5_takes 4 (none) 2 := ⟨⟨Or.inl (z_tab 906 (by decide +kernel) rfl), z_tab 909 (by decide +kernel) rfl, z_tab 6 (by decide +kernel) rfl, by decide +kernel, by decide +kernel, by decide +kernel⟩, z_tab 908 (by decide +kernel) rfl, z_sel 66 (q := (yX5_takes, 13)) (by decide +kernel) rfl⟩
theorem l_RX5_220 : z_LV RX5 220 yX5_lands cX5_lands 6 (none) 1 := ⟨⟨Or.inl (z_tab 910 (by decide +kernel) rfl), z_tab 913 (by decide +kernel) rfl, z_tab 6 (by decide +kernel) rfl, by decide +kernel, by decide +kernel, by decide +kernel⟩, z_tab 912 (by decide +kernel) rfl, z_sel 67 (q := (yX5_lands, 13)) (by decide +kernel) rfl⟩
theorem l_RX5_223 : z_LV RX5 223 yX5_signsFilled cX5_signsFilled 4 ((some .int)) 1 := ⟨⟨Or.inl (z_tab 926 (by decide +kernel) rfl), z_tab 929 (by decide +kernel) rfl, z_tab 6 (by decide +kernel) rfl, by decide +kernel, by decide +kernel, by decide +kernel⟩, z_tab 928 (by decide +kernel) rfl, z_sel 69 (q := (yX5_signsFilled, 13)) (by decide +kernel) rfl⟩
theorem l_RX5_226 : z_LV RX5 226 yX5_rowOfSlot cX5_rowOfSlot 3 ((some .int)) 2 := ⟨⟨Or.inl (z_tab 922 (by decide +kernel) rfl), z_tab 925 (by decide +kernel) rfl, z_tab 6 (by decide +kernel) rfl, by decide +kernel, by decide +kernel, by decide +kernel⟩, z_tab 924 (by decide +kernel) rfl, z_sel 68 (q := (yX5_rowOfSlot, 13)) (by decide +kernel) rfl⟩
theorem l_RX5_229 : z_LV RX5 229 yX5_lines cX5_lines 4 ((some .int)) 0 := ⟨⟨Or.inl (z_tab 934 (by decide +kernel) rfl), z_tab 937 (by decide +kernel) rfl, z_tab 6 (by decide +kernel) rfl, by decide +kernel, by decide +kernel, by decide +kernel⟩, z_tab 936 (by decide +kernel) rfl, z_sel 70 (q := (yX5_lines, 13)) (by decide +kernel) rfl⟩
theorem l_RX5_236 : z_LV RX5 236 yX5_told cX5_told 2 ((some .int)) 1 := ⟨⟨Or.inl (z_tab 948 (by decide +kernel) rfl), z_tab 933 (by decide +kernel) rfl, z_tab 6 (by decide +kernel) rfl, by decide +kernel, by decide +kernel, by decide +kernel⟩, z_tab 931 (by decide +kernel) rfl, z_tab 932 (by decide +kernel) rfl⟩
theorem l_RX5_239 : z_LV RX5 239 yX5_cell cX5_cell 4 ((some .int)) 2 := ⟨⟨Or.inl (z_tab 949 (by decide +kernel) rfl), z_tab 917 (by decide +kernel) rfl, z_tab 6 (by decide +kernel) rfl, by decide +kernel, by decide +kernel, by decide +kernel⟩, z_tab 915 (by decide +kernel) rfl, z_tab 916 (by decide +kernel) rfl⟩
theorem l_RX5_242 : z_LV RX5 242 yX5_mixedLines cX5_mixedLines 10 ((some .long)) 1 := ⟨⟨Or.inl (z_tab 950 (by decide +kernel) rfl), z_tab 953 (by decide +kernel) rfl, z_tab 6 (by decide +kernel) rfl, by decide +kernel, by decide +kernel, by decide +kernel⟩, z_tab 952 (by decide +kernel) rfl, z_sel 71 (q := (yX5_mixedLines, 13)) (by decide +kernel) rfl⟩
end
section
/-! A LIGHTER LOGIC OVER THE KIT'S: numbers are integers, cells are numbered in the order in which they were made; the machine is hidden in z_A -/
abbrev z_V : Type := Int ⊕ Int64 ⊕ Option Nat
abbrev zi (x : Int) : z_V := Sum.inl x
abbrev zl (x : Int64) : z_V := Sum.inr (Sum.inl x)
abbrev zr (r : Option Nat) : z_V := Sum.inr (Sum.inr r)
abbrev zo (a : Nat) : z_V := Sum.inr (Sum.inr (some a))
abbrev z_Mi : Type := Nat → Int → Int
abbrev z_Mr : Type := Nat → Int → Option Nat
abbrev z_R (x : Int) : Prop := -2147483648 ≤ x ∧ x ≤ 2147483647
def z_I (x : Int) : Int32 := Int32.ofInt x
def z_cv (al : Nat → Nat) (v : z_V) : Value := match v with
  | .inl x => .int (z_I x)
  | .inr (.inl y) => .long y
  | .inr (.inr r) => va_rf (r.map al)
def z_cat (v : z_V) : Nat := match v with
  | .inr (.inl _) => 2
  | _ => 1
theorem z_cat_eq (al : Nat → Nat) (v : z_V) : (z_cv al v).category = z_cat v := by
  rcases v with x | y | r
  · rfl
  · rfl
  · cases r <;> rfl
theorem z_cats (al : Nat → Nat) (vs : List z_V) : ((vs.map (z_cv al)).map fun v => v.category).sum = (vs.map z_cat).sum := by
  rw [List.map_map]
  congr 1
  apply List.map_congr_left
  intro v _
  exact z_cat_eq al v
/-! numbers -/
theorem z_I_add (a b : Int) : z_I a + z_I b = z_I (a + b) := by simp [z_I, Int32.ofInt_add]
theorem z_I_sub (a b : Int) : z_I a - z_I b = z_I (a - b) := by simp [z_I, Int32.ofInt_sub]
theorem z_I_mul (a b : Int) : z_I a * z_I b = z_I (a * b) := by simp [z_I, Int32.ofInt_mul]
theorem z_I_neg (a : Int) : - z_I a = z_I (-a) := by simp [z_I, Int32.ofInt_neg]
theorem z_I_toInt {x : Int} (h : z_R x) : (z_I x).toInt = x := by
  unfold z_I
  rw [Int32.toInt_ofInt]
  apply Int.bmod_eq_of_le
  · have := h.1; show -(2147483648 : Int) ≤ x; exact this
  · have := h.2; show x < (2147483648 : Int); omega
theorem z_I_of (x : Int32) : z_I x.toInt = x := by simp [z_I]
theorem z_I_R (x : Int32) : z_R x.toInt := by
  have h1 := Int32.le_toInt x
  have h2 := Int32.toInt_lt x
  constructor <;> omega
theorem z_I_eq {a b : Int} (ha : z_R a) (hb : z_R b) : z_I a = z_I b ↔ a = b := by
  constructor
  · intro h
    have := congrArg Int32.toInt h
    rwa [z_I_toInt ha, z_I_toInt hb] at this
  · intro h; rw [h]
theorem z_I_lt {a b : Int} (ha : z_R a) (hb : z_R b) : z_I a < z_I b ↔ a < b := by
  rw [Int32.lt_iff_toInt_lt, z_I_toInt ha, z_I_toInt hb]
theorem z_I_le {a b : Int} (ha : z_R a) (hb : z_R b) : z_I a ≤ z_I b ↔ a ≤ b := by
  rw [Int32.le_iff_toInt_le, z_I_toInt ha, z_I_toInt hb]
theorem z_I_0 : z_I 0 = 0 := by decide +kernel
theorem z_R0 : z_R 0 := by decide
theorem z_I_nat (n : Nat) : z_I (n : Int) = nI n := by
  simp [z_I, nI, Int32.ofInt, Int32.ofNat]
theorem z_I_clamp {x : Int} (h0 : 0 ≤ x) (h1 : x ≤ 2147483647) : (z_I x).toNatClampNeg = x.toNat := by
  show (z_I x).toInt.toNat = x.toNat
  rw [z_I_toInt ⟨by omega, h1⟩]
theorem z_I_in {x : Int} {n : Nat} (h0 : 0 ≤ x) (h1 : x < n) (hn : n ≤ 2147483648) : vp_in (z_I x) n := by
  rw [vp_in_iff, z_I_toInt ⟨by omega, by omega⟩]
  exact ⟨h0, h1⟩
theorem z_I_div {a b : Int} (ha : 0 ≤ a) (hb : 0 < b) (h1 : z_R a) (h2 : z_R b) : z_I a / z_I b = z_I (a / b) := by
  have e1 : a = (a.toNat : Int) := by omega
  have e2 : b = (b.toNat : Int) := by omega
  rw [e1, e2, z_I_nat, z_I_nat, pk_div (by have := h1.2; omega) (by omega) (by have := h2.2; omega), ← z_I_nat]
  rfl
theorem z_I_rem {a b : Int} (ha : 0 ≤ a) (hb : 0 < b) (h1 : z_R a) (h2 : z_R b) : z_I a - z_I a / z_I b * z_I b = z_I (a % b) := by
  rw [z_I_div ha hb h1 h2, z_I_mul, z_I_sub]
  congr 1
  have := Int.emod_add_mul_ediv a b
  have h3 : a / b * b = b * (a / b) := Int.mul_comm _ _
  omega
/-! updates -/
def z_u {α : Type} (m : Nat → α) (a : Nat) (f : α) : Nat → α := fun b => if b = a then f else m b
def z_v {α : Type} (f : Int → α) (i : Int) (v : α) : Int → α := fun j => if j = i then v else f j
theorem z_us {α : Type} (m : Nat → α) (a : Nat) (f : α) : z_u m a f a = f := if_pos rfl
theorem z_un {α : Type} {m : Nat → α} {a b : Nat} {f : α} (h : b ≠ a) : z_u m a f b = m b := if_neg h
theorem z_uu {α : Type} (m : Nat → α) (a : Nat) (f g : α) : z_u (z_u m a f) a g = z_u m a g := by
  funext b; unfold z_u; split <;> rfl
theorem z_uself {α : Type} (m : Nat → α) (a : Nat) : z_u m a (m a) = m := by
  funext b; unfold z_u; split
  · next h => rw [h]
  · rfl
theorem z_uc {α : Type} (m : Nat → α) {a b : Nat} (f g : α) (h : a ≠ b) : z_u (z_u m a f) b g = z_u (z_u m b g) a f := by
  funext c; unfold z_u
  by_cases h1 : c = a
  · by_cases h2 : c = b
    · exact absurd (h1.symm.trans h2) h
    · simp [h1, h]
  · simp [h1]
theorem z_vs {α : Type} (f : Int → α) (i : Int) (v : α) : z_v f i v i = v := if_pos rfl
theorem z_vn {α : Type} {f : Int → α} {i j : Int} {v : α} (h : j ≠ i) : z_v f i v j = f j := if_neg h
/-! what stands around: classes, addresses, the kinds of the cells -/
abbrev z_G : Type := va_G × (ClassId × ClassId × ClassId × ClassId × ClassId)
abbrev z_E : Type := z_G × (Nat → Nat) × List (Nat × Nat)
abbrev z_Q : Type := Option z_V → z_E → z_Mi → z_Mr → Prop
def z_tys (G : z_G) : List (ClassId × FieldType) := [(G.2.1, .int), (G.2.2.1, .boolean), (G.2.2.2.1, .object RX2), (G.2.2.2.2.1, .object RX0), (G.2.2.2.2.2, .object RX3)]
def z_ty (n : Nat) : Nat → FieldType := match n with
  | 0 => tyX0
  | 1 => tyX1
  | 2 => tyX2
  | 3 => tyX3
  | 4 => tyX4
  | _ => tyX5
def z_NF (n : Nat) : Nat := match n with
  | 0 => 3
  | 1 => 13
  | 2 => 3
  | 3 => 9
  | 4 => 5
  | _ => 13
def z_ref (ty : FieldType) : Bool := match ty with
  | .object _ => true
  | .array _ => true
  | _ => false
def z_fv (ty : FieldType) (x : Int) (r : Option Nat) : Value := if z_ref ty then va_rf r else .int (z_I x)
def z_fs (n : Nat) (f : Int → Int) (g : Int → Option Nat) : List Value := (List.range (z_NF n)).map fun k => z_fv (z_ty n k) (f (k : Nat)) (g (k : Nat))
def z_ce (G : z_G) (t : Nat × Nat) (f : Int → Int) (g : Int → Option Nat) : va_E :=
  if t.1 < 10 then .inr (t.1, z_fs t.1 f g)
  else if t.1 = 10 then .inl (G.2.1, t.2, .inl fun j => z_I (f (j : Nat)))
  else if t.1 = 11 then .inl (G.2.2.1, t.2, .inl fun j => z_I (f (j : Nat)))
  else if t.1 = 12 then .inl (G.2.2.2.1, t.2, .inr (.inr (.inr (.inr fun j => g (j : Nat)))))
  else if t.1 = 13 then .inl (G.2.2.2.2.1, t.2, .inr (.inr (.inr (.inr fun j => g (j : Nat)))))
  else .inl (G.2.2.2.2.2, t.2, .inr (.inr (.inr (.inr fun j => g (j : Nat)))))
def z_mp (al : Nat → Nat) (g : Int → Option Nat) : Int → Option Nat := fun k => (g k).map al
def z_W (E : z_E) (mi : z_Mi) (mr : z_Mr) : va_W := E.2.2.zipIdx.map fun p => (E.2.1 p.2, z_ce E.1 p.1 (mi p.2) (z_mp E.2.1 (mr p.2)))
theorem z_W_get {E : z_E} {mi : z_Mi} {mr : z_Mr} {i : Nat} {t : Nat × Nat} (h : E.2.2[i]? = some t) : (z_W E mi mr)[i]? = some (E.2.1 i, z_ce E.1 t (mi i) (z_mp E.2.1 (mr i))) := by
  simp [z_W, List.getElem?_map, List.getElem?_zipIdx, h]
theorem z_W_none {E : z_E} {mi : z_Mi} {mr : z_Mr} {i : Nat} (h : E.2.2[i]? = none) : (z_W E mi mr)[i]? = none := by
  simp only [z_W, List.getElem?_map, List.getElem?_zipIdx, h, Option.map_none]
theorem z_W_set {E : z_E} {mi : z_Mi} {mr : z_Mr} {a : Nat} {t : Nat × Nat} (f : Int → Int) (g : Int → Option Nat) (h : E.2.2[a]? = some t) :
    (z_W E mi mr).set a (E.2.1 a, z_ce E.1 t f (z_mp E.2.1 g)) = z_W E (z_u mi a f) (z_u mr a g) := by
  apply List.ext_getElem?
  intro i
  by_cases hi : i = a
  · subst hi
    have hl : i < (z_W E mi mr).length := (List.getElem?_eq_some_iff.mp (z_W_get (mi := mi) (mr := mr) h)).1
    rw [List.getElem?_set_self hl, z_W_get h, z_us, z_us]
  · rw [List.getElem?_set_ne (Ne.symm hi)]
    cases ht : E.2.2[i]? with
    | none => rw [z_W_none ht, z_W_none ht]
    | some t' => rw [z_W_get ht, z_W_get ht, z_un hi, z_un hi]
def z_P (E : z_E) (mi : z_Mi) (mr : z_Mr) (H : Heap) : Prop := va_P E.1.1 vwCl (z_W E mi mr) H ∧ ∀ (i : Nat) (k : Int) (j : Nat), i < E.2.2.length → mr i k = some j → j < E.2.2.length
abbrev z_af (b0 : Nat) : Nat → Prop := fun q => b0 ≤ q
/-! locals -/
def z_L (al : Nat → Nat) : Nat → List (Option z_V) → List (Nat × Value)
  | _, [] => []
  | i, none :: t => z_L al (i + 1) t
  | i, some v :: t => (i, z_cv al v) :: z_L al (i + 1) t
theorem z_L_mem (al : Nat → Nat) (ls : List (Option z_V)) : ∀ (i : Nat) (q : Nat × Value), q ∈ z_L al i ls ↔ ∃ (j : Nat) (v : z_V), ls[j]? = some (some v) ∧ q = (i + j, z_cv al v) := by
  induction ls with
  | nil => intro i q; simp [z_L]
  | cons a t ih =>
    intro i q
    have hs : (∃ (j : Nat) (v : z_V), (a :: t)[j]? = some (some v) ∧ q = (i + j, z_cv al v)) ↔ (∃ v, a = some v ∧ q = (i, z_cv al v)) ∨ ∃ (j : Nat) (v : z_V), t[j]? = some (some v) ∧ q = (i + 1 + j, z_cv al v) := by
      constructor
      · rintro ⟨j, v, h1, h2⟩
        cases j with
        | zero => exact Or.inl ⟨v, by simpa using h1, by simpa using h2⟩
        | succ j => exact Or.inr ⟨j, v, by simpa using h1, by rw [h2]; congr 1; omega⟩
      · rintro (⟨v, h1, h2⟩ | ⟨j, v, h1, h2⟩)
        · exact ⟨0, v, by simp [h1], by simpa using h2⟩
        · exact ⟨j + 1, v, by simpa using h1, by rw [h2]; congr 1; omega⟩
    rw [hs]
    cases a with
    | none =>
      show q ∈ z_L al (i + 1) t ↔ _
      rw [ih]
      simp
    | some v =>
      show q ∈ (i, z_cv al v) :: z_L al (i + 1) t ↔ _
      rw [List.mem_cons, ih]
      simp
theorem z_L_at {lsA : Array Slot} {nL : Nat} {al : Nat → Nat} {ls : List (Option z_V)} {i : Nat} {v : z_V} (h : lv_has lsA nL (z_L al 0 ls)) (hi : ls[i]? = some (some v)) : lsA[i]? = some (.val (z_cv al v)) :=
  h.2.2 (i, z_cv al v) ((z_L_mem al ls 0 _).mpr ⟨i, v, hi, by simp⟩)
theorem z_L_sub {lsA : Array Slot} {nL : Nat} {l l' : List (Nat × Value)} (h : lv_has lsA nL l) (hs : ∀ q ∈ l', q ∈ l) : lv_has lsA nL l' := ⟨h.1, h.2.1, fun q hq => h.2.2 q (hs q hq)⟩
/-- no long begins in the slot ahead -/
def z_ok (ls : List (Option z_V)) (i : Nat) : Bool := match i with
  | 0 => true
  | j + 1 => match ls[j]? with
    | some (some (.inr (.inl _))) => false
    | _ => true
theorem z_L_st1 {al : Nat → Nat} {ls : List (Option z_V)} {i : Nat} {v : z_V} (ho : z_ok ls i = true) :
    ∀ q ∈ z_L al 0 (ls.set i (some v)), q ∈ (i, z_cv al v) :: (z_L al 0 ls).filter (fun q => !(q.1 == i) && !(q.1 + 1 == i && q.2.category == 2)) := by
  intro q hq
  obtain ⟨j, w, h1, h2⟩ := (z_L_mem al _ 0 q).mp hq
  by_cases hj : j = i
  · subst hj
    have hl : j < ls.length := by
      have := (List.getElem?_eq_some_iff.mp h1).1
      simpa using this
    rw [List.getElem?_set_self hl] at h1
    cases h1
    rw [h2]; simp
  · rw [List.getElem?_set_ne (Ne.symm hj)] at h1
    refine List.mem_cons_of_mem _ (List.mem_filter.mpr ⟨(z_L_mem al ls 0 q).mpr ⟨j, w, h1, h2⟩, ?_⟩)
    rw [h2]
    simp only [Nat.zero_add, z_cat_eq]
    have hn : ¬ (j + 1 = i ∧ z_cat w = 2) := by
      rintro ⟨e1, e2⟩
      subst e1
      unfold z_ok at ho
      simp only [h1] at ho
      rcases w with x | y | r
      · exact absurd (show (1 : Nat) = 2 from e2) (by decide)
      · exact absurd (show (false : Bool) = true from ho) (by decide)
      · exact absurd (show (1 : Nat) = 2 from e2) (by decide)
    have : (j == i) = false := by simpa using hj
    rw [this]
    by_cases h3 : j + 1 = i
    · have h4 : ¬ z_cat w = 2 := fun h => hn ⟨h3, h⟩
      simp [h4]
    · simp [h3]
theorem z_L_st2 {al : Nat → Nat} {ls : List (Option z_V)} {i : Nat} {v : z_V} (ho : z_ok ls i = true) :
    ∀ q ∈ z_L al 0 ((ls.set i (some v)).set (i + 1) none), q ∈ (i, z_cv al v) :: (z_L al 0 ls).filter (fun q => !(q.1 == i) && (!(q.1 == i + 1) && !(q.1 + 1 == i && q.2.category == 2))) := by
  intro q hq
  obtain ⟨j, w, h1, h2⟩ := (z_L_mem al _ 0 q).mp hq
  by_cases hj1 : j = i + 1
  · subst hj1
    have hl : i + 1 < (ls.set i (some v)).length := by
      have := (List.getElem?_eq_some_iff.mp h1).1
      simpa using this
    rw [List.getElem?_set_self hl] at h1
    cases h1
  · rw [List.getElem?_set_ne (Ne.symm hj1)] at h1
    have hq1 := z_L_st1 (al := al) (v := v) ho q ((z_L_mem al _ 0 q).mpr ⟨j, w, h1, h2⟩)
    rcases List.mem_cons.mp hq1 with h | h
    · exact List.mem_cons.mpr (Or.inl h)
    · obtain ⟨h3, h4⟩ := List.mem_filter.mp h
      refine List.mem_cons_of_mem _ (List.mem_filter.mpr ⟨h3, ?_⟩)
      rw [h2] at h4 ⊢
      simp only [Nat.zero_add] at h4 ⊢
      have : (j == i + 1) = false := by simpa using hj1
      rw [this]
      simpa using h4
/-- how arguments lie in the locals -/
def z_en : List z_V → List (Option z_V)
  | [] => []
  | .inr (.inl y) :: t => some (zl y) :: none :: z_en t
  | v :: t => some v :: z_en t
theorem z_L_en (al : Nat → Nat) (n : Nat) (vs : List z_V) : ∀ i, z_L al i (z_en vs ++ List.replicate n none) = lv_args i (vs.map (z_cv al)) := by
  induction vs with
  | nil =>
    intro i
    simp only [z_en, List.nil_append, List.map_nil, lv_args]
    induction n generalizing i with
    | zero => rfl
    | succ n ih => rw [List.replicate_succ]; exact ih (i + 1)
  | cons v t ih =>
    intro i
    rcases v with x | y | r
    · show (i, z_cv al (zi x)) :: z_L al (i + 1) (z_en t ++ _) = _
      rw [ih]; rfl
    · show (i, z_cv al (zl y)) :: z_L al (i + 1 + 1) (z_en t ++ _) = _
      rw [ih]; rfl
    · show (i, z_cv al (zr r)) :: z_L al (i + 1) (z_en t ++ _) = _
      rw [ih]
      cases r <;> rfl
theorem z_sl_len (al : Nat → Nat) (vs : List z_V) : (lg_sl (vs.map (z_cv al))).length = (vs.map z_cat).sum := by
  induction vs with
  | nil => rfl
  | cons v t ih =>
    have e : (lg_sl ((v :: t).map (z_cv al))).length = (if (z_cv al v).category = 2 then [Slot.val (z_cv al v), .second] else [.val (z_cv al v)]).length + (lg_sl (t.map (z_cv al))).length := by
      simp [lg_sl]
    rw [e, ih, z_cat_eq, List.map_cons, List.sum_cons]
    rcases v with x | y | r
    · rfl
    · rfl
    · rfl
/-! THE JUDGEMENT -/
def z_ri (v : Option z_V) : Instr := match v with
  | none => .return_
  | some (.inl _) => .ireturn
  | some (.inr (.inl _)) => .lreturn
  | some (.inr (.inr _)) => .areturn
def z_rc (ret : Option FieldType) (v : Option z_V) : Prop := match v with
  | none => ret = none
  | some (.inl x) => ret = some .int ∨ (ret = some .boolean ∧ (x = 0 ∨ x = 1))
  | some (.inr (.inl _)) => ret = some .long
  | some (.inr (.inr _)) => ∃ n, ret = some (.object n)
def z_C (M : z_M) (b0 : Nat) (G : z_G) (p : Program) (s : State) (m : MethodId) (args : Array Value) (meth : Method) (c : Code) : Prop :=
  p.tables.exec = Jvm.exec ∧ c.code = z_mc M ∧ c.maxLocals = z_mn M ∧ s.vm.findClass (z_my M).cls = some m.cls ∧ (∀ w ∈ z_WG, w.before args s = true) ∧ (∀ w ∈ z_WN, va_Nw w s) ∧ va_K G.1 vwCl (z_tys G) s ∧ b0 ≤ s.heap.size ∧ meth.name = (z_my M).name ∧ z_mE M s b0
def z_K (M : z_M) (b0 : Nat) (G : z_G) (p : Program) (l : Launch) (e : Env) (s : State) (m : MethodId) (args : Array Value) (below : List Frame) (meth : Method) (c : Code) (Q : z_Q) (Qm : State → Prop) : Prop :=
  ∀ (v : Option z_V) (E : z_E) (mi : z_Mi) (mr : z_Mr) (H : Heap) (locs : List Loc) (kc ks pc : Nat) (lsA : Array Slot), Q v E mi mr → E.1 = G → z_P E mi mr H → va_D (z_af b0) (z_W E mi mr) → va_S (z_af b0) s.heap H locs → z_rc (z_mr M) v → decode (z_mc M) pc = .ok (z_ri v, 1) → kc ≤ (z_mR M).cells → ks ≤ (z_mR M).slots →
    W p l e (z_mR M) s m args below meth c H locs kc ks Qm (F0 m pc lsA (v.toList.map (z_cv E.2.1)))
def z_A (M : z_M) (E : z_E) (kc ks pc : Nat) (ls : List (Option z_V)) (st : List z_V) (mi : z_Mi) (mr : z_Mr) (Q : z_Q) : Prop :=
  ∀ (b0 : Nat) (p : Program) (l : Launch) (e : Env) (s : State) (m : MethodId) (args : Array Value) (below : List Frame) (meth : Method) (c : Code) (H : Heap) (locs : List Loc) (lsA : Array Slot) (Qm : State → Prop),
    z_C M b0 E.1 p s m args meth c → z_P E mi mr H → va_D (z_af b0) (z_W E mi mr) → va_S (z_af b0) s.heap H locs → lv_has lsA (z_mn M) (z_L E.2.1 0 ls) → z_K M b0 E.1 p l e s m args below meth c Q Qm →
    W p l e (z_mR M) s m args below meth c H locs kc ks Qm (F0 m pc lsA (st.map (z_cv E.2.1)))
/-! contracts -/
def z_ws (M : z_M) : List Cond := Cond.code (z_my M) (z_mc M) (z_mn M) (z_mr M) :: z_WG
def z_pc (b0 : Nat) (E : z_E) (mi : z_Mi) (mr : z_Mr) (U : State) : Prop := b0 ≤ U.heap.size ∧ z_P E mi mr U.heap ∧ va_K E.1.1 vwCl (z_tys E.1) U ∧ (∀ w ∈ z_WN, va_Nw w U) ∧ va_D (z_af b0) (z_W E mi mr)
def z_qc (b0 : Nat) (G : z_G) (Q : z_Q) : Array Value → State → Outcome → State → Prop := fun _ st oc t =>
  (∃ (v : Option z_V) (E : z_E) (mi : z_Mi) (mr : z_Mr), E.1 = G ∧ oc = .returned (v.map (z_cv E.2.1)) ∧ Q v E mi mr ∧ z_P E mi mr t.heap ∧ va_D (z_af b0) (z_W E mi mr)) ∧ va_F (z_af b0) st t
def z_ct (M : z_M) (E : z_E) (as : List z_V) (mi : z_Mi) (mr : z_Mr) (Q : z_Q) : Prop :=
  ∀ (l : Launch) (b0 : Nat), Met l (z_my M) (z_ws M) (z_mR M) (va_Pc (as.map (z_cv E.2.1)) (z_pc b0 E mi mr)) (z_qc b0 E.1 Q) (z_mR M).cells (z_mR M).slots (z_af b0)
theorem z_Nw_same {w : Cond} (hw : w ∈ z_WN) {u U : State} (h : u.vm = U.vm) (hZ : va_Nw w u) : va_Nw w U := by
  have hn : z_nest w = true := (List.mem_filter.mp hw).2
  cases w <;> first | (simp [z_nest] at hn; done) | skip
  · exact va_Nw.same rfl h hZ
  · exact va_Nw.same rfl h hZ
  · rename_i ty
    cases ty <;> first | (simp [z_nest] at hn; done) | skip
    exact va_AO.moved (by rw [h]; exact Vm.Alike.refl _) hZ
theorem z_Nw_warm {w : Cond} (hw : w ∈ z_WN) {s U : State} (h : s.WarmedH U.vm) (hZ : va_Nw w s) : va_Nw w U := by
  have hn : z_nest w = true := (List.mem_filter.mp hw).2
  cases w <;> first | (simp [z_nest] at hn; done) | skip
  · exact va_Nw.warmM h hZ
  · exact va_Nw.warmF h hZ
  · rename_i ty
    cases ty <;> first | (simp [z_nest] at hn; done) | skip
    exact va_AO.moved h.alike hZ
end
section
theorem z_lay_0 : ∀ w ∈ u_ws RX0 TX0 3, w ∈ z_WG := by
  intro w hw
  obtain ⟨k, hk, rfl⟩ := List.mem_map.mp hw
  have hk := List.mem_range.mp hk
  match k, hk with
  | 0, _ => exact z_tab 42 (by decide +kernel) rfl
  | 1, _ => exact z_tab 44 (by decide +kernel) rfl
  | 2, _ => exact z_tab 46 (by decide +kernel) rfl
  | k + 3, hk => omega
theorem z_lay_1 : ∀ w ∈ u_ws RX1 TX1 13, w ∈ z_WG := by
  intro w hw
  obtain ⟨k, hk, rfl⟩ := List.mem_map.mp hw
  have hk := List.mem_range.mp hk
  match k, hk with
  | 0, _ => exact z_tab 136 (by decide +kernel) rfl
  | 1, _ => exact z_tab 138 (by decide +kernel) rfl
  | 2, _ => exact z_tab 140 (by decide +kernel) rfl
  | 3, _ => exact z_tab 142 (by decide +kernel) rfl
  | 4, _ => exact z_tab 144 (by decide +kernel) rfl
  | 5, _ => exact z_tab 146 (by decide +kernel) rfl
  | 6, _ => exact z_tab 148 (by decide +kernel) rfl
  | 7, _ => exact z_tab 150 (by decide +kernel) rfl
  | 8, _ => exact z_tab 152 (by decide +kernel) rfl
  | 9, _ => exact z_tab 154 (by decide +kernel) rfl
  | 10, _ => exact z_tab 156 (by decide +kernel) rfl
  | 11, _ => exact z_tab 158 (by decide +kernel) rfl
  | 12, _ => exact z_tab 160 (by decide +kernel) rfl
  | k + 13, hk => omega
theorem z_lay_2 : ∀ w ∈ u_ws RX2 TX2 3, w ∈ z_WG := by
  intro w hw
  obtain ⟨k, hk, rfl⟩ := List.mem_map.mp hw
  have hk := List.mem_range.mp hk
  match k, hk with
  | 0, _ => exact z_tab 68 (by decide +kernel) rfl
  | 1, _ => exact z_tab 70 (by decide +kernel) rfl
  | 2, _ => exact z_tab 72 (by decide +kernel) rfl
  | k + 3, hk => omega
theorem z_lay_3 : ∀ w ∈ u_ws RX3 TX3 9, w ∈ z_WG := by
  intro w hw
  obtain ⟨k, hk, rfl⟩ := List.mem_map.mp hw
  have hk := List.mem_range.mp hk
  match k, hk with
  | 0, _ => exact z_tab 96 (by decide +kernel) rfl
  | 1, _ => exact z_tab 98 (by decide +kernel) rfl
  | 2, _ => exact z_tab 100 (by decide +kernel) rfl
  | 3, _ => exact z_tab 102 (by decide +kernel) rfl
  | 4, _ => exact z_tab 104 (by decide +kernel) rfl
  | 5, _ => exact z_tab 106 (by decide +kernel) rfl
  | 6, _ => exact z_tab 108 (by decide +kernel) rfl
  | 7, _ => exact z_tab 110 (by decide +kernel) rfl
  | 8, _ => exact z_tab 112 (by decide +kernel) rfl
  | k + 9, hk => omega
theorem z_lay_4 : ∀ w ∈ u_ws RX4 TX4 5, w ∈ z_WG := by
  intro w hw
  obtain ⟨k, hk, rfl⟩ := List.mem_map.mp hw
  have hk := List.mem_range.mp hk
  match k, hk with
  | 0, _ => exact z_tab 168 (by decide +kernel) rfl
  | 1, _ => exact z_tab 170 (by decide +kernel) rfl
  | 2, _ => exact z_tab 172 (by decide +kernel) rfl
  | 3, _ => exact z_tab 174 (by decide +kernel) rfl
  | 4, _ => exact z_tab 176 (by decide +kernel) rfl
  | k + 5, hk => omega
theorem z_lay_5 : ∀ w ∈ u_ws RX5 TX5 13, w ∈ z_WG := by
  intro w hw
  obtain ⟨k, hk, rfl⟩ := List.mem_map.mp hw
  have hk := List.mem_range.mp hk
  match k, hk with
  | 0, _ => exact z_tab 621 (by decide +kernel) rfl
  | 1, _ => exact z_tab 623 (by decide +kernel) rfl
  | 2, _ => exact z_tab 625 (by decide +kernel) rfl
  | 3, _ => exact z_tab 627 (by decide +kernel) rfl
  | 4, _ => exact z_tab 629 (by decide +kernel) rfl
  | 5, _ => exact z_tab 631 (by decide +kernel) rfl
  | 6, _ => exact z_tab 633 (by decide +kernel) rfl
  | 7, _ => exact z_tab 635 (by decide +kernel) rfl
  | 8, _ => exact z_tab 637 (by decide +kernel) rfl
  | 9, _ => exact z_tab 639 (by decide +kernel) rfl
  | 10, _ => exact z_tab 641 (by decide +kernel) rfl
  | 11, _ => exact z_tab 643 (by decide +kernel) rfl
  | 12, _ => exact z_tab 645 (by decide +kernel) rfl
  | k + 13, hk => omega
theorem z_cl {ci N : Nat} {C : String} {T : u_T} (h : vwCl[ci]? = some (C, T, N)) : ci < 6 ∧ N = z_NF ci ∧ (∀ k, k < N → parseFieldDescriptor (T k).2.2.1 = some (z_ty ci k)) ∧ (∀ a, a < N → ∀ b, b < N → a ≠ b → (T a).2.1 ≠ (T b).2.1) ∧ (∀ w ∈ u_ws C T N, w ∈ z_WG) := by
  match ci, h with
  | 0, h => cases h; exact ⟨by decide, rfl, tyX0_ok, nmX0, z_lay_0⟩
  | 1, h => cases h; exact ⟨by decide, rfl, tyX1_ok, nmX1, z_lay_1⟩
  | 2, h => cases h; exact ⟨by decide, rfl, tyX2_ok, nmX2, z_lay_2⟩
  | 3, h => cases h; exact ⟨by decide, rfl, tyX3_ok, nmX3, z_lay_3⟩
  | 4, h => cases h; exact ⟨by decide, rfl, tyX4_ok, nmX4, z_lay_4⟩
  | 5, h => cases h; exact ⟨by decide, rfl, tyX5_ok, nmX5, z_lay_5⟩
  | n + 6, h => simp [vwCl] at h
end
section
/-! from the body to the contract -/
theorem z_qc_K {E : z_E} {U V : State} (h : va_K E.1.1 vwCl (z_tys E.1) U) (hv : U.vm.Alike V.vm) : va_K E.1.1 vwCl (z_tys E.1) V := va_K.moved hv h
theorem z_ct_of {M : z_M} {E : z_E} {as : List z_V} {ls : List (Option z_V)} {mi : z_Mi} {mr : z_Mr} {Q : z_Q} (hy : plainName (z_my M).cls = true) (hE : ∀ s b0, z_mE M s b0) (hn : (as.map z_cat).sum ≤ z_mn M) (hls : z_en as ++ List.replicate (z_mn M - (as.map z_cat).sum) none = ls)
    (h : z_A M E 0 0 0 ls [] mi mr Q) : z_ct M E as mi mr Q := by
  intro l b0
  refine Met.ofW (cc := z_mc M) (maxL := z_mn M) (ret := z_mr M) hy rfl ?_
  intro p e s m args below meth c s₁ B hml hv
  obtain ⟨rfl, hb0, hP, hK, hN, hD⟩ := hv
  have hx := B.exec
  have hb := B.bytes
  have hr := B.returns
  have hts := atoms_spec (ws := z_ws M) B.pre
  have hown : s.vm.findClass (z_my M).cls = some m.cls := findClass_of_methodNamed B.named
  have hlocks := B.notSynchronized
  have hin : meth.name = (z_my M).name := (name_of_methodNamed B.named B.method).1
  have hl := lv_entry (as.map (z_cv E.2.1)) (n := z_mn M) (by rw [z_sl_len]; exact hn)
  rw [lg_entry_eq]
  generalize (lg_sl (as.map (z_cv E.2.1)) ++ List.replicate (z_mn M - (lg_sl (as.map (z_cv E.2.1))).length) Slot.unset).toArray = lsA at hl ⊢
  have hl' : lv_has lsA (z_mn M) (z_L E.2.1 0 ls) := by rw [← hls, z_L_en]; exact hl
  refine h b0 p l e s m _ below meth c s.heap [] lsA _ ⟨hx, hb, hml, hown, fun w hw => hts w (List.mem_cons_of_mem _ hw), hN, hK, hb0, hin, hE s b0⟩ hP hD va_S.rf hl' ?_
  intro v E' mi' mr' H' locs' kc' ks' pc' lsA' hQ hG hP' hD' hS' hc hd h1 h2
  refine W.widen h1 h2 ?_
  have hq : ∀ (o : Option Value) (t : State), o = v.map (z_cv E'.2.1) → t.heap = H' → z_qc b0 E.1 Q (as.map (z_cv E.2.1)).toArray s (.returned o) t := fun o t ho ht => ⟨⟨v, E', mi', mr', hG, by rw [ho], hQ, by rw [ht]; exact hP', hD'⟩, hS'.F ht⟩
  cases v with
  | none => exact W.vret hx hb (hr.trans hc) (fun t ht _ => hq none t rfl ht) hS'.2.2 hd
  | some v =>
    rcases v with x | y | r
    · rcases hc with hc | ⟨hc, h0⟩
      · exact W.iret hx hb (hr.trans hc) (fun t ht _ => hq _ t rfl ht) hS'.2.2 hd
      · refine W.zret hx hb (hr.trans hc) ?_ (fun t ht _ => hq _ t rfl ht) hS'.2.2 hd
        rcases h0 with rfl | rfl <;> decide +kernel
    · exact W.lret hx hb (hr.trans hc) (fun t ht _ => hq _ t rfl ht) hS'.2.2 hd
    · obtain ⟨n, hc⟩ := hc
      refine W.aret hx hb (hr.trans hc) (Or.inl ⟨n, rfl⟩) ?_ (fun t ht _ => hq _ t rfl ht) hS'.2.2 hd
      cases r with
      | none => exact Or.inl rfl
      | some r => exact Or.inr ⟨_, rfl⟩
section ZROWS
variable {M : z_M} {E : z_E} {kc ks pc n tgt : Nat} {off : Int} {ls : List (Option z_V)} {st : List z_V} {mi : z_Mi} {mr : z_Mr} {Q : z_Q}
theorem z_iconst {x : Int} (hd : z_D 1 M pc n (.iconst x)) (k : z_A M E kc ks n ls (zi x :: st) mi mr Q) : z_A M E kc ks pc ls st mi mr Q := by
  intro b0 p l e s m args below meth c H locs lsA Qm hC hP hD hS hL hK
  obtain ⟨hd, rfl⟩ := hd
  exact lv_iconst hC.1 hC.2.1 hd rfl (k b0 p l e s m args below meth c H locs lsA Qm hC hP hD hS hL hK)
theorem z_bipush {x : Int} (hd : z_D 2 M pc n (.bipush x)) (hx : (Int8.ofInt x).toInt32 = z_I x) (k : z_A M E kc ks n ls (zi x :: st) mi mr Q) : z_A M E kc ks pc ls st mi mr Q := by
  intro b0 p l e s m args below meth c H locs lsA Qm hC hP hD hS hL hK
  obtain ⟨hd, rfl⟩ := hd
  exact lv_bipush hC.1 hC.2.1 hd hx (k b0 p l e s m args below meth c H locs lsA Qm hC hP hD hS hL hK)
theorem z_sipush {x : Int} (hd : z_D 3 M pc n (.sipush x)) (hx : (Int16.ofInt x).toInt32 = z_I x) (k : z_A M E kc ks n ls (zi x :: st) mi mr Q) : z_A M E kc ks pc ls st mi mr Q := by
  intro b0 p l e s m args below meth c H locs lsA Qm hC hP hD hS hL hK
  obtain ⟨hd, rfl⟩ := hd
  exact lv_sipush hC.1 hC.2.1 hd hx (k b0 p l e s m args below meth c H locs lsA Qm hC hP hD hS hL hK)
theorem z_ldc2 {idx : Nat} {x : Int64} (hd : z_D 3 M pc n (.ldc2_w idx)) (hw : Cond.constantLong (z_my M).cls idx x ∈ z_WG) (k : z_A M E kc ks n ls (zl x :: st) mi mr Q) : z_A M E kc ks pc ls st mi mr Q := by
  intro b0 p l e s m args below meth c H locs lsA Qm hC hP hD hS hL hK
  obtain ⟨hd, rfl⟩ := hd
  exact lv_ldc2 hC.1 hC.2.1 hC.2.2.2.1 (hC.2.2.2.2.1 _ hw) hd (k b0 p l e s m args below meth c H locs lsA Qm hC hP hD hS hL hK)
theorem z_iload_n {i : Fin 4} {x : Int} (hd : z_D 1 M pc n (.iload_n i)) (hl : ls[(i : Nat)]? = some (some (zi x))) (k : z_A M E kc ks n ls (zi x :: st) mi mr Q) : z_A M E kc ks pc ls st mi mr Q := by
  intro b0 p l e s m args below meth c H locs lsA Qm hC hP hD hS hL hK
  obtain ⟨hd, rfl⟩ := hd
  exact lv_iload_n hC.1 hC.2.1 hd rfl (z_L_at hL hl) (k b0 p l e s m args below meth c H locs lsA Qm hC hP hD hS hL hK)
theorem z_iload {i : Nat} {x : Int} (hd : z_D 2 M pc n (.iload i)) (hl : ls[i]? = some (some (zi x))) (k : z_A M E kc ks n ls (zi x :: st) mi mr Q) : z_A M E kc ks pc ls st mi mr Q := by
  intro b0 p l e s m args below meth c H locs lsA Qm hC hP hD hS hL hK
  obtain ⟨hd, rfl⟩ := hd
  exact lv_iload hC.1 hC.2.1 hd (z_L_at hL hl) (k b0 p l e s m args below meth c H locs lsA Qm hC hP hD hS hL hK)
theorem z_lload_n {i : Fin 4} {x : Int64} (hd : z_D 1 M pc n (.lload_n i)) (hl : ls[(i : Nat)]? = some (some (zl x))) (k : z_A M E kc ks n ls (zl x :: st) mi mr Q) : z_A M E kc ks pc ls st mi mr Q := by
  intro b0 p l e s m args below meth c H locs lsA Qm hC hP hD hS hL hK
  obtain ⟨hd, rfl⟩ := hd
  exact lv_lload_n hC.1 hC.2.1 hd rfl (z_L_at hL hl) (k b0 p l e s m args below meth c H locs lsA Qm hC hP hD hS hL hK)
theorem z_aload_n {i : Fin 4} {a : Nat} (hd : z_D 1 M pc n (.aload_n i)) (hl : ls[(i : Nat)]? = some (some (zo a))) (k : z_A M E kc ks n ls (zo a :: st) mi mr Q) : z_A M E kc ks pc ls st mi mr Q := by
  intro b0 p l e s m args below meth c H locs lsA Qm hC hP hD hS hL hK
  obtain ⟨hd, rfl⟩ := hd
  exact lv_aload_n hC.1 hC.2.1 hd rfl (z_L_at hL hl) (k b0 p l e s m args below meth c H locs lsA Qm hC hP hD hS hL hK)
theorem z_aload {i a : Nat} (hd : z_D 2 M pc n (.aload i)) (hl : ls[i]? = some (some (zo a))) (k : z_A M E kc ks n ls (zo a :: st) mi mr Q) : z_A M E kc ks pc ls st mi mr Q := by
  intro b0 p l e s m args below meth c H locs lsA Qm hC hP hD hS hL hK
  obtain ⟨hd, rfl⟩ := hd
  exact lv_aload hC.1 hC.2.1 hd (z_L_at hL hl) (k b0 p l e s m args below meth c H locs lsA Qm hC hP hD hS hL hK)
theorem z_istore_n {i : Fin 4} {x : Int} {ls' : List (Option z_V)} (hd : z_D 1 M pc n (.istore_n i)) (hi : Nat.ble ((i : Nat) + 1) (z_mn M) = true) (ho : z_ok ls (i : Nat) = true) (he : ls.set (i : Nat) (some (zi x)) = ls') (k : z_A M E kc ks n ls' st mi mr Q) : z_A M E kc ks pc ls (zi x :: st) mi mr Q := by
  intro b0 p l e s m args below meth c H locs lsA Qm hC hP hD hS hL hK
  obtain ⟨hd, rfl⟩ := hd
  subst he
  exact lv_istore_n hC.1 hC.2.1 hd rfl hL (Nat.le_of_ble_eq_true hi) rfl (fun lsB hB => k b0 p l e s m args below meth c H locs lsB Qm hC hP hD hS (z_L_sub hB (z_L_st1 ho)) hK)
theorem z_istore {i : Nat} {x : Int} {ls' : List (Option z_V)} (hd : z_D 2 M pc n (.istore i)) (hi : Nat.ble (i + 1) (z_mn M) = true) (ho : z_ok ls i = true) (he : ls.set i (some (zi x)) = ls') (k : z_A M E kc ks n ls' st mi mr Q) : z_A M E kc ks pc ls (zi x :: st) mi mr Q := by
  intro b0 p l e s m args below meth c H locs lsA Qm hC hP hD hS hL hK
  obtain ⟨hd, rfl⟩ := hd
  subst he
  exact lv_istore hC.1 hC.2.1 hd hL (Nat.le_of_ble_eq_true hi) rfl (fun lsB hB => k b0 p l e s m args below meth c H locs lsB Qm hC hP hD hS (z_L_sub hB (z_L_st1 ho)) hK)
theorem z_astore_n {i : Fin 4} {a : Nat} {ls' : List (Option z_V)} (hd : z_D 1 M pc n (.astore_n i)) (hi : Nat.ble ((i : Nat) + 1) (z_mn M) = true) (ho : z_ok ls (i : Nat) = true) (he : ls.set (i : Nat) (some (zo a)) = ls') (k : z_A M E kc ks n ls' st mi mr Q) : z_A M E kc ks pc ls (zo a :: st) mi mr Q := by
  intro b0 p l e s m args below meth c H locs lsA Qm hC hP hD hS hL hK
  obtain ⟨hd, rfl⟩ := hd
  subst he
  exact lv_astore_n hC.1 hC.2.1 hd rfl hL (Nat.le_of_ble_eq_true hi) rfl (fun lsB hB => k b0 p l e s m args below meth c H locs lsB Qm hC hP hD hS (z_L_sub hB (z_L_st1 (v := zo a) ho)) hK)
theorem z_astore {i a : Nat} {ls' : List (Option z_V)} (hd : z_D 2 M pc n (.astore i)) (hi : Nat.ble (i + 1) (z_mn M) = true) (ho : z_ok ls i = true) (he : ls.set i (some (zo a)) = ls') (k : z_A M E kc ks n ls' st mi mr Q) : z_A M E kc ks pc ls (zo a :: st) mi mr Q := by
  intro b0 p l e s m args below meth c H locs lsA Qm hC hP hD hS hL hK
  obtain ⟨hd, rfl⟩ := hd
  subst he
  exact lv_astore hC.1 hC.2.1 hd hL (Nat.le_of_ble_eq_true hi) rfl (fun lsB hB => k b0 p l e s m args below meth c H locs lsB Qm hC hP hD hS (z_L_sub hB (z_L_st1 (v := zo a) ho)) hK)
theorem z_lstore_n {i : Fin 4} {x : Int64} {ls' : List (Option z_V)} (hd : z_D 1 M pc n (.lstore_n i)) (hi : Nat.ble ((i : Nat) + 2) (z_mn M) = true) (ho : z_ok ls (i : Nat) = true) (he : (ls.set (i : Nat) (some (zl x))).set ((i : Nat) + 1) none = ls') (k : z_A M E kc ks n ls' st mi mr Q) : z_A M E kc ks pc ls (zl x :: st) mi mr Q := by
  intro b0 p l e s m args below meth c H locs lsA Qm hC hP hD hS hL hK
  obtain ⟨hd, rfl⟩ := hd
  subst he
  exact lv_lstore_n hC.1 hC.2.1 hd rfl hL (Nat.le_of_ble_eq_true hi) rfl (fun lsB hB => k b0 p l e s m args below meth c H locs lsB Qm hC hP hD hS (z_L_sub hB (z_L_st2 (v := zl x) ho)) hK)
theorem z_iinc {i : Nat} {d x y : Int} {ls' : List (Option z_V)} (hd : z_D 3 M pc n (.iinc i d)) (hl : ls[i]? = some (some (zi x))) (hi : Nat.ble (i + 1) (z_mn M) = true) (ho : z_ok ls i = true) (hy : x + d = y) (he : ls.set i (some (zi y)) = ls') (k : z_A M E kc ks n ls' st mi mr Q) : z_A M E kc ks pc ls st mi mr Q := by
  intro b0 p l e s m args below meth c H locs lsA Qm hC hP hD hS hL hK
  obtain ⟨hd, rfl⟩ := hd
  subst he
  subst hy
  obtain ⟨j, hj⟩ := List.getElem?_of_mem ((z_L_mem E.2.1 ls 0 (i, z_cv E.2.1 (zi x))).mpr ⟨i, zi x, hl, by simp⟩)
  exact lv_iinc (v := z_I (x + d)) hC.1 hC.2.1 hd hL hj (z_I_add x d) (Nat.le_of_ble_eq_true hi) rfl (fun lsB hB => k b0 p l e s m args below meth c H locs lsB Qm hC hP hD hS (z_L_sub hB (z_L_st1 (v := zi (x + d)) ho)) hK)
theorem z_iadd {a b : Int} (hd : z_D 1 M pc n .iadd) (k : z_A M E kc ks n ls (zi (a + b) :: st) mi mr Q) : z_A M E kc ks pc ls (zi b :: zi a :: st) mi mr Q := by
  intro b0 p l e s m args below meth c H locs lsA Qm hC hP hD hS hL hK
  obtain ⟨hd, rfl⟩ := hd
  have k1 := k b0 p l e s m args below meth c H locs lsA Qm hC hP hD hS hL hK
  refine lv_iadd hC.1 hC.2.1 hd ?_
  rw [z_I_add]; exact k1
theorem z_isub {a b : Int} (hd : z_D 1 M pc n .isub) (k : z_A M E kc ks n ls (zi (a - b) :: st) mi mr Q) : z_A M E kc ks pc ls (zi b :: zi a :: st) mi mr Q := by
  intro b0 p l e s m args below meth c H locs lsA Qm hC hP hD hS hL hK
  obtain ⟨hd, rfl⟩ := hd
  have k1 := k b0 p l e s m args below meth c H locs lsA Qm hC hP hD hS hL hK
  refine lv_isub hC.1 hC.2.1 hd ?_
  rw [z_I_sub]; exact k1
theorem z_imul {a b : Int} (hd : z_D 1 M pc n .imul) (k : z_A M E kc ks n ls (zi (a * b) :: st) mi mr Q) : z_A M E kc ks pc ls (zi b :: zi a :: st) mi mr Q := by
  intro b0 p l e s m args below meth c H locs lsA Qm hC hP hD hS hL hK
  obtain ⟨hd, rfl⟩ := hd
  have k1 := k b0 p l e s m args below meth c H locs lsA Qm hC hP hD hS hL hK
  refine lv_imul hC.1 hC.2.1 hd ?_
  rw [z_I_mul]; exact k1
theorem z_idiv {a b : Int} (hd : z_D 1 M pc n .idiv) (ha : 0 ≤ a) (hb : 0 < b) (h1 : z_R a) (h2 : z_R b) (k : z_A M E kc ks n ls (zi (a / b) :: st) mi mr Q) : z_A M E kc ks pc ls (zi b :: zi a :: st) mi mr Q := by
  intro b0 p l e s m args below meth c H locs lsA Qm hC hP hD hS hL hK
  obtain ⟨hd, rfl⟩ := hd
  have k1 := k b0 p l e s m args below meth c H locs lsA Qm hC hP hD hS hL hK
  refine lv_idiv hC.1 hC.2.1 hd (fun h => ?_) ?_
  · have := congrArg Int32.toInt h
    rw [z_I_toInt h2, Int32.toInt_zero] at this
    omega
  · rw [z_I_div ha hb h1 h2]; exact k1
theorem z_irem {a b : Int} (hd : z_D 1 M pc n .irem) (ha : 0 ≤ a) (hb : 0 < b) (h1 : z_R a) (h2 : z_R b) (k : z_A M E kc ks n ls (zi (a % b) :: st) mi mr Q) : z_A M E kc ks pc ls (zi b :: zi a :: st) mi mr Q := by
  intro b0 p l e s m args below meth c H locs lsA Qm hC hP hD hS hL hK
  obtain ⟨hd, rfl⟩ := hd
  have k1 := k b0 p l e s m args below meth c H locs lsA Qm hC hP hD hS hL hK
  refine lv_irem hC.1 hC.2.1 hd (fun h => ?_) ?_
  · have := congrArg Int32.toInt h
    rw [z_I_toInt h2, Int32.toInt_zero] at this
    omega
  · rw [z_I_rem ha hb h1 h2]; exact k1
theorem z_ineg {a : Int} (hd : z_D 1 M pc n .ineg) (k : z_A M E kc ks n ls (zi (-a) :: st) mi mr Q) : z_A M E kc ks pc ls (zi a :: st) mi mr Q := by
  intro b0 p l e s m args below meth c H locs lsA Qm hC hP hD hS hL hK
  obtain ⟨hd, rfl⟩ := hd
  have k1 := k b0 p l e s m args below meth c H locs lsA Qm hC hP hD hS hL hK
  refine lv_ineg hC.1 hC.2.1 hd ?_
  rw [z_I_neg]; exact k1
theorem z_iand31 {a : Int} (hd : z_D 1 M pc n .iand) (k : ∀ j : Int, 0 ≤ j → j < 32 → z_A M E kc ks n ls (zi j :: st) mi mr Q) : z_A M E kc ks pc ls (zi 31 :: zi a :: st) mi mr Q := by
  intro b0 p l e s m args below meth c H locs lsA Qm hC hP hD hS hL hK
  obtain ⟨hd, rfl⟩ := hd
  refine lv_iand hC.1 hC.2.1 hd ?_
  obtain ⟨j, hj, he⟩ := pk_andE (z_I a) (m := z_I 31) 5 (by decide +kernel)
  rw [he, ← z_I_nat]
  exact k (j : Int) (by omega) (by omega) b0 p l e s m args below meth c H locs lsA Qm hC hP hD hS hL hK
theorem z_i2l {a : Int} (hd : z_D 1 M pc n .i2l) (k : z_A M E kc ks n ls (zl (z_I a).toInt64 :: st) mi mr Q) : z_A M E kc ks pc ls (zi a :: st) mi mr Q := by
  intro b0 p l e s m args below meth c H locs lsA Qm hC hP hD hS hL hK
  obtain ⟨hd, rfl⟩ := hd
  exact lv_i2l hC.1 hC.2.1 hd rfl (k b0 p l e s m args below meth c H locs lsA Qm hC hP hD hS hL hK)
theorem z_ladd {a b : Int64} (hd : z_D 1 M pc n .ladd) (k : z_A M E kc ks n ls (zl (a + b) :: st) mi mr Q) : z_A M E kc ks pc ls (zl b :: zl a :: st) mi mr Q := by
  intro b0 p l e s m args below meth c H locs lsA Qm hC hP hD hS hL hK
  obtain ⟨hd, rfl⟩ := hd
  exact lv_ladd hC.1 hC.2.1 hd (k b0 p l e s m args below meth c H locs lsA Qm hC hP hD hS hL hK)
theorem z_lmul {a b : Int64} (hd : z_D 1 M pc n .lmul) (k : z_A M E kc ks n ls (zl (a * b) :: st) mi mr Q) : z_A M E kc ks pc ls (zl b :: zl a :: st) mi mr Q := by
  intro b0 p l e s m args below meth c H locs lsA Qm hC hP hD hS hL hK
  obtain ⟨hd, rfl⟩ := hd
  exact lv_lmul hC.1 hC.2.1 hd (k b0 p l e s m args below meth c H locs lsA Qm hC hP hD hS hL hK)
/-- two longs that are the same -/
theorem z_lcmpE {a : Int64} (hd : z_D 1 M pc n .lcmp) (k : z_A M E kc ks n ls (zi 0 :: st) mi mr Q) : z_A M E kc ks pc ls (zl a :: zl a :: st) mi mr Q := by
  intro b0 p l e s m args below meth c H locs lsA Qm hC hP hD hS hL hK
  obtain ⟨hd, rfl⟩ := hd
  have k1 := k b0 p l e s m args below meth c H locs lsA Qm hC hP hD hS hL hK
  refine W.lcmp hC.1 hC.2.1 hd ?_
  have e : lg_cmp a a = z_I 0 := by
    rw [z_I_0]; simp [lg_cmp]
  rw [e]; exact k1
theorem z_dup {v : z_V} (hd : z_D 1 M pc n .dup) (hv : z_cat v = 1) (k : z_A M E kc ks n ls (v :: v :: st) mi mr Q) : z_A M E kc ks pc ls (v :: st) mi mr Q := by
  intro b0 p l e s m args below meth c H locs lsA Qm hC hP hD hS hL hK
  obtain ⟨hd, rfl⟩ := hd
  exact lv_dup hC.1 hC.2.1 hd ((z_cat_eq _ _).trans hv) (k b0 p l e s m args below meth c H locs lsA Qm hC hP hD hS hL hK)
theorem z_pop {v : z_V} (hd : z_D 1 M pc n .pop) (hv : z_cat v = 1) (k : z_A M E kc ks n ls st mi mr Q) : z_A M E kc ks pc ls (v :: st) mi mr Q := by
  intro b0 p l e s m args below meth c H locs lsA Qm hC hP hD hS hL hK
  obtain ⟨hd, rfl⟩ := hd
  exact lv_pop hC.1 hC.2.1 hd ((z_cat_eq _ _).trans hv) (k b0 p l e s m args below meth c H locs lsA Qm hC hP hD hS hL hK)
theorem z_dup2 {v w : z_V} (hd : z_D 1 M pc n .dup2) (hv : z_cat v = 1) (hw : z_cat w = 1) (k : z_A M E kc ks n ls (v :: w :: v :: w :: st) mi mr Q) : z_A M E kc ks pc ls (v :: w :: st) mi mr Q := by
  intro b0 p l e s m args below meth c H locs lsA Qm hC hP hD hS hL hK
  obtain ⟨hd, rfl⟩ := hd
  exact lv_dup2_11 hC.1 hC.2.1 hd ((z_cat_eq _ _).trans hv) ((z_cat_eq _ _).trans hw) (k b0 p l e s m args below meth c H locs lsA Qm hC hP hD hS hL hK)
theorem z_null (hd : z_D 1 M pc n .aconst_null) (k : z_A M E kc ks n ls (zr none :: st) mi mr Q) : z_A M E kc ks pc ls st mi mr Q := by
  intro b0 p l e s m args below meth c H locs lsA Qm hC hP hD hS hL hK
  obtain ⟨hd, rfl⟩ := hd
  exact lv_null hC.1 hC.2.1 hd (k b0 p l e s m args below meth c H locs lsA Qm hC hP hD hS hL hK)
theorem z_goto (hd : z_J M pc n tgt off (.goto off)) (k : z_A M E kc ks tgt ls st mi mr Q) : z_A M E kc ks pc ls st mi mr Q := by
  intro b0 p l e s m args below meth c H locs lsA Qm hC hP hD hS hL hK
  obtain ⟨hd, rfl, ht⟩ := hd
  exact lv_goto hC.1 hC.2.1 hd ht (k b0 p l e s m args below meth c H locs lsA Qm hC hP hD hS hL hK)
theorem z_ifnonnull {a : Nat} (hd : z_J M pc n tgt off (.ifnonnull off)) (k : z_A M E kc ks tgt ls st mi mr Q) : z_A M E kc ks pc ls (zo a :: st) mi mr Q := by
  intro b0 p l e s m args below meth c H locs lsA Qm hC hP hD hS hL hK
  obtain ⟨hd, rfl, ht⟩ := hd
  exact lv_ifnonnull hC.1 hC.2.1 hd ht (k b0 p l e s m args below meth c H locs lsA Qm hC hP hD hS hL hK)
theorem z_if_eq {a : Int} (hd : z_J M pc n tgt off (.ifCond .eq off)) (ha : z_R a) (kt : a = 0 → z_A M E kc ks tgt ls st mi mr Q) (kf : ¬ a = 0 → z_A M E kc ks n ls st mi mr Q) : z_A M E kc ks pc ls (zi a :: st) mi mr Q := by
  intro b0 p l e s m args below meth c H locs lsA Qm hC hP hD hS hL hK
  obtain ⟨hd, rfl, ht⟩ := hd
  have h0 := z_I_0
  have T := fun h => kt h b0 p l e s m args below meth c H locs lsA Qm hC hP hD hS hL hK
  have F := fun h => kf h b0 p l e s m args below meth c H locs lsA Qm hC hP hD hS hL hK
  have hi := z_I_eq ha z_R0
  rw [h0] at hi
  exact lv_if_eq hC.1 hC.2.1 hd ht (fun h => T (hi.mp h)) (fun h => F (fun q => h (hi.mpr q)))
theorem z_icmp_eq {a b : Int} (hd : z_J M pc n tgt off (.if_icmp .eq off)) (ha : z_R a) (hb : z_R b) (kt : a = b → z_A M E kc ks tgt ls st mi mr Q) (kf : ¬ a = b → z_A M E kc ks n ls st mi mr Q) : z_A M E kc ks pc ls (zi b :: zi a :: st) mi mr Q := by
  intro b0 p l e s m args below meth c H locs lsA Qm hC hP hD hS hL hK
  obtain ⟨hd, rfl, ht⟩ := hd
  have T := fun h => kt h b0 p l e s m args below meth c H locs lsA Qm hC hP hD hS hL hK
  have F := fun h => kf h b0 p l e s m args below meth c H locs lsA Qm hC hP hD hS hL hK
  have hi := z_I_eq ha hb
  exact lv_icmp_eq hC.1 hC.2.1 hd ht (fun h => T (hi.mp h)) (fun h => F (fun q => h (hi.mpr q)))
theorem z_if_ne {a : Int} (hd : z_J M pc n tgt off (.ifCond .ne off)) (ha : z_R a) (kt : ¬ a = 0 → z_A M E kc ks tgt ls st mi mr Q) (kf : a = 0 → z_A M E kc ks n ls st mi mr Q) : z_A M E kc ks pc ls (zi a :: st) mi mr Q := by
  intro b0 p l e s m args below meth c H locs lsA Qm hC hP hD hS hL hK
  obtain ⟨hd, rfl, ht⟩ := hd
  have h0 := z_I_0
  have T := fun h => kt h b0 p l e s m args below meth c H locs lsA Qm hC hP hD hS hL hK
  have F := fun h => kf h b0 p l e s m args below meth c H locs lsA Qm hC hP hD hS hL hK
  have hi := z_I_eq ha z_R0
  rw [h0] at hi
  exact lv_if_ne hC.1 hC.2.1 hd ht (fun h => T (fun q => h (hi.mpr q))) (fun h => F (hi.mp h))
theorem z_icmp_ne {a b : Int} (hd : z_J M pc n tgt off (.if_icmp .ne off)) (ha : z_R a) (hb : z_R b) (kt : ¬ a = b → z_A M E kc ks tgt ls st mi mr Q) (kf : a = b → z_A M E kc ks n ls st mi mr Q) : z_A M E kc ks pc ls (zi b :: zi a :: st) mi mr Q := by
  intro b0 p l e s m args below meth c H locs lsA Qm hC hP hD hS hL hK
  obtain ⟨hd, rfl, ht⟩ := hd
  have T := fun h => kt h b0 p l e s m args below meth c H locs lsA Qm hC hP hD hS hL hK
  have F := fun h => kf h b0 p l e s m args below meth c H locs lsA Qm hC hP hD hS hL hK
  have hi := z_I_eq ha hb
  exact lv_icmp_ne hC.1 hC.2.1 hd ht (fun h => T (fun q => h (hi.mpr q))) (fun h => F (hi.mp h))
theorem z_if_lt {a : Int} (hd : z_J M pc n tgt off (.ifCond .lt off)) (ha : z_R a) (kt : a < 0 → z_A M E kc ks tgt ls st mi mr Q) (kf : ¬ a < 0 → z_A M E kc ks n ls st mi mr Q) : z_A M E kc ks pc ls (zi a :: st) mi mr Q := by
  intro b0 p l e s m args below meth c H locs lsA Qm hC hP hD hS hL hK
  obtain ⟨hd, rfl, ht⟩ := hd
  have h0 := z_I_0
  have T := fun h => kt h b0 p l e s m args below meth c H locs lsA Qm hC hP hD hS hL hK
  have F := fun h => kf h b0 p l e s m args below meth c H locs lsA Qm hC hP hD hS hL hK
  have hi := z_I_lt ha z_R0
  rw [h0] at hi
  exact lv_if_lt hC.1 hC.2.1 hd ht (fun h => T (hi.mp h)) (fun h => F (fun q => h (hi.mpr q)))
theorem z_icmp_lt {a b : Int} (hd : z_J M pc n tgt off (.if_icmp .lt off)) (ha : z_R a) (hb : z_R b) (kt : a < b → z_A M E kc ks tgt ls st mi mr Q) (kf : ¬ a < b → z_A M E kc ks n ls st mi mr Q) : z_A M E kc ks pc ls (zi b :: zi a :: st) mi mr Q := by
  intro b0 p l e s m args below meth c H locs lsA Qm hC hP hD hS hL hK
  obtain ⟨hd, rfl, ht⟩ := hd
  have T := fun h => kt h b0 p l e s m args below meth c H locs lsA Qm hC hP hD hS hL hK
  have F := fun h => kf h b0 p l e s m args below meth c H locs lsA Qm hC hP hD hS hL hK
  have hi := z_I_lt ha hb
  exact lv_icmp_lt hC.1 hC.2.1 hd ht (fun h => T (hi.mp h)) (fun h => F (fun q => h (hi.mpr q)))
theorem z_if_ge {a : Int} (hd : z_J M pc n tgt off (.ifCond .ge off)) (ha : z_R a) (kt : 0 ≤ a → z_A M E kc ks tgt ls st mi mr Q) (kf : ¬ 0 ≤ a → z_A M E kc ks n ls st mi mr Q) : z_A M E kc ks pc ls (zi a :: st) mi mr Q := by
  intro b0 p l e s m args below meth c H locs lsA Qm hC hP hD hS hL hK
  obtain ⟨hd, rfl, ht⟩ := hd
  have h0 := z_I_0
  have T := fun h => kt h b0 p l e s m args below meth c H locs lsA Qm hC hP hD hS hL hK
  have F := fun h => kf h b0 p l e s m args below meth c H locs lsA Qm hC hP hD hS hL hK
  have hi := z_I_le z_R0 ha
  rw [h0] at hi
  exact lv_if_ge hC.1 hC.2.1 hd ht (fun h => T (hi.mp h)) (fun h => F (fun q => h (hi.mpr q)))
theorem z_icmp_ge {a b : Int} (hd : z_J M pc n tgt off (.if_icmp .ge off)) (ha : z_R a) (hb : z_R b) (kt : b ≤ a → z_A M E kc ks tgt ls st mi mr Q) (kf : ¬ b ≤ a → z_A M E kc ks n ls st mi mr Q) : z_A M E kc ks pc ls (zi b :: zi a :: st) mi mr Q := by
  intro b0 p l e s m args below meth c H locs lsA Qm hC hP hD hS hL hK
  obtain ⟨hd, rfl, ht⟩ := hd
  have T := fun h => kt h b0 p l e s m args below meth c H locs lsA Qm hC hP hD hS hL hK
  have F := fun h => kf h b0 p l e s m args below meth c H locs lsA Qm hC hP hD hS hL hK
  have hi := z_I_le hb ha
  exact lv_icmp_ge hC.1 hC.2.1 hd ht (fun h => T (hi.mp h)) (fun h => F (fun q => h (hi.mpr q)))
theorem z_if_gt {a : Int} (hd : z_J M pc n tgt off (.ifCond .gt off)) (ha : z_R a) (kt : 0 < a → z_A M E kc ks tgt ls st mi mr Q) (kf : ¬ 0 < a → z_A M E kc ks n ls st mi mr Q) : z_A M E kc ks pc ls (zi a :: st) mi mr Q := by
  intro b0 p l e s m args below meth c H locs lsA Qm hC hP hD hS hL hK
  obtain ⟨hd, rfl, ht⟩ := hd
  have h0 := z_I_0
  have T := fun h => kt h b0 p l e s m args below meth c H locs lsA Qm hC hP hD hS hL hK
  have F := fun h => kf h b0 p l e s m args below meth c H locs lsA Qm hC hP hD hS hL hK
  have hi := z_I_lt z_R0 ha
  rw [h0] at hi
  exact lv_if_gt hC.1 hC.2.1 hd ht (fun h => T (hi.mp h)) (fun h => F (fun q => h (hi.mpr q)))
theorem z_icmp_gt {a b : Int} (hd : z_J M pc n tgt off (.if_icmp .gt off)) (ha : z_R a) (hb : z_R b) (kt : b < a → z_A M E kc ks tgt ls st mi mr Q) (kf : ¬ b < a → z_A M E kc ks n ls st mi mr Q) : z_A M E kc ks pc ls (zi b :: zi a :: st) mi mr Q := by
  intro b0 p l e s m args below meth c H locs lsA Qm hC hP hD hS hL hK
  obtain ⟨hd, rfl, ht⟩ := hd
  have T := fun h => kt h b0 p l e s m args below meth c H locs lsA Qm hC hP hD hS hL hK
  have F := fun h => kf h b0 p l e s m args below meth c H locs lsA Qm hC hP hD hS hL hK
  have hi := z_I_lt hb ha
  exact lv_icmp_gt hC.1 hC.2.1 hd ht (fun h => T (hi.mp h)) (fun h => F (fun q => h (hi.mpr q)))
theorem z_if_le {a : Int} (hd : z_J M pc n tgt off (.ifCond .le off)) (ha : z_R a) (kt : a ≤ 0 → z_A M E kc ks tgt ls st mi mr Q) (kf : ¬ a ≤ 0 → z_A M E kc ks n ls st mi mr Q) : z_A M E kc ks pc ls (zi a :: st) mi mr Q := by
  intro b0 p l e s m args below meth c H locs lsA Qm hC hP hD hS hL hK
  obtain ⟨hd, rfl, ht⟩ := hd
  have h0 := z_I_0
  have T := fun h => kt h b0 p l e s m args below meth c H locs lsA Qm hC hP hD hS hL hK
  have F := fun h => kf h b0 p l e s m args below meth c H locs lsA Qm hC hP hD hS hL hK
  have hi := z_I_le ha z_R0
  rw [h0] at hi
  exact lv_if_le hC.1 hC.2.1 hd ht (fun h => T (hi.mp h)) (fun h => F (fun q => h (hi.mpr q)))
theorem z_icmp_le {a b : Int} (hd : z_J M pc n tgt off (.if_icmp .le off)) (ha : z_R a) (hb : z_R b) (kt : a ≤ b → z_A M E kc ks tgt ls st mi mr Q) (kf : ¬ a ≤ b → z_A M E kc ks n ls st mi mr Q) : z_A M E kc ks pc ls (zi b :: zi a :: st) mi mr Q := by
  intro b0 p l e s m args below meth c H locs lsA Qm hC hP hD hS hL hK
  obtain ⟨hd, rfl, ht⟩ := hd
  have T := fun h => kt h b0 p l e s m args below meth c H locs lsA Qm hC hP hD hS hL hK
  have F := fun h => kf h b0 p l e s m args below meth c H locs lsA Qm hC hP hD hS hL hK
  have hi := z_I_le ha hb
  exact lv_icmp_le hC.1 hC.2.1 hd ht (fun h => T (hi.mp h)) (fun h => F (fun q => h (hi.mpr q)))
end ZROWS
end
section
/-! cells: reads, writes, calls, what is made -/
theorem z_ce_obj {G : z_G} {t : Nat × Nat} {f : Int → Int} {g : Int → Option Nat} (h : t.1 < 10) : z_ce G t f g = .inr (t.1, z_fs t.1 f g) := if_pos h
theorem z_ce_i {G : z_G} {n : Nat} {f : Int → Int} {g : Int → Option Nat} : z_ce G (10, n) f g = .inl (G.2.1, n, .inl fun j => z_I (f (j : Nat))) := by simp [z_ce]
theorem z_ce_z {G : z_G} {n : Nat} {f : Int → Int} {g : Int → Option Nat} : z_ce G (11, n) f g = .inl (G.2.2.1, n, .inl fun j => z_I (f (j : Nat))) := by simp [z_ce]
theorem z_ce_12 {G : z_G} {n : Nat} {f : Int → Int} {g : Int → Option Nat} : z_ce G (12, n) f g = .inl (G.2.2.2.1, n, .inr (.inr (.inr (.inr fun j => g (j : Nat))))) := by simp [z_ce]
theorem z_ce_13 {G : z_G} {n : Nat} {f : Int → Int} {g : Int → Option Nat} : z_ce G (13, n) f g = .inl (G.2.2.2.2.1, n, .inr (.inr (.inr (.inr fun j => g (j : Nat))))) := by simp [z_ce]
theorem z_ce_14 {G : z_G} {n : Nat} {f : Int → Int} {g : Int → Option Nat} : z_ce G (14, n) f g = .inl (G.2.2.2.2.2, n, .inr (.inr (.inr (.inr fun j => g (j : Nat))))) := by simp [z_ce]
theorem z_fs_get {n k : Nat} {f : Int → Int} {g : Int → Option Nat} (h : k < z_NF n) : (z_fs n f g)[k]? = some (z_fv (z_ty n k) (f (k : Nat)) (g (k : Nat))) := by
  simp [z_fs, List.getElem?_map, List.getElem?_range h]
theorem z_fs_len {n : Nat} {f : Int → Int} {g : Int → Option Nat} : (z_fs n f g).length = z_NF n := by simp [z_fs]
theorem z_fs_set {n k : Nat} {f : Int → Int} {g : Int → Option Nat} (x : Int) (r : Option Nat) (h : k < z_NF n) : (z_fs n f g).set k (z_fv (z_ty n k) x r) = z_fs n (z_v f (k : Nat) x) (z_v g (k : Nat) r) := by
  apply List.ext_getElem?
  intro i
  by_cases hi : i = k
  · subst hi
    rw [List.getElem?_set_self (by rw [z_fs_len]; exact h), z_fs_get h, z_vs, z_vs]
  · rw [List.getElem?_set_ne (Ne.symm hi)]
    by_cases hl : i < z_NF n
    · rw [z_fs_get hl, z_fs_get hl, z_vn (by omega), z_vn (by omega)]
    · rw [List.getElem?_eq_none (by rw [z_fs_len]; omega), List.getElem?_eq_none (by rw [z_fs_len]; omega)]
theorem z_vself {α : Type} (f : Int → α) (i : Int) : z_v f i (f i) = f := by
  funext j; unfold z_v; split
  · next h => rw [h]
  · rfl
theorem z_mpv (al : Nat → Nat) (g : Int → Option Nat) (i : Int) (r : Option Nat) : z_v (z_mp al g) i (r.map al) = z_mp al (z_v g i r) := by
  funext j; by_cases h : j = i <;> simp [z_v, z_mp, h]
theorem z_arrI (f : Int → Int) {i x : Int} (h0 : 0 ≤ i) : upd (fun j : Nat => z_I (f (j : Nat))) i.toNat (z_I x) = fun j : Nat => z_I (z_v f i x (j : Nat)) := by
  funext j
  unfold upd z_v
  by_cases h : j = i.toNat
  · rw [if_pos h, if_pos (by omega)]
  · rw [if_neg h, if_neg (by omega)]
theorem z_arrQ (al : Nat → Nat) (g : Int → Option Nat) {i : Int} {b : Nat} (h0 : 0 ≤ i) : va_up (fun j : Nat => z_mp al g (j : Nat)) i.toNat (some (al b)) = fun j : Nat => z_mp al (z_v g i (some b)) (j : Nat) := by
  funext j
  unfold va_up z_mp z_v
  by_cases h : j = i.toNat
  · rw [if_pos h, if_pos (by omega)]; rfl
  · rw [if_neg h, if_neg (by omega)]
theorem z_P.putr {E : z_E} {mi mi' : z_Mi} {mr : z_Mr} {H H1 : Heap} {a : Nat} {i : Int} {r : Option Nat} (hP : z_P E mi mr H) (h : va_P E.1.1 vwCl (z_W E mi' (z_u mr a (z_v (mr a) i r))) H1) (hr : ∀ b, r = some b → b < E.2.2.length) : z_P E mi' (z_u mr a (z_v (mr a) i r)) H1 := by
  refine ⟨h, fun j k b hj hb => ?_⟩
  by_cases h1 : j = a
  · subst h1
    rw [z_us] at hb
    unfold z_v at hb
    split at hb
    · exact hr b hb
    · exact hP.2 j k b hj hb
  · rw [z_un h1] at hb
    exact hP.2 j k b hj hb
theorem z_lt {E : z_E} {a : Nat} {t : Nat × Nat} (h : E.2.2[a]? = some t) : a < E.2.2.length := (List.getElem?_eq_some_iff.mp h).1
section ZHEAP
variable {M : z_M} {E : z_E} {kc ks pc n : Nat} {ls : List (Option z_V)} {st : List z_V} {mi : z_Mi} {mr : z_Mr} {Q : z_Q}
theorem z_geti {idx ci fk a N : Nat} {C : String} {T : u_T} {fi x : Int} (hd : z_D 3 M pc n (.getfield idx)) (hf : z_F (z_my M).cls idx ci fk C T N) (ht : E.2.2[a]? = some (ci, 0)) (hr : z_ref (z_ty ci fk) = false) (hk : ((fk : Nat) : Int) = fi) (hx : mi a fi = x) (k : z_A M E kc ks n ls (zi x :: st) mi mr Q) : z_A M E kc ks pc ls (zo a :: st) mi mr Q := by
  intro b0 p l e s m args below meth c H locs lsA Qm hC hP hD hS hL hK
  obtain ⟨hd, rfl⟩ := hd
  subst hk; subst hx
  obtain ⟨hc, hkN, hl⟩ := hf
  obtain ⟨h6, hN, hty, hnm, hin⟩ := z_cl hc
  have k1 := k b0 p l e s m args below meth c H locs lsA Qm hC hP hD hS hL hK
  have he : (z_W E mi mr)[a]? = some (E.2.1 a, .inr (ci, z_fs ci (mi a) (z_mp E.2.1 (mr a)))) := by rw [z_W_get ht, z_ce_obj (by show ci < 10; omega)]
  have hv : (z_fs ci (mi a) (z_mp E.2.1 (mr a)))[fk]? = some (.int (z_I (mi a (fk : Nat)))) := by rw [z_fs_get (hN ▸ hkN), z_fv, hr]; rfl
  rcases hl with hl | ⟨host, hl⟩
  · exact va_get hC.1 hC.2.1 hC.2.2.2.2.1 hin hC.2.2.2.1 hC.2.2.2.2.2.2.1 hP.1 a he hc fk hkN (hC.2.2.2.2.1 _ hl) (fun _ h => h) hv hd k1
  · exact va_getN hC.1 hC.2.1 hC.2.2.2.2.1 hin hC.2.2.2.1 hC.2.2.2.2.2.2.1 hP.1 a he hc fk hkN (va_Nw.use rfl (hC.2.2.2.2.2.1 _ hl)) (fun _ h => h) hv hd k1
theorem z_getr {idx ci fk a N : Nat} {C : String} {T : u_T} {fi : Int} {r : Option Nat} (hd : z_D 3 M pc n (.getfield idx)) (hf : z_F (z_my M).cls idx ci fk C T N) (ht : E.2.2[a]? = some (ci, 0)) (hr : z_ref (z_ty ci fk) = true) (hk : ((fk : Nat) : Int) = fi) (hx : mr a fi = r) (k : z_A M E kc ks n ls (zr r :: st) mi mr Q) : z_A M E kc ks pc ls (zo a :: st) mi mr Q := by
  intro b0 p l e s m args below meth c H locs lsA Qm hC hP hD hS hL hK
  obtain ⟨hd, rfl⟩ := hd
  subst hk; subst hx
  obtain ⟨hc, hkN, hl⟩ := hf
  obtain ⟨h6, hN, hty, hnm, hin⟩ := z_cl hc
  have k1 := k b0 p l e s m args below meth c H locs lsA Qm hC hP hD hS hL hK
  have he : (z_W E mi mr)[a]? = some (E.2.1 a, .inr (ci, z_fs ci (mi a) (z_mp E.2.1 (mr a)))) := by rw [z_W_get ht, z_ce_obj (by show ci < 10; omega)]
  have hv : (z_fs ci (mi a) (z_mp E.2.1 (mr a)))[fk]? = some (va_rf ((mr a (fk : Nat)).map E.2.1)) := by rw [z_fs_get (hN ▸ hkN), z_fv, hr]; rfl
  rcases hl with hl | ⟨host, hl⟩
  · exact va_get hC.1 hC.2.1 hC.2.2.2.2.1 hin hC.2.2.2.1 hC.2.2.2.2.2.2.1 hP.1 a he hc fk hkN (hC.2.2.2.2.1 _ hl) (fun _ h => h) hv hd k1
  · exact va_getN hC.1 hC.2.1 hC.2.2.2.2.1 hin hC.2.2.2.1 hC.2.2.2.2.2.2.1 hP.1 a he hc fk hkN (va_Nw.use rfl (hC.2.2.2.2.2.1 _ hl)) (fun _ h => h) hv hd k1
theorem z_puti {idx ci fk a N : Nat} {C : String} {T : u_T} {fi x : Int} (hd : z_D 3 M pc n (.putfield idx)) (hf : z_F (z_my M).cls idx ci fk C T N) (ht : E.2.2[a]? = some (ci, 0)) (hk : ((fk : Nat) : Int) = fi) (hfin : (T fk).2.2.2 = false) (hz : z_ty ci fk = .int ∨ (z_ty ci fk = .boolean ∧ (x = 0 ∨ x = 1))) (k : z_A M E kc ks n ls st (z_u mi a (z_v (mi a) fi x)) mr Q) : z_A M E kc ks pc ls (zi x :: zo a :: st) mi mr Q := by
  intro b0 p l e s m args below meth c H locs lsA Qm hC hP hD hS hL hK
  obtain ⟨hd, rfl⟩ := hd
  subst hk
  obtain ⟨hc, hkN, hl⟩ := hf
  obtain ⟨h6, hN, hty, hnm, hin⟩ := z_cl hc
  have he : (z_W E mi mr)[a]? = some (E.2.1 a, .inr (ci, z_fs ci (mi a) (z_mp E.2.1 (mr a)))) := by rw [z_W_get ht, z_ce_obj (by show ci < 10; omega)]
  have hv : Value.int (z_I x) = z_fv (z_ty ci fk) x (z_mp E.2.1 (mr a) (fk : Nat)) := by
    rcases hz with h | ⟨h, -⟩ <;> rw [h] <;> rfl
  have hnf : narrow (z_ty ci fk) (.int (z_I x)) = .int (z_I x) ∧ fits (z_ty ci fk) (.int (z_I x)) = true := by
    rcases hz with h | ⟨h, rfl | rfl⟩ <;> rw [h]
    · exact ⟨rfl, rfl⟩
    · exact ⟨by decide +kernel, by decide +kernel⟩
    · exact ⟨by decide +kernel, by decide +kernel⟩
  have e9 : (z_W E mi mr).set a (E.2.1 a, .inr (ci, (z_fs ci (mi a) (z_mp E.2.1 (mr a))).set fk (.int (z_I x)))) = z_W E (z_u mi a (z_v (mi a) (fk : Nat) x)) mr := by
    rw [hv, z_fs_set _ _ (hN ▸ hkN), z_vself]
    have e8 := z_W_set (mi := mi) (mr := mr) (z_v (mi a) (fk : Nat) x) (mr a) ht
    rw [z_ce_obj (by show ci < 10; omega), z_uself] at e8
    exact e8
  have kk : ∀ (H1 : Heap) (locs1 : List Loc), va_P E.1.1 vwCl ((z_W E mi mr).set a (E.2.1 a, .inr (ci, (z_fs ci (mi a) (z_mp E.2.1 (mr a))).set fk (.int (z_I x))))) H1 → va_D (z_af b0) ((z_W E mi mr).set a (E.2.1 a, .inr (ci, (z_fs ci (mi a) (z_mp E.2.1 (mr a))).set fk (.int (z_I x))))) → va_S (z_af b0) s.heap H1 locs1 → W p l e (z_mR M) s m args below meth c H1 locs1 kc ks Qm (F0 m (pc + 3) lsA (st.map (z_cv E.2.1))) := by
    intro H1 locs1 h1 h2 h3
    rw [e9] at h1 h2
    exact k b0 p l e s m args below meth c H1 locs1 lsA Qm hC ⟨h1, hP.2⟩ h2 h3 hL hK
  have hlen : fk < (z_fs ci (mi a) (z_mp E.2.1 (mr a))).length := by rw [z_fs_len]; exact hN ▸ hkN
  rcases hl with hl | ⟨host, hl⟩
  · exact va_put hC.1 hC.2.1 hC.2.2.2.2.1 hin (z_ty ci) hty hnm hC.2.2.2.1 hC.2.2.2.2.2.2.1 hP.1 hD hS a he hc fk hkN (hC.2.2.2.2.1 _ hl) (fun _ h => h) hfin (hty fk hkN) hnf.1 hnf.2 hlen hd kk
  · exact va_putN hC.1 hC.2.1 hC.2.2.2.2.1 hin (z_ty ci) hty hnm hC.2.2.2.1 hC.2.2.2.2.2.2.1 hP.1 hD hS a he hc fk hkN (va_Nw.use rfl (hC.2.2.2.2.2.1 _ hl)) (fun _ h => h) hfin (hty fk hkN) hnf.1 hnf.2 hlen hd kk
theorem z_rfnf {ty : FieldType} (hr : z_ref ty = true) (al : Nat → Nat) (r : Option Nat) : narrow ty (va_rf (r.map al)) = va_rf (r.map al) ∧ fits ty (va_rf (r.map al)) = true := by
  cases ty <;> first | (simp [z_ref] at hr; done) | (cases r <;> exact ⟨rfl, rfl⟩)
theorem z_putr {idx ci fk a N : Nat} {C : String} {T : u_T} {fi : Int} {r : Option Nat} (hd : z_D 3 M pc n (.putfield idx)) (hf : z_F (z_my M).cls idx ci fk C T N) (ht : E.2.2[a]? = some (ci, 0)) (hk : ((fk : Nat) : Int) = fi) (hfin : (T fk).2.2.2 = false ∨ ((T fk).2.2.2 = true ∧ (z_my M).name = "<init>" ∧ (T fk).1 = (z_my M).cls ∧ Cond.fieldLink (z_my M).cls idx (T fk).1 (T fk).2.1 (T fk).2.2.1 ∈ z_WG)) (hr : z_ref (z_ty ci fk) = true) (hb : ∀ b, r = some b → b < E.2.2.length) (k : z_A M E kc ks n ls st mi (z_u mr a (z_v (mr a) fi r)) Q) : z_A M E kc ks pc ls (zr r :: zo a :: st) mi mr Q := by
  intro b0 p l e s m args below meth c H locs lsA Qm hC hP hD hS hL hK
  obtain ⟨hd, rfl⟩ := hd
  subst hk
  obtain ⟨hc, hkN, hl⟩ := hf
  obtain ⟨h6, hN, hty, hnm, hin⟩ := z_cl hc
  have he : (z_W E mi mr)[a]? = some (E.2.1 a, .inr (ci, z_fs ci (mi a) (z_mp E.2.1 (mr a)))) := by rw [z_W_get ht, z_ce_obj (by show ci < 10; omega)]
  have hv : va_rf (r.map E.2.1) = z_fv (z_ty ci fk) (mi a (fk : Nat)) (r.map E.2.1) := by rw [z_fv, hr]; rfl
  have hnf := z_rfnf hr E.2.1 r
  have e9 : (z_W E mi mr).set a (E.2.1 a, .inr (ci, (z_fs ci (mi a) (z_mp E.2.1 (mr a))).set fk (va_rf (r.map E.2.1)))) = z_W E mi (z_u mr a (z_v (mr a) (fk : Nat) r)) := by
    rw [hv, z_fs_set _ _ (hN ▸ hkN), z_vself, z_mpv]
    have e8 := z_W_set (mi := mi) (mr := mr) (mi a) (z_v (mr a) (fk : Nat) r) ht
    rw [z_ce_obj (by show ci < 10; omega), z_uself] at e8
    exact e8
  have kk : ∀ (H1 : Heap) (locs1 : List Loc), va_P E.1.1 vwCl ((z_W E mi mr).set a (E.2.1 a, .inr (ci, (z_fs ci (mi a) (z_mp E.2.1 (mr a))).set fk (va_rf (r.map E.2.1))))) H1 → va_D (z_af b0) ((z_W E mi mr).set a (E.2.1 a, .inr (ci, (z_fs ci (mi a) (z_mp E.2.1 (mr a))).set fk (va_rf (r.map E.2.1))))) → va_S (z_af b0) s.heap H1 locs1 → W p l e (z_mR M) s m args below meth c H1 locs1 kc ks Qm (F0 m (pc + 3) lsA (st.map (z_cv E.2.1))) := by
    intro H1 locs1 h1 h2 h3
    rw [e9] at h1 h2
    exact k b0 p l e s m args below meth c H1 locs1 lsA Qm hC (hP.putr h1 hb) h2 h3 hL hK
  have hlen : fk < (z_fs ci (mi a) (z_mp E.2.1 (mr a))).length := by rw [z_fs_len]; exact hN ▸ hkN
  rcases hfin with hfin | ⟨hfin, hi1, hi2, hl2⟩
  · rcases hl with hl | ⟨host, hl⟩
    · exact va_put hC.1 hC.2.1 hC.2.2.2.2.1 hin (z_ty ci) hty hnm hC.2.2.2.1 hC.2.2.2.2.2.2.1 hP.1 hD hS a he hc fk hkN (hC.2.2.2.2.1 _ hl) (fun _ h => h) hfin (hty fk hkN) hnf.1 hnf.2 hlen hd kk
    · exact va_putN hC.1 hC.2.1 hC.2.2.2.2.1 hin (z_ty ci) hty hnm hC.2.2.2.1 hC.2.2.2.2.2.2.1 hP.1 hD hS a he hc fk hkN (va_Nw.use rfl (hC.2.2.2.2.2.1 _ hl)) (fun _ h => h) hfin (hty fk hkN) hnf.1 hnf.2 hlen hd kk
  · exact va_putF hC.1 hC.2.1 hC.2.2.2.2.1 hin (z_ty ci) hty hnm hC.2.2.2.1 hC.2.2.2.2.2.2.1 hP.1 hD hS a he hc fk hkN (hC.2.2.2.2.1 _ hl2) (fun _ h => h) hfin (hC.2.2.2.2.2.2.2.2.1.trans hi1) hi2 (hty fk hkN) hnf.1 hnf.2 hlen hd kk
theorem z_iald {a len : Nat} {i x : Int} (hd : z_D 1 M pc n .iaload) (ht : E.2.2[a]? = some (10, len)) (hn : len ≤ 2147483648) (h0 : 0 ≤ i) (h1 : i < (len : Int)) (hx : mi a i = x) (k : z_A M E kc ks n ls (zi x :: st) mi mr Q) : z_A M E kc ks pc ls (zi i :: zo a :: st) mi mr Q := by
  intro b0 p l e s m args below meth c H locs lsA Qm hC hP hD hS hL hK
  obtain ⟨hd, rfl⟩ := hd
  subst hx
  have k1 := k b0 p l e s m args below meth c H locs lsA Qm hC hP hD hS hL hK
  have he : (z_W E mi mr)[a]? = some (E.2.1 a, .inl (E.1.2.1, len, .inl fun j => z_I (mi a (j : Nat)))) := by rw [z_W_get ht, z_ce_i]
  refine va_iald hC.1 hC.2.1 hC.2.2.2.2.2.2.1 hP.1 a 0 he rfl (z_I_in h0 h1 hn) hd ?_
  rw [z_I_clamp h0 (by omega), show ((i.toNat : Nat) : Int) = i by omega]
  exact k1
theorem z_iast {a len : Nat} {i x : Int} (hd : z_D 1 M pc n .iastore) (ht : E.2.2[a]? = some (10, len)) (hn : len ≤ 2147483648) (h0 : 0 ≤ i) (h1 : i < (len : Int)) (k : z_A M E kc ks n ls st (z_u mi a (z_v (mi a) i x)) mr Q) : z_A M E kc ks pc ls (zi x :: zi i :: zo a :: st) mi mr Q := by
  intro b0 p l e s m args below meth c H locs lsA Qm hC hP hD hS hL hK
  obtain ⟨hd, rfl⟩ := hd
  have he : (z_W E mi mr)[a]? = some (E.2.1 a, .inl (E.1.2.1, len, .inl fun j => z_I (mi a (j : Nat)))) := by rw [z_W_get ht, z_ce_i]
  refine va_iast hC.1 hC.2.1 hC.2.2.2.2.2.2.1 hP.1 hD hS a 0 he rfl (z_I_in h0 h1 hn) hd (fun H1 locs1 g1 g2 g3 => ?_)
  rw [z_I_clamp h0 (by omega), z_arrI _ h0] at g1 g2
  have e8 := z_W_set (mi := mi) (mr := mr) (z_v (mi a) i x) (mr a) ht
  rw [z_ce_i, z_uself] at e8
  rw [e8] at g1 g2
  exact k b0 p l e s m args below meth c H1 locs1 lsA Qm hC ⟨g1, hP.2⟩ g2 g3 hL hK
theorem z_zald {a len : Nat} {i x : Int} (hd : z_D 1 M pc n .baload) (ht : E.2.2[a]? = some (11, len)) (hn : len ≤ 2147483648) (h0 : 0 ≤ i) (h1 : i < (len : Int)) (hx : mi a i = x) (k : z_A M E kc ks n ls (zi x :: st) mi mr Q) : z_A M E kc ks pc ls (zi i :: zo a :: st) mi mr Q := by
  intro b0 p l e s m args below meth c H locs lsA Qm hC hP hD hS hL hK
  obtain ⟨hd, rfl⟩ := hd
  subst hx
  have k1 := k b0 p l e s m args below meth c H locs lsA Qm hC hP hD hS hL hK
  have he : (z_W E mi mr)[a]? = some (E.2.1 a, .inl (E.1.2.2.1, len, .inl fun j => z_I (mi a (j : Nat)))) := by rw [z_W_get ht, z_ce_z]
  refine va_zald hC.1 hC.2.1 hC.2.2.2.2.2.2.1 hP.1 a 1 he rfl (z_I_in h0 h1 hn) hd ?_
  rw [z_I_clamp h0 (by omega), show ((i.toNat : Nat) : Int) = i by omega]
  exact k1
theorem z_zast {a len : Nat} {i x : Int} (hd : z_D 1 M pc n .bastore) (ht : E.2.2[a]? = some (11, len)) (hn : len ≤ 2147483648) (h0 : 0 ≤ i) (h1 : i < (len : Int)) (hz : x = 0 ∨ x = 1) (k : z_A M E kc ks n ls st (z_u mi a (z_v (mi a) i x)) mr Q) : z_A M E kc ks pc ls (zi x :: zi i :: zo a :: st) mi mr Q := by
  intro b0 p l e s m args below meth c H locs lsA Qm hC hP hD hS hL hK
  obtain ⟨hd, rfl⟩ := hd
  have he : (z_W E mi mr)[a]? = some (E.2.1 a, .inl (E.1.2.2.1, len, .inl fun j => z_I (mi a (j : Nat)))) := by rw [z_W_get ht, z_ce_z]
  refine va_zast hC.1 hC.2.1 hC.2.2.2.2.2.2.1 hP.1 hD hS a 1 he rfl (z_I_in h0 h1 hn) hd (fun H1 locs1 g1 g2 g3 => ?_)
  have hx : vp_nar .boolean (z_I x) = z_I x := by rcases hz with rfl | rfl <;> decide +kernel
  rw [hx, z_I_clamp h0 (by omega), z_arrI _ h0] at g1 g2
  have e8 := z_W_set (mi := mi) (mr := mr) (z_v (mi a) i x) (mr a) ht
  rw [z_ce_z, z_uself] at e8
  rw [e8] at g1 g2
  exact k b0 p l e s m args below meth c H1 locs1 lsA Qm hC ⟨g1, hP.2⟩ g2 g3 hL hK
theorem z_aald {a t len : Nat} {i : Int} {r : Option Nat} (hd : z_D 1 M pc n .aaload) (ht : E.2.2[a]? = some (t, len)) (h3 : t = 12 ∨ t = 13 ∨ t = 14) (hn : len ≤ 2147483648) (h0 : 0 ≤ i) (h1 : i < (len : Int)) (hx : mr a i = r) (k : z_A M E kc ks n ls (zr r :: st) mi mr Q) : z_A M E kc ks pc ls (zi i :: zo a :: st) mi mr Q := by
  intro b0 p l e s m args below meth c H locs lsA Qm hC hP hD hS hL hK
  obtain ⟨hd, rfl⟩ := hd
  subst hx
  have k1 := k b0 p l e s m args below meth c H locs lsA Qm hC hP hD hS hL hK
  rcases h3 with rfl | rfl | rfl
  · have he : (z_W E mi mr)[a]? = some (E.2.1 a, .inl (E.1.2.2.2.1, len, .inr (.inr (.inr (.inr fun j => z_mp E.2.1 (mr a) (j : Nat)))))) := by rw [z_W_get ht, z_ce_12]
    refine va_aldq hC.1 hC.2.1 hC.2.2.2.2.2.2.1 hP.1 a 2 he rfl (z_I_in h0 h1 hn) hd ?_
    rw [z_I_clamp h0 (by omega), show ((i.toNat : Nat) : Int) = i by omega]
    exact k1
  · have he : (z_W E mi mr)[a]? = some (E.2.1 a, .inl (E.1.2.2.2.2.1, len, .inr (.inr (.inr (.inr fun j => z_mp E.2.1 (mr a) (j : Nat)))))) := by rw [z_W_get ht, z_ce_13]
    refine va_aldq hC.1 hC.2.1 hC.2.2.2.2.2.2.1 hP.1 a 3 he rfl (z_I_in h0 h1 hn) hd ?_
    rw [z_I_clamp h0 (by omega), show ((i.toNat : Nat) : Int) = i by omega]
    exact k1
  · have he : (z_W E mi mr)[a]? = some (E.2.1 a, .inl (E.1.2.2.2.2.2, len, .inr (.inr (.inr (.inr fun j => z_mp E.2.1 (mr a) (j : Nat)))))) := by rw [z_W_get ht, z_ce_14]
    refine va_aldq hC.1 hC.2.1 hC.2.2.2.2.2.2.1 hP.1 a 4 he rfl (z_I_in h0 h1 hn) hd ?_
    rw [z_I_clamp h0 (by omega), show ((i.toNat : Nat) : Int) = i by omega]
    exact k1
theorem z_aast {a b t ci len : Nat} {i : Int} (hd : z_D 1 M pc n .aastore) (ht : E.2.2[a]? = some (t, len)) (hb : E.2.2[b]? = some (ci, 0)) (h3 : (t = 12 ∧ ci = 2) ∨ (t = 13 ∧ ci = 0) ∨ (t = 14 ∧ ci = 3)) (hn : len ≤ 2147483648) (h0 : 0 ≤ i) (h1 : i < (len : Int)) (k : z_A M E kc ks n ls st mi (z_u mr a (z_v (mr a) i (some b))) Q) : z_A M E kc ks pc ls (zo b :: zi i :: zo a :: st) mi mr Q := by
  intro b0 p l e s m args below meth c H locs lsA Qm hC hP hD hS hL hK
  obtain ⟨hd, rfl⟩ := hd
  rcases h3 with ⟨rfl, rfl⟩ | ⟨rfl, rfl⟩ | ⟨rfl, rfl⟩
  · have he : (z_W E mi mr)[a]? = some (E.2.1 a, .inl (E.1.2.2.2.1, len, .inr (.inr (.inr (.inr fun j => z_mp E.2.1 (mr a) (j : Nat)))))) := by rw [z_W_get ht, z_ce_12]
    have hv : (z_W E mi mr)[b]? = some (E.2.1 b, .inr (2, z_fs 2 (mi b) (z_mp E.2.1 (mr b)))) := by rw [z_W_get hb, z_ce_obj (by decide)]
    refine va_astq (r := (RX2, TX2, 3)) hC.1 hC.2.1 hC.2.2.2.2.2.2.1 hP.1 hD hS a 2 b 2 he rfl hv rfl (z_I_in h0 h1 hn) hd (fun H1 locs1 g1 g2 g3 => ?_)
    rw [z_I_clamp h0 (by omega), z_arrQ _ _ h0] at g1 g2
    have e8 := z_W_set (mi := mi) (mr := mr) (mi a) (z_v (mr a) i (some b)) ht
    rw [z_ce_12, z_uself] at e8
    rw [e8] at g1 g2
    exact k b0 p l e s m args below meth c H1 locs1 lsA Qm hC (hP.putr g1 (fun b' hb' => by cases hb'; exact z_lt hb)) g2 g3 hL hK
  · have he : (z_W E mi mr)[a]? = some (E.2.1 a, .inl (E.1.2.2.2.2.1, len, .inr (.inr (.inr (.inr fun j => z_mp E.2.1 (mr a) (j : Nat)))))) := by rw [z_W_get ht, z_ce_13]
    have hv : (z_W E mi mr)[b]? = some (E.2.1 b, .inr (0, z_fs 0 (mi b) (z_mp E.2.1 (mr b)))) := by rw [z_W_get hb, z_ce_obj (by decide)]
    refine va_astq (r := (RX0, TX0, 3)) hC.1 hC.2.1 hC.2.2.2.2.2.2.1 hP.1 hD hS a 3 b 0 he rfl hv rfl (z_I_in h0 h1 hn) hd (fun H1 locs1 g1 g2 g3 => ?_)
    rw [z_I_clamp h0 (by omega), z_arrQ _ _ h0] at g1 g2
    have e8 := z_W_set (mi := mi) (mr := mr) (mi a) (z_v (mr a) i (some b)) ht
    rw [z_ce_13, z_uself] at e8
    rw [e8] at g1 g2
    exact k b0 p l e s m args below meth c H1 locs1 lsA Qm hC (hP.putr g1 (fun b' hb' => by cases hb'; exact z_lt hb)) g2 g3 hL hK
  · have he : (z_W E mi mr)[a]? = some (E.2.1 a, .inl (E.1.2.2.2.2.2, len, .inr (.inr (.inr (.inr fun j => z_mp E.2.1 (mr a) (j : Nat)))))) := by rw [z_W_get ht, z_ce_14]
    have hv : (z_W E mi mr)[b]? = some (E.2.1 b, .inr (3, z_fs 3 (mi b) (z_mp E.2.1 (mr b)))) := by rw [z_W_get hb, z_ce_obj (by decide)]
    refine va_astq (r := (RX3, TX3, 9)) hC.1 hC.2.1 hC.2.2.2.2.2.2.1 hP.1 hD hS a 4 b 3 he rfl hv rfl (z_I_in h0 h1 hn) hd (fun H1 locs1 g1 g2 g3 => ?_)
    rw [z_I_clamp h0 (by omega), z_arrQ _ _ h0] at g1 g2
    have e8 := z_W_set (mi := mi) (mr := mr) (mi a) (z_v (mr a) i (some b)) ht
    rw [z_ce_14, z_uself] at e8
    rw [e8] at g1 g2
    exact k b0 p l e s m args below meth c H1 locs1 lsA Qm hC (hP.putr g1 (fun b' hb' => by cases hb'; exact z_lt hb)) g2 g3 hL hK
theorem z_alen {a t len : Nat} (hd : z_D 1 M pc n .arraylength) (ht : E.2.2[a]? = some (t, len)) (h3 : t = 10 ∨ t = 11 ∨ t = 12 ∨ t = 13 ∨ t = 14) (k : z_A M E kc ks n ls (zi (len : Nat) :: st) mi mr Q) : z_A M E kc ks pc ls (zo a :: st) mi mr Q := by
  intro b0 p l e s m args below meth c H locs lsA Qm hC hP hD hS hL hK
  obtain ⟨hd, rfl⟩ := hd
  have k1 := k b0 p l e s m args below meth c H locs lsA Qm hC hP hD hS hL hK
  have hz : Int32.ofNat len = z_I (len : Nat) := (z_I_nat len).symm
  rcases h3 with rfl | rfl | rfl | rfl | rfl
  · exact va_alen hC.1 hC.2.1 hC.2.2.2.2.2.2.1 hP.1 a 0 (by rw [z_W_get ht, z_ce_i]) rfl hz hd k1
  · exact va_alen hC.1 hC.2.1 hC.2.2.2.2.2.2.1 hP.1 a 1 (by rw [z_W_get ht, z_ce_z]) rfl hz hd k1
  · exact va_alen hC.1 hC.2.1 hC.2.2.2.2.2.2.1 hP.1 a 2 (by rw [z_W_get ht, z_ce_12]) rfl hz hd k1
  · exact va_alen hC.1 hC.2.1 hC.2.2.2.2.2.2.1 hP.1 a 3 (by rw [z_W_get ht, z_ce_13]) rfl hz hd k1
  · exact va_alen hC.1 hC.2.1 hC.2.2.2.2.2.2.1 hP.1 a 4 (by rw [z_W_get ht, z_ce_14]) rfl hz hd k1
/-! ends -/
theorem z_ret (hd : z_D 1 M pc n .return_) (hr : z_mr M = none) (hk : Nat.ble kc (z_mR M).cells = true) (hs : Nat.ble ks (z_mR M).slots = true) (h : Q none E mi mr) : z_A M E kc ks pc ls [] mi mr Q := by
  intro b0 p l e s m args below meth c H locs lsA Qm hC hP hD hS hL hK
  exact hK none E mi mr H locs kc ks pc lsA h rfl hP hD hS hr hd.1 (Nat.le_of_ble_eq_true hk) (Nat.le_of_ble_eq_true hs)
theorem z_iret {x : Int} (hd : z_D 1 M pc n .ireturn) (hr : z_mr M = some .int ∨ (z_mr M = some .boolean ∧ (x = 0 ∨ x = 1))) (hk : Nat.ble kc (z_mR M).cells = true) (hs : Nat.ble ks (z_mR M).slots = true) (h : Q (some (zi x)) E mi mr) : z_A M E kc ks pc ls [zi x] mi mr Q := by
  intro b0 p l e s m args below meth c H locs lsA Qm hC hP hD hS hL hK
  exact hK (some (zi x)) E mi mr H locs kc ks pc lsA h rfl hP hD hS hr hd.1 (Nat.le_of_ble_eq_true hk) (Nat.le_of_ble_eq_true hs)
theorem z_lret {x : Int64} (hd : z_D 1 M pc n .lreturn) (hr : z_mr M = some .long) (hk : Nat.ble kc (z_mR M).cells = true) (hs : Nat.ble ks (z_mR M).slots = true) (h : Q (some (zl x)) E mi mr) : z_A M E kc ks pc ls [zl x] mi mr Q := by
  intro b0 p l e s m args below meth c H locs lsA Qm hC hP hD hS hL hK
  exact hK (some (zl x)) E mi mr H locs kc ks pc lsA h rfl hP hD hS hr hd.1 (Nat.le_of_ble_eq_true hk) (Nat.le_of_ble_eq_true hs)
theorem z_aret {a : Nat} (hd : z_D 1 M pc n .areturn) (hr : ∃ c, z_mr M = some (.object c)) (hk : Nat.ble kc (z_mR M).cells = true) (hs : Nat.ble ks (z_mR M).slots = true) (h : Q (some (zo a)) E mi mr) : z_A M E kc ks pc ls [zo a] mi mr Q := by
  intro b0 p l e s m args below meth c H locs lsA Qm hC hP hD hS hL hK
  exact hK (some (zo a)) E mi mr H locs kc ks pc lsA h rfl hP hD hS hr hd.1 (Nat.le_of_ble_eq_true hk) (Nat.le_of_ble_eq_true hs)
end ZHEAP
end
section
/-! calls, switches, Math, what is made -/
theorem z_pc_blind {as : List Value} {b0 : Nat} {E : z_E} {mi : z_Mi} {mr : z_Mr} : FrameBlind (va_Pc as (z_pc b0 E mi mr)) := by
  intro a U g mk h
  obtain ⟨h0, h1, h2, h3, h4, h5⟩ := h
  refine ⟨h0, h1, h2, va_K.moved (u := U) (U := U.calling g mk a) (Vm.Alike.refl U.vm) h3, fun w hw => ?_, h5⟩
  exact z_Nw_same hw (u := U) (U := U.calling g mk a) rfl (h4 w hw)
theorem z_pc_of {M : z_M} {b0 : Nat} {E : z_E} {mi : z_Mi} {mr : z_Mr} {p : Program} {s : State} {m : MethodId} {args : Array Value} {meth : Method} {c : Code} {H : Heap} {locs : List Loc} {as : List Value} (hC : z_C M b0 E.1 p s m args meth c) (hP : z_P E mi mr H) (hD : va_D (z_af b0) (z_W E mi mr)) (hS : va_S (z_af b0) s.heap H locs) : ∀ U : State, U.heap = H → s.WarmedH U.vm → va_Pc as (z_pc b0 E mi mr) as.toArray U := by
  intro U hU hW
  refine ⟨rfl, ?_, by rw [hU]; exact hP, va_K.moved hW.alike hC.2.2.2.2.2.2.1, fun w hw => z_Nw_warm hw hW (hC.2.2.2.2.2.1 w hw), hD⟩
  rw [hU]; exact Nat.le_trans hC.2.2.2.2.2.2.2.1 hS.1
section ZCALL
variable {M M' : z_M} {E : z_E} {kc ks pc n tgt : Nat} {off : Int} {ls : List (Option z_V)} {st : List z_V} {mi : z_Mi} {mr : z_Mr} {Q Q0 : z_Q}
theorem z_after {b0 : Nat} {p : Program} {l : Launch} {e : Env} {R : Room} {s : State} {m : MethodId} {args a' : Array Value} {below : List Frame} {meth : Method} {c : Code} {H : Heap} {locs : List Loc} {lsA : Array Slot} {Qm : State → Prop} {G : z_G} {st0 rest : List Value} {mc ms : Nat}
    (hr : va_Run p l e R s m args below meth c H locs kc ks mc ms (F0 m pc lsA st0) rest (z_qc b0 G Q0 a') (z_af b0)) (hS : va_S (z_af b0) s.heap H locs)
    (kk : ∀ (v : Option z_V) (E' : z_E) (mi' : z_Mi) (mr' : z_Mr) (H1 : Heap) (locs1 : List Loc), E'.1 = G → Q0 v E' mi' mr' → z_P E' mi' mr' H1 → va_D (z_af b0) (z_W E' mi' mr') → va_S (z_af b0) s.heap H1 locs1 → W p l e R s m args below meth c H1 locs1 (kc + mc) (ks + ms) Qm (F0 m (pc + 3) lsA ((v.map (z_cv E'.2.1)).toList ++ rest))) :
    W p l e R s m args below meth c H locs kc ks Qm (F0 m pc lsA st0) := by
  intro T hT X
  obtain ⟨v, st₀, t, T', L, h0, X', hL, e1, e2, ⟨⟨v', E', mi', mr', hG, ho, hQ, hP, hD⟩, hz, hk⟩, st⟩ := hr T hT X
  cases ho
  rw [h0] at hz hk
  obtain ⟨t2, a1, b1⟩ := kk v' E' mi' mr' T'.heap (locs ++ L) hG hQ (by rw [e1]; exact hP) hD
    ⟨Nat.le_trans hS.1 (by rw [e1]; exact hz), fun q h1 h2 => by rw [e1, hk q (Nat.lt_of_lt_of_le h1 hS.1) h2]; exact hS.2.1 q h1 h2, fun q hq => by
      rcases List.mem_append.mp hq with h | h
      · exact hS.2.2 q h
      · exact hL q h⟩ T' rfl X'
  exact ⟨t2, st t2 a1, b1⟩
theorem z_goodws (hc : Cond.code (z_my M') (z_mc M') (z_mn M') (z_mr M') ∈ z_WG) : GoodIn z_WG (z_ws M') := by
  intro w hw
  rcases List.mem_cons.mp hw with rfl | h
  · exact ⟨hc, good_of_word (z_good _ hc)⟩
  · exact ⟨h, good_of_word (z_good _ h)⟩
/-- room for a callee -/
def z_rm (M M' : z_M) (kc ks : Nat) : Bool := Nat.ble ((z_mR M').frames + 1) (z_mR M).frames && (Nat.ble (8 + (z_mn M' + 11) + (z_mR M').locals) (z_mR M).locals && (Nat.ble (kc + (z_mR M').cells) (z_mR M).cells && Nat.ble (ks + (z_mR M').slots) (z_mR M).slots))
theorem z_rm_of (h : z_rm M M' kc ks = true) : (z_mR M').frames + 1 ≤ (z_mR M).frames ∧ 8 + (z_mn M' + 11) + (z_mR M').locals ≤ (z_mR M).locals ∧ kc + (z_mR M').cells ≤ (z_mR M).cells ∧ ks + (z_mR M').slots ≤ (z_mR M).slots := by
  simp only [z_rm, Bool.and_eq_true] at h
  exact ⟨Nat.le_of_ble_eq_true h.1, Nat.le_of_ble_eq_true h.2.1, Nat.le_of_ble_eq_true h.2.2.1, Nat.le_of_ble_eq_true h.2.2.2⟩
theorem z_recv {s : State} {H : Heap} {b ci : Nat} (hK : va_K E.1.1 vwCl (z_tys E.1) s) (hP : z_P E mi mr H) (ht : E.2.2[b]? = some (ci, 0)) {C : String} (hc : ∃ T N, vwCl[ci]? = some (C, T, N)) : ∃ cell : Cell, H[E.2.1 b]? = some cell ∧ cell.vm.isStatics = false ∧ s.vm.findClass C = some cell.cls := by
  obtain ⟨T, N, hc⟩ := hc
  obtain ⟨h6, -⟩ := z_cl hc
  have he : (z_W E mi mr)[b]? = some (E.2.1 b, .inr (ci, z_fs ci (mi b) (z_mp E.2.1 (mr b)))) := by rw [z_W_get ht, z_ce_obj (by show ci < 10; omega)]
  exact va_recv hK hP.1 hc he
theorem z_callV {idx nA ci b : Nat} {As rest : List z_V} (hd : z_D 3 M pc n (.invokevirtual idx)) (hl : z_LV (z_my M).cls idx (z_my M') (z_mc M') (z_mn M') (z_mr M') nA) (hr : z_rm M M' kc ks = true) (hn : As.length = nA) (hst : st = As.reverse ++ zo b :: rest) (hcat : Nat.ble (rest.map z_cat).sum 8 = true) (ht : E.2.2[b]? = some (ci, 0)) (hci : ∃ T N, vwCl[ci]? = some ((z_my M').cls, T, N))
    (hM : z_ct M' E (zo b :: As) mi mr Q0)
    (k : ∀ (v : Option z_V) (E' : z_E) (mi' : z_Mi) (mr' : z_Mr) (b0 : Nat) (p : Program) (l : Launch) (e : Env) (s : State) (m : MethodId) (args : Array Value) (below : List Frame) (meth : Method) (c : Code) (H : Heap) (locs : List Loc) (lsA : Array Slot) (Qm : State → Prop), Q0 v E' mi' mr' → z_C M b0 E.1 p s m args meth c → E'.1 = E.1 → z_P E' mi' mr' H → va_D (z_af b0) (z_W E' mi' mr') → va_S (z_af b0) s.heap H locs → lv_has lsA (z_mn M) (z_L E.2.1 0 ls) → z_K M b0 E.1 p l e s m args below meth c Q Qm →
      W p l e (z_mR M) s m args below meth c H locs (kc + (z_mR M').cells) (ks + (z_mR M').slots) Qm (F0 m n lsA ((v.map (z_cv E'.2.1)).toList ++ rest.map (z_cv E.2.1)))) : z_A M E kc ks pc ls st mi mr Q := by
  intro b0 p l e s m args below meth c H locs lsA Qm hC hP hD hS hL hK
  obtain ⟨hd, rfl⟩ := hd
  subst hst
  obtain ⟨⟨hlk, hcode, hini, hdd⟩, hinst, hsel⟩ := hl
  obtain ⟨r1, r2, r3, r4⟩ := z_rm_of hr
  have hw := hC.2.2.2.2.1
  have CF : CallFix p m c (z_mc M) (z_mn M) s args z_WG (z_my M).cls := ⟨hC.1, hC.2.1, hC.2.2.1, hC.2.2.2.1, hw⟩
  have hpre : PreV s H (z_my M').cls (E.2.1 b) (va_Pc ((zo b :: As).map (z_cv E.2.1)) (z_pc b0 E mi mr)) (As.map (z_cv E.2.1)) := ⟨z_pc_blind, z_recv hC.2.2.2.2.2.2.1 hP ht hci, z_pc_of hC hP hD hS⟩
  have hstk : (As.reverse ++ zo b :: rest).map (z_cv E.2.1) = (As.map (z_cv E.2.1)).reverse ++ .ref (E.2.1 b) :: rest.map (z_cv E.2.1) := by
    rw [List.map_append, List.map_reverse, List.map_cons]; rfl
  have hrm : 2 * (F0 m pc lsA ((As.reverse ++ zo b :: rest).map (z_cv E.2.1))).monitorRoom + ((rest.map (z_cv E.2.1)).map fun v => v.category).sum ≤ 8 := lv_room (by rw [z_cats]; exact Nat.le_of_ble_eq_true hcat)
  have run : va_Run p l e (z_mR M) s m args below meth c H locs kc ks (z_mR M').cells (z_mR M').slots (F0 m pc lsA ((As.reverse ++ zo b :: rest).map (z_cv E.2.1))) (rest.map (z_cv E.2.1)) (z_qc b0 E.1 Q0 (Value.ref (E.2.1 b) :: As.map (z_cv E.2.1)).toArray) (z_af b0) := by
    rcases hlk with hlk | ⟨host, hlk⟩
    · exact va_runV CF (hM l b0) ⟨callB_of nA hw (z_goodws hcode) rfl rfl rfl (hw _ hini) (hw _ hlk) hdd ⟨r1, r2⟩, hw _ hinst, hw _ hsel⟩ hpre rfl (by rw [List.length_map]; exact hn) hL.1 hstk hrm hd ⟨r3, r4⟩
    · exact va_runVN CF (hM l b0) ⟨va_cnB nA hw (z_goodws hcode) rfl rfl rfl (hC.2.2.2.2.2.1 _ hlk) (hw _ hini) hdd ⟨r1, r2⟩, hw _ hinst, hw _ hsel⟩ hpre rfl (by rw [List.length_map]; exact hn) hL.1 hstk hrm hd ⟨r3, r4⟩
  exact z_after run hS (fun v E' mi' mr' H1 locs1 hG hQ hP' hD' hS' => k v E' mi' mr' b0 p l e s m args below meth c H1 locs1 lsA Qm hQ hC hG hP' hD' hS' hL hK)
theorem z_callS {idx nA : Nat} {As rest : List z_V} (hd : z_D 3 M pc n (.invokestatic idx)) (hl : z_LS (z_my M).cls idx (z_my M') (z_mc M') (z_mn M') (z_mr M') nA) (hr : z_rm M M' kc ks = true) (hn : As.length = nA) (hst : st = As.reverse ++ rest) (hcat : Nat.ble (rest.map z_cat).sum 8 = true)
    (hM : z_ct M' E As mi mr Q0)
    (k : ∀ (v : Option z_V) (E' : z_E) (mi' : z_Mi) (mr' : z_Mr) (b0 : Nat) (p : Program) (l : Launch) (e : Env) (s : State) (m : MethodId) (args : Array Value) (below : List Frame) (meth : Method) (c : Code) (H : Heap) (locs : List Loc) (lsA : Array Slot) (Qm : State → Prop), Q0 v E' mi' mr' → z_C M b0 E.1 p s m args meth c → E'.1 = E.1 → z_P E' mi' mr' H → va_D (z_af b0) (z_W E' mi' mr') → va_S (z_af b0) s.heap H locs → lv_has lsA (z_mn M) (z_L E.2.1 0 ls) → z_K M b0 E.1 p l e s m args below meth c Q Qm →
      W p l e (z_mR M) s m args below meth c H locs (kc + (z_mR M').cells) (ks + (z_mR M').slots) Qm (F0 m n lsA ((v.map (z_cv E'.2.1)).toList ++ rest.map (z_cv E.2.1)))) : z_A M E kc ks pc ls st mi mr Q := by
  intro b0 p l e s m args below meth c H locs lsA Qm hC hP hD hS hL hK
  obtain ⟨hd, rfl⟩ := hd
  subst hst
  obtain ⟨⟨hlk, hcode, hini, hdd⟩, hstat⟩ := hl
  obtain ⟨r1, r2, r3, r4⟩ := z_rm_of hr
  have hw := hC.2.2.2.2.1
  have CF : CallFix p m c (z_mc M) (z_mn M) s args z_WG (z_my M).cls := ⟨hC.1, hC.2.1, hC.2.2.1, hC.2.2.2.1, hw⟩
  have hpre : PreS s H (va_Pc (As.map (z_cv E.2.1)) (z_pc b0 E mi mr)) (As.map (z_cv E.2.1)) := ⟨z_pc_blind, z_pc_of hC hP hD hS⟩
  have hstk : (As.reverse ++ rest).map (z_cv E.2.1) = (As.map (z_cv E.2.1)).reverse ++ rest.map (z_cv E.2.1) := by
    rw [List.map_append, List.map_reverse]
  have hrm : 2 * (F0 m pc lsA ((As.reverse ++ rest).map (z_cv E.2.1))).monitorRoom + ((rest.map (z_cv E.2.1)).map fun v => v.category).sum ≤ 8 := lv_room (by rw [z_cats]; exact Nat.le_of_ble_eq_true hcat)
  have run : va_Run p l e (z_mR M) s m args below meth c H locs kc ks (z_mR M').cells (z_mR M').slots (F0 m pc lsA ((As.reverse ++ rest).map (z_cv E.2.1))) (rest.map (z_cv E.2.1)) (z_qc b0 E.1 Q0 (As.map (z_cv E.2.1)).toArray) (z_af b0) := by
    rcases hlk with hlk | ⟨host, hlk⟩
    · exact va_runS CF (hM l b0) ⟨callB_of nA hw (z_goodws hcode) rfl rfl rfl (hw _ hini) (hw _ hlk) hdd ⟨r1, r2⟩, hw _ hstat⟩ hpre rfl (by rw [List.length_map]; exact hn) hL.1 hstk hrm hd ⟨r3, r4⟩
    · exact va_runSN CF (hM l b0) ⟨va_cnB nA hw (z_goodws hcode) rfl rfl rfl (hC.2.2.2.2.2.1 _ hlk) (hw _ hini) hdd ⟨r1, r2⟩, hw _ hstat, trivial⟩ hpre rfl (by rw [List.length_map]; exact hn) hL.1 hstk hrm hd ⟨r3, r4⟩
  exact z_after run hS (fun v E' mi' mr' H1 locs1 hG hQ hP' hD' hS' => k v E' mi' mr' b0 p l e s m args below meth c H1 locs1 lsA Qm hQ hC hG hP' hD' hS' hL hK)
theorem z_callI {idx nA b : Nat} {As rest : List z_V} (hd : z_D 3 M pc n (.invokespecial idx)) (hl : z_LI (z_my M).cls idx (z_my M') (z_mc M') (z_mn M') none nA) (hret : z_mr M' = none) (hr : z_rm M M' kc ks = true) (hn : As.length = nA) (hst : st = As.reverse ++ zo b :: rest) (hcat : Nat.ble (rest.map z_cat).sum 8 = true)
    (hM : z_ct M' E (zo b :: As) mi mr Q0)
    (k : ∀ (v : Option z_V) (E' : z_E) (mi' : z_Mi) (mr' : z_Mr) (b0 : Nat) (p : Program) (l : Launch) (e : Env) (s : State) (m : MethodId) (args : Array Value) (below : List Frame) (meth : Method) (c : Code) (H : Heap) (locs : List Loc) (lsA : Array Slot) (Qm : State → Prop), Q0 v E' mi' mr' → z_C M b0 E.1 p s m args meth c → E'.1 = E.1 → z_P E' mi' mr' H → va_D (z_af b0) (z_W E' mi' mr') → va_S (z_af b0) s.heap H locs → lv_has lsA (z_mn M) (z_L E.2.1 0 ls) → z_K M b0 E.1 p l e s m args below meth c Q Qm →
      W p l e (z_mR M) s m args below meth c H locs (kc + (z_mR M').cells) (ks + (z_mR M').slots) Qm (F0 m n lsA ((v.map (z_cv E'.2.1)).toList ++ rest.map (z_cv E.2.1)))) : z_A M E kc ks pc ls st mi mr Q := by
  intro b0 p l e s m args below meth c H locs lsA Qm hC hP hD hS hL hK
  obtain ⟨hd, rfl⟩ := hd
  subst hst
  obtain ⟨⟨hlk, hcode, hini, hdd⟩, hnm, hinst⟩ := hl
  obtain ⟨r1, r2, r3, r4⟩ := z_rm_of hr
  have hw := hC.2.2.2.2.1
  have CF : CallFix p m c (z_mc M) (z_mn M) s args z_WG (z_my M).cls := ⟨hC.1, hC.2.1, hC.2.2.1, hC.2.2.2.1, hw⟩
  have hpre : PreS s H (va_Pc ((zo b :: As).map (z_cv E.2.1)) (z_pc b0 E mi mr)) (.ref (E.2.1 b) :: As.map (z_cv E.2.1)) := ⟨z_pc_blind, z_pc_of hC hP hD hS⟩
  have hstk : (As.reverse ++ zo b :: rest).map (z_cv E.2.1) = (As.map (z_cv E.2.1)).reverse ++ .ref (E.2.1 b) :: rest.map (z_cv E.2.1) := by
    rw [List.map_append, List.map_reverse, List.map_cons]; rfl
  have hrm : 2 * (F0 m pc lsA ((As.reverse ++ zo b :: rest).map (z_cv E.2.1))).monitorRoom + ((rest.map (z_cv E.2.1)).map fun v => v.category).sum ≤ 8 := lv_room (by rw [z_cats]; exact Nat.le_of_ble_eq_true hcat)
  have hwse : z_ws M' = Cond.code (z_my M') (z_mc M') (z_mn M') none :: z_WG := by rw [z_ws, hret]
  have run : va_Run p l e (z_mR M) s m args below meth c H locs kc ks (z_mR M').cells (z_mR M').slots (F0 m pc lsA ((As.reverse ++ zo b :: rest).map (z_cv E.2.1))) (rest.map (z_cv E.2.1)) (z_qc b0 E.1 Q0 (Value.ref (E.2.1 b) :: As.map (z_cv E.2.1)).toArray) (z_af b0) := by
    rcases hlk with hlk | ⟨host, hlk⟩
    · exact va_runI CF (hM l b0) ⟨callB_of nA hw (z_goodws (by rw [hret]; exact hcode)) hwse rfl rfl (hw _ hini) (hw _ hlk) hdd ⟨r1, r2⟩, hnm, hw _ hinst⟩ hpre rfl (by rw [List.length_map]; exact hn) hL.1 hstk hrm hd ⟨r3, r4⟩
    · exact va_runIN CF (hM l b0) ⟨va_cnB nA hw (z_goodws (by rw [hret]; exact hcode)) hwse rfl rfl (hC.2.2.2.2.2.1 _ hlk) (hw _ hini) hdd ⟨r1, r2⟩, hnm, hw _ hinst⟩ hpre rfl (by rw [List.length_map]; exact hn) hL.1 hstk hrm hd ⟨r3, r4⟩
  exact z_after run hS (fun v E' mi' mr' H1 locs1 hG hQ hP' hD' hS' => k v E' mi' mr' b0 p l e s m args below meth c H1 locs1 lsA Qm hQ hC hG hP' hD' hS' hL hK)
end ZCALL
/-! the four kinds of answers of a method that makes nothing -/
abbrev z_qv (E : z_E) (P : z_Mi → z_Mr → Prop) : z_Q := fun v E' mi mr => E' = E ∧ v = none ∧ P mi mr
abbrev z_qi (E : z_E) (P : Int → z_Mi → z_Mr → Prop) : z_Q := fun v E' mi mr => E' = E ∧ ∃ x, v = some (zi x) ∧ P x mi mr
abbrev z_ql (E : z_E) (P : Int64 → z_Mi → z_Mr → Prop) : z_Q := fun v E' mi mr => E' = E ∧ ∃ x, v = some (zl x) ∧ P x mi mr
abbrev z_qr (E : z_E) (P : Nat → z_Mi → z_Mr → Prop) : z_Q := fun v E' mi mr => E' = E ∧ ∃ x, v = some (zo x) ∧ P x mi mr
def z_mv (M : z_M) (E : z_E) (as : List z_V) (mi : z_Mi) (mr : z_Mr) (P : z_Mi → z_Mr → Prop) : Prop := z_ct M E as mi mr (z_qv E P) ∧ (z_mR M).cells = 0 ∧ (z_mR M).slots = 0
def z_mi (M : z_M) (E : z_E) (as : List z_V) (mi : z_Mi) (mr : z_Mr) (P : Int → z_Mi → z_Mr → Prop) : Prop := z_ct M E as mi mr (z_qi E P) ∧ (z_mR M).cells = 0 ∧ (z_mR M).slots = 0
def z_ml (M : z_M) (E : z_E) (as : List z_V) (mi : z_Mi) (mr : z_Mr) (P : Int64 → z_Mi → z_Mr → Prop) : Prop := z_ct M E as mi mr (z_ql E P) ∧ (z_mR M).cells = 0 ∧ (z_mR M).slots = 0
def z_mf (M : z_M) (E : z_E) (as : List z_V) (mi : z_Mi) (mr : z_Mr) (P : Nat → z_Mi → z_Mr → Prop) : Prop := z_ct M E as mi mr (z_qr E P) ∧ (z_mR M).cells = 0 ∧ (z_mR M).slots = 0
section ZCT
variable {M M' : z_M} {E : z_E} {kc ks pc n : Nat} {ls : List (Option z_V)} {st : List z_V} {mi : z_Mi} {mr : z_Mr} {Q : z_Q}
theorem z_callVv {P : z_Mi → z_Mr → Prop} {idx nA ci b : Nat} {As rest : List z_V} (hd : z_D 3 M pc n (.invokevirtual idx)) (hl : z_LV (z_my M).cls idx (z_my M') (z_mc M') (z_mn M') (z_mr M') nA) (hr : z_rm M M' kc ks = true) (hn : As.length = nA) (hst : st = As.reverse ++ zo b :: rest) (hcat : Nat.ble (rest.map z_cat).sum 8 = true) (ht : E.2.2[b]? = some (ci, 0)) (hci : ∃ T N, vwCl[ci]? = some ((z_my M').cls, T, N)) (hM : z_mv M' E (zo b :: As) mi mr P) (k : ∀ (mi' : z_Mi) (mr' : z_Mr), P mi' mr' → z_A M E kc ks n ls rest mi' mr' Q) : z_A M E kc ks pc ls st mi mr Q := by
  refine z_callV hd hl hr hn hst hcat ht hci hM.1 ?_
  intro v E' mi' mr' b0 p l e s m args below meth c H locs lsA Qm hQ hC hG hP hD hS hL hK
  obtain ⟨rfl, rfl, hQ⟩ := hQ
  rw [hM.2.1, hM.2.2]
  exact k mi' mr' hQ b0 p l e s m args below meth c H locs lsA Qm hC hP hD hS hL hK
theorem z_callVi {P : Int → z_Mi → z_Mr → Prop} {idx nA ci b : Nat} {As rest : List z_V} (hd : z_D 3 M pc n (.invokevirtual idx)) (hl : z_LV (z_my M).cls idx (z_my M') (z_mc M') (z_mn M') (z_mr M') nA) (hr : z_rm M M' kc ks = true) (hn : As.length = nA) (hst : st = As.reverse ++ zo b :: rest) (hcat : Nat.ble (rest.map z_cat).sum 8 = true) (ht : E.2.2[b]? = some (ci, 0)) (hci : ∃ T N, vwCl[ci]? = some ((z_my M').cls, T, N)) (hM : z_mi M' E (zo b :: As) mi mr P) (k : ∀ (x : Int) (mi' : z_Mi) (mr' : z_Mr), P x mi' mr' → z_A M E kc ks n ls (zi x :: rest) mi' mr' Q) : z_A M E kc ks pc ls st mi mr Q := by
  refine z_callV hd hl hr hn hst hcat ht hci hM.1 ?_
  intro v E' mi' mr' b0 p l e s m args below meth c H locs lsA Qm hQ hC hG hP hD hS hL hK
  obtain ⟨rfl, x, rfl, hQ⟩ := hQ
  rw [hM.2.1, hM.2.2]
  exact k x mi' mr' hQ b0 p l e s m args below meth c H locs lsA Qm hC hP hD hS hL hK
theorem z_callVl {P : Int64 → z_Mi → z_Mr → Prop} {idx nA ci b : Nat} {As rest : List z_V} (hd : z_D 3 M pc n (.invokevirtual idx)) (hl : z_LV (z_my M).cls idx (z_my M') (z_mc M') (z_mn M') (z_mr M') nA) (hr : z_rm M M' kc ks = true) (hn : As.length = nA) (hst : st = As.reverse ++ zo b :: rest) (hcat : Nat.ble (rest.map z_cat).sum 8 = true) (ht : E.2.2[b]? = some (ci, 0)) (hci : ∃ T N, vwCl[ci]? = some ((z_my M').cls, T, N)) (hM : z_ml M' E (zo b :: As) mi mr P) (k : ∀ (x : Int64) (mi' : z_Mi) (mr' : z_Mr), P x mi' mr' → z_A M E kc ks n ls (zl x :: rest) mi' mr' Q) : z_A M E kc ks pc ls st mi mr Q := by
  refine z_callV hd hl hr hn hst hcat ht hci hM.1 ?_
  intro v E' mi' mr' b0 p l e s m args below meth c H locs lsA Qm hQ hC hG hP hD hS hL hK
  obtain ⟨rfl, x, rfl, hQ⟩ := hQ
  rw [hM.2.1, hM.2.2]
  exact k x mi' mr' hQ b0 p l e s m args below meth c H locs lsA Qm hC hP hD hS hL hK
theorem z_callVr {P : Nat → z_Mi → z_Mr → Prop} {idx nA ci b : Nat} {As rest : List z_V} (hd : z_D 3 M pc n (.invokevirtual idx)) (hl : z_LV (z_my M).cls idx (z_my M') (z_mc M') (z_mn M') (z_mr M') nA) (hr : z_rm M M' kc ks = true) (hn : As.length = nA) (hst : st = As.reverse ++ zo b :: rest) (hcat : Nat.ble (rest.map z_cat).sum 8 = true) (ht : E.2.2[b]? = some (ci, 0)) (hci : ∃ T N, vwCl[ci]? = some ((z_my M').cls, T, N)) (hM : z_mf M' E (zo b :: As) mi mr P) (k : ∀ (x : Nat) (mi' : z_Mi) (mr' : z_Mr), P x mi' mr' → z_A M E kc ks n ls (zo x :: rest) mi' mr' Q) : z_A M E kc ks pc ls st mi mr Q := by
  refine z_callV hd hl hr hn hst hcat ht hci hM.1 ?_
  intro v E' mi' mr' b0 p l e s m args below meth c H locs lsA Qm hQ hC hG hP hD hS hL hK
  obtain ⟨rfl, x, rfl, hQ⟩ := hQ
  rw [hM.2.1, hM.2.2]
  exact k x mi' mr' hQ b0 p l e s m args below meth c H locs lsA Qm hC hP hD hS hL hK
theorem z_callSv {P : z_Mi → z_Mr → Prop} {idx nA : Nat} {As rest : List z_V} (hd : z_D 3 M pc n (.invokestatic idx)) (hl : z_LS (z_my M).cls idx (z_my M') (z_mc M') (z_mn M') (z_mr M') nA) (hr : z_rm M M' kc ks = true) (hn : As.length = nA) (hst : st = As.reverse ++ rest) (hcat : Nat.ble (rest.map z_cat).sum 8 = true) (hM : z_mv M' E As mi mr P) (k : ∀ (mi' : z_Mi) (mr' : z_Mr), P mi' mr' → z_A M E kc ks n ls rest mi' mr' Q) : z_A M E kc ks pc ls st mi mr Q := by
  refine z_callS hd hl hr hn hst hcat hM.1 ?_
  intro v E' mi' mr' b0 p l e s m args below meth c H locs lsA Qm hQ hC hG hP hD hS hL hK
  obtain ⟨rfl, rfl, hQ⟩ := hQ
  rw [hM.2.1, hM.2.2]
  exact k mi' mr' hQ b0 p l e s m args below meth c H locs lsA Qm hC hP hD hS hL hK
theorem z_callSi {P : Int → z_Mi → z_Mr → Prop} {idx nA : Nat} {As rest : List z_V} (hd : z_D 3 M pc n (.invokestatic idx)) (hl : z_LS (z_my M).cls idx (z_my M') (z_mc M') (z_mn M') (z_mr M') nA) (hr : z_rm M M' kc ks = true) (hn : As.length = nA) (hst : st = As.reverse ++ rest) (hcat : Nat.ble (rest.map z_cat).sum 8 = true) (hM : z_mi M' E As mi mr P) (k : ∀ (x : Int) (mi' : z_Mi) (mr' : z_Mr), P x mi' mr' → z_A M E kc ks n ls (zi x :: rest) mi' mr' Q) : z_A M E kc ks pc ls st mi mr Q := by
  refine z_callS hd hl hr hn hst hcat hM.1 ?_
  intro v E' mi' mr' b0 p l e s m args below meth c H locs lsA Qm hQ hC hG hP hD hS hL hK
  obtain ⟨rfl, x, rfl, hQ⟩ := hQ
  rw [hM.2.1, hM.2.2]
  exact k x mi' mr' hQ b0 p l e s m args below meth c H locs lsA Qm hC hP hD hS hL hK
theorem z_callSl {P : Int64 → z_Mi → z_Mr → Prop} {idx nA : Nat} {As rest : List z_V} (hd : z_D 3 M pc n (.invokestatic idx)) (hl : z_LS (z_my M).cls idx (z_my M') (z_mc M') (z_mn M') (z_mr M') nA) (hr : z_rm M M' kc ks = true) (hn : As.length = nA) (hst : st = As.reverse ++ rest) (hcat : Nat.ble (rest.map z_cat).sum 8 = true) (hM : z_ml M' E As mi mr P) (k : ∀ (x : Int64) (mi' : z_Mi) (mr' : z_Mr), P x mi' mr' → z_A M E kc ks n ls (zl x :: rest) mi' mr' Q) : z_A M E kc ks pc ls st mi mr Q := by
  refine z_callS hd hl hr hn hst hcat hM.1 ?_
  intro v E' mi' mr' b0 p l e s m args below meth c H locs lsA Qm hQ hC hG hP hD hS hL hK
  obtain ⟨rfl, x, rfl, hQ⟩ := hQ
  rw [hM.2.1, hM.2.2]
  exact k x mi' mr' hQ b0 p l e s m args below meth c H locs lsA Qm hC hP hD hS hL hK
theorem z_callSr {P : Nat → z_Mi → z_Mr → Prop} {idx nA : Nat} {As rest : List z_V} (hd : z_D 3 M pc n (.invokestatic idx)) (hl : z_LS (z_my M).cls idx (z_my M') (z_mc M') (z_mn M') (z_mr M') nA) (hr : z_rm M M' kc ks = true) (hn : As.length = nA) (hst : st = As.reverse ++ rest) (hcat : Nat.ble (rest.map z_cat).sum 8 = true) (hM : z_mf M' E As mi mr P) (k : ∀ (x : Nat) (mi' : z_Mi) (mr' : z_Mr), P x mi' mr' → z_A M E kc ks n ls (zo x :: rest) mi' mr' Q) : z_A M E kc ks pc ls st mi mr Q := by
  refine z_callS hd hl hr hn hst hcat hM.1 ?_
  intro v E' mi' mr' b0 p l e s m args below meth c H locs lsA Qm hQ hC hG hP hD hS hL hK
  obtain ⟨rfl, x, rfl, hQ⟩ := hQ
  rw [hM.2.1, hM.2.2]
  exact k x mi' mr' hQ b0 p l e s m args below meth c H locs lsA Qm hC hP hD hS hL hK
theorem z_callIv {P : z_Mi → z_Mr → Prop} {idx nA b : Nat} {As rest : List z_V} (hd : z_D 3 M pc n (.invokespecial idx)) (hl : z_LI (z_my M).cls idx (z_my M') (z_mc M') (z_mn M') none nA) (hret : z_mr M' = none) (hr : z_rm M M' kc ks = true) (hn : As.length = nA) (hst : st = As.reverse ++ zo b :: rest) (hcat : Nat.ble (rest.map z_cat).sum 8 = true) (hM : z_mv M' E (zo b :: As) mi mr P) (k : ∀ (mi' : z_Mi) (mr' : z_Mr), P mi' mr' → z_A M E kc ks n ls rest mi' mr' Q) : z_A M E kc ks pc ls st mi mr Q := by
  refine z_callI hd hl hret hr hn hst hcat hM.1 ?_
  intro v E' mi' mr' b0 p l e s m args below meth c H locs lsA Qm hQ hC hG hP hD hS hL hK
  obtain ⟨rfl, rfl, hQ⟩ := hQ
  rw [hM.2.1, hM.2.2]
  exact k mi' mr' hQ b0 p l e s m args below meth c H locs lsA Qm hC hP hD hS hL hK
end ZCT
theorem z_ofv {M : z_M} {E : z_E} {as : List z_V} {ls : List (Option z_V)} {mi : z_Mi} {mr : z_Mr} {P : z_Mi → z_Mr → Prop} (hy : plainName (z_my M).cls = true) (hE : ∀ s b0, z_mE M s b0) (hc : (z_mR M).cells = 0 ∧ (z_mR M).slots = 0) (hn : (as.map z_cat).sum ≤ z_mn M) (hls : z_en as ++ List.replicate (z_mn M - (as.map z_cat).sum) none = ls) (h : z_A M E 0 0 0 ls [] mi mr (z_qv E P)) : z_mv M E as mi mr P := ⟨z_ct_of hy hE hn hls h, hc.1, hc.2⟩
theorem z_ofi {M : z_M} {E : z_E} {as : List z_V} {ls : List (Option z_V)} {mi : z_Mi} {mr : z_Mr} {P : Int → z_Mi → z_Mr → Prop} (hy : plainName (z_my M).cls = true) (hE : ∀ s b0, z_mE M s b0) (hc : (z_mR M).cells = 0 ∧ (z_mR M).slots = 0) (hn : (as.map z_cat).sum ≤ z_mn M) (hls : z_en as ++ List.replicate (z_mn M - (as.map z_cat).sum) none = ls) (h : z_A M E 0 0 0 ls [] mi mr (z_qi E P)) : z_mi M E as mi mr P := ⟨z_ct_of hy hE hn hls h, hc.1, hc.2⟩
theorem z_ofl {M : z_M} {E : z_E} {as : List z_V} {ls : List (Option z_V)} {mi : z_Mi} {mr : z_Mr} {P : Int64 → z_Mi → z_Mr → Prop} (hy : plainName (z_my M).cls = true) (hE : ∀ s b0, z_mE M s b0) (hc : (z_mR M).cells = 0 ∧ (z_mR M).slots = 0) (hn : (as.map z_cat).sum ≤ z_mn M) (hls : z_en as ++ List.replicate (z_mn M - (as.map z_cat).sum) none = ls) (h : z_A M E 0 0 0 ls [] mi mr (z_ql E P)) : z_ml M E as mi mr P := ⟨z_ct_of hy hE hn hls h, hc.1, hc.2⟩
theorem z_ofr {M : z_M} {E : z_E} {as : List z_V} {ls : List (Option z_V)} {mi : z_Mi} {mr : z_Mr} {P : Nat → z_Mi → z_Mr → Prop} (hy : plainName (z_my M).cls = true) (hE : ∀ s b0, z_mE M s b0) (hc : (z_mR M).cells = 0 ∧ (z_mR M).slots = 0) (hn : (as.map z_cat).sum ≤ z_mn M) (hls : z_en as ++ List.replicate (z_mn M - (as.map z_cat).sum) none = ls) (h : z_A M E 0 0 0 ls [] mi mr (z_qr E P)) : z_mf M E as mi mr P := ⟨z_ct_of hy hE hn hls h, hc.1, hc.2⟩
end
section
section ZMORE
variable {M : z_M} {E : z_E} {kc ks pc n tgt : Nat} {off : Int} {ls : List (Option z_V)} {st : List z_V} {mi : z_Mi} {mr : z_Mr} {Q : z_Q}
/-! switches -/
theorem z_tsOut {len : Nat} {dflt lo hi x : Int} {offs : Array Int} (hd : z_D len M pc n (.tableswitch dflt lo hi offs)) (hx : z_R x) (h : x < lo ∨ hi < x) (ht : (pc : Int) + dflt = (tgt : Int)) (k : z_A M E kc ks tgt ls st mi mr Q) : z_A M E kc ks pc ls (zi x :: st) mi mr Q := by
  intro b0 p l e s m args below meth c H locs lsA Qm hC hP hD hS hL hK
  exact lv_tableOut hC.1 hC.2.1 hd.1 (by rw [z_I_toInt hx]; exact h) ht (k b0 p l e s m args below meth c H locs lsA Qm hC hP hD hS hL hK)
theorem z_tsIn {len : Nat} {dflt lo hi x : Int} {offs : Array Int} (hd : z_D len M pc n (.tableswitch dflt lo hi offs)) (hx : z_R x) (h1 : lo ≤ x) (h2 : x ≤ hi) (ho : offs[(x - lo).toNat]? = some off) (ht : (pc : Int) + off = (tgt : Int)) (k : z_A M E kc ks tgt ls st mi mr Q) : z_A M E kc ks pc ls (zi x :: st) mi mr Q := by
  intro b0 p l e s m args below meth c H locs lsA Qm hC hP hD hS hL hK
  exact lv_tableIn hC.1 hC.2.1 hd.1 (by rw [z_I_toInt hx]; omega) (by rw [z_I_toInt hx]; omega) (by rw [z_I_toInt hx]; exact ho) ht (k b0 p l e s m args below meth c H locs lsA Qm hC hP hD hS hL hK)
theorem z_lsw {len : Nat} {dflt x : Int} {ps : Array (Int × Int)} (hd : z_D len M pc n (.lookupswitch dflt ps)) (hx : z_R x) (hp : (ps.toList.zip (ps.toList.drop 1)).all (fun (a, next) => a.1 < next.1) = true) (ho : Op.lookupswitch.offset ps.toList dflt x = off) (ht : (pc : Int) + off = (tgt : Int)) (k : z_A M E kc ks tgt ls st mi mr Q) : z_A M E kc ks pc ls (zi x :: st) mi mr Q := by
  intro b0 p l e s m args below meth c H locs lsA Qm hC hP hD hS hL hK
  exact lv_lookup hC.1 hC.2.1 hd.1 hp (by rw [z_I_toInt hx]; exact ho) ht (k b0 p l e s m args below meth c H locs lsA Qm hC hP hD hS hL hK)
/-! Math -/
def z_LM (own : String) (idx : Nat) (y : MethodName) (b : ByteArray) (nL : Nat) : Prop := Cond.methodLink own idx y ∈ z_WG ∧ Cond.static y ∈ z_WG ∧ Cond.initialized "java/lang/Math" ∈ z_WG ∧ Cond.code y b nL (some .int) ∈ z_WG
def z_mroom (M : z_M) (kc ks : Nat) : Bool := Nat.ble 1 (z_mR M).frames && (Nat.ble 21 (z_mR M).locals && (Nat.ble kc (z_mR M).cells && Nat.ble ks (z_mR M).slots))
theorem z_mroom_of (h : z_mroom M kc ks = true) : 1 ≤ (z_mR M).frames ∧ 21 ≤ (z_mR M).locals ∧ kc ≤ (z_mR M).cells ∧ ks ≤ (z_mR M).slots := by
  simp only [z_mroom, Bool.and_eq_true] at h
  exact ⟨Nat.le_of_ble_eq_true h.1, Nat.le_of_ble_eq_true h.2.1, Nat.le_of_ble_eq_true h.2.2.1, Nat.le_of_ble_eq_true h.2.2.2⟩
theorem z_max {idx : Nat} {a b x : Int} (hd : z_D 3 M pc n (.invokestatic idx)) (hl : z_LM (z_my M).cls idx Lib.Math.max.name Lib.Math.max.code 2) (hr : z_mroom M kc ks = true) (hcat : Nat.ble (st.map z_cat).sum 8 = true) (ha : z_R a) (hb : z_R b) (hx : (if a < b then b else a) = x) (k : z_A M E kc ks n ls (zi x :: st) mi mr Q) : z_A M E kc ks pc ls (zi b :: zi a :: st) mi mr Q := by
  intro b0 p l e s m args below meth c H locs lsA Qm hC hP hD hS hL hK
  obtain ⟨hd, rfl⟩ := hd
  subst hx
  obtain ⟨r1, r2, r3, r4⟩ := z_mroom_of hr
  have hw := hC.2.2.2.2.1
  have k1 := k b0 p l e s m args below meth c H locs lsA Qm hC hP hD hS hL hK
  have hcat := Nat.le_of_ble_eq_true hcat
  refine va_mmax hC.1 hC.2.1 (hC.2.2.1.trans hL.1.symm) hC.2.2.2.1 (hw _ hl.1) (hw _ hl.2.1) (hw _ hl.2.2.1) (hw _ hl.2.2.2) r1 (by rw [z_cats]; omega) r3 r4 hd ?_
  have e : (if z_I a < z_I b then z_I b else z_I a) = z_I (if a < b then b else a) := by
    by_cases h : a < b
    · rw [if_pos h, if_pos ((z_I_lt ha hb).mpr h)]
    · rw [if_neg h, if_neg (fun q => h ((z_I_lt ha hb).mp q))]
  rw [e]; exact k1
theorem z_min {idx : Nat} {a b x : Int} (hd : z_D 3 M pc n (.invokestatic idx)) (hl : z_LM (z_my M).cls idx Lib.Math.min.name Lib.Math.min.code 2) (hr : z_mroom M kc ks = true) (hcat : Nat.ble (st.map z_cat).sum 8 = true) (ha : z_R a) (hb : z_R b) (hx : (if b < a then b else a) = x) (k : z_A M E kc ks n ls (zi x :: st) mi mr Q) : z_A M E kc ks pc ls (zi b :: zi a :: st) mi mr Q := by
  intro b0 p l e s m args below meth c H locs lsA Qm hC hP hD hS hL hK
  obtain ⟨hd, rfl⟩ := hd
  subst hx
  obtain ⟨r1, r2, r3, r4⟩ := z_mroom_of hr
  have hw := hC.2.2.2.2.1
  have k1 := k b0 p l e s m args below meth c H locs lsA Qm hC hP hD hS hL hK
  have hcat := Nat.le_of_ble_eq_true hcat
  refine va_mmin hC.1 hC.2.1 (hC.2.2.1.trans hL.1.symm) hC.2.2.2.1 (hw _ hl.1) (hw _ hl.2.1) (hw _ hl.2.2.1) (hw _ hl.2.2.2) r1 (by rw [z_cats]; omega) r3 r4 hd ?_
  have e : (if z_I b < z_I a then z_I b else z_I a) = z_I (if b < a then b else a) := by
    by_cases h : b < a
    · rw [if_pos h, if_pos ((z_I_lt hb ha).mpr h)]
    · rw [if_neg h, if_neg (fun q => h ((z_I_lt hb ha).mp q))]
  rw [e]; exact k1
theorem z_abs {idx : Nat} {a x : Int} (hd : z_D 3 M pc n (.invokestatic idx)) (hl : z_LM (z_my M).cls idx Lib.Math.abs.name Lib.Math.abs.code 1) (hr : z_mroom M kc ks = true) (hcat : Nat.ble (st.map z_cat).sum 8 = true) (ha : z_R a) (hx : (if 0 ≤ a then a else 0 - a) = x) (k : z_A M E kc ks n ls (zi x :: st) mi mr Q) : z_A M E kc ks pc ls (zi a :: st) mi mr Q := by
  intro b0 p l e s m args below meth c H locs lsA Qm hC hP hD hS hL hK
  obtain ⟨hd, rfl⟩ := hd
  subst hx
  obtain ⟨r1, r2, r3, r4⟩ := z_mroom_of hr
  have hw := hC.2.2.2.2.1
  have k1 := k b0 p l e s m args below meth c H locs lsA Qm hC hP hD hS hL hK
  have hcat := Nat.le_of_ble_eq_true hcat
  refine va_mabs hC.1 hC.2.1 (hC.2.2.1.trans hL.1.symm) hC.2.2.2.1 (hw _ hl.1) (hw _ hl.2.1) (hw _ hl.2.2.1) (hw _ hl.2.2.2) r1 (by rw [z_cats]; omega) r3 r4 hd ?_
  have e : (if 0 ≤ z_I a then z_I a else 0 - z_I a) = z_I (if 0 ≤ a then a else 0 - a) := by
    rw [← z_I_0, z_I_sub]
    by_cases h : 0 ≤ a
    · rw [if_pos h, if_pos ((z_I_le z_R0 ha).mpr h)]
    · rw [if_neg h, if_neg (fun q => h ((z_I_le z_R0 ha).mp q))]
  rw [e]; exact k1
/-! a copy of the first cells of an array of numbers -/
def z_cpy (f g : Int → Int) (k : Int) : Int → Int := fun j => if 0 ≤ j ∧ j < k then f j else g j
theorem z_copy {idx a0 a n0 n1 : Nat} {cnt : Int} (hd : z_D 3 M pc n (.invokestatic idx)) (h1 : Cond.methodLink (z_my M).cls idx arraycopyName ∈ z_WG) (h2 : Cond.native arraycopyName ∈ z_WG) (h3 : Cond.static arraycopyName ∈ z_WG) (h4 : Cond.initialized "java/lang/System" ∈ z_WG) (hr : Nat.ble 1 (z_mR M).frames = true) (hr2 : Nat.ble (8 + (nativeFrameWords "java/lang/System" "arraycopy" 5 + 11)) (z_mR M).locals = true) (hcat : Nat.ble (st.map z_cat).sum 8 = true)
    (ht0 : E.2.2[a0]? = some (10, n0)) (ht : E.2.2[a]? = some (10, n1)) (hc0 : 0 ≤ cnt) (hc1 : cnt ≤ (n0 : Int)) (hc2 : cnt ≤ (n1 : Int)) (hc3 : cnt ≤ 2147483647)
    (k : z_A M E kc ks n ls st (z_u mi a (z_cpy (mi a0) (mi a) cnt)) mr Q) : z_A M E kc ks pc ls (zi cnt :: zi 0 :: zo a :: zi 0 :: zo a0 :: st) mi mr Q := by
  intro b0 p l e s m args below meth c H locs lsA Qm hC hP hD hS hL hK
  obtain ⟨hd, rfl⟩ := hd
  have hw := hC.2.2.2.2.1
  have he0 : (z_W E mi mr)[a0]? = some (E.2.1 a0, .inl (E.1.2.1, n0, .inl fun j => z_I (mi a0 (j : Nat)))) := by rw [z_W_get ht0, z_ce_i]
  have he : (z_W E mi mr)[a]? = some (E.2.1 a, .inl (E.1.2.1, n1, .inl fun j => z_I (mi a (j : Nat)))) := by rw [z_W_get ht, z_ce_i]
  have e0 : (z_I 0).toNatClampNeg = 0 := by rw [z_I_clamp (by omega) (by omega)]; rfl
  have e1 : (z_I cnt).toNatClampNeg = cnt.toNat := z_I_clamp hc0 hc3
  have n0' : ¬ z_I 0 < 0 := by rw [z_I_0]; decide
  have n1' : ¬ z_I cnt < 0 := by rw [← z_I_0, z_I_lt ⟨by omega, hc3⟩ z_R0]; omega
  have hcat := Nat.le_of_ble_eq_true hcat
  have hr2 := Nat.le_of_ble_eq_true hr2
  refine va_copyi hC.1 hC.2.1 (hC.2.2.1.trans hL.1.symm) hC.2.2.2.1 (hw _ h1) (hw _ h2) (hw _ h3) (hw _ h4) hC.2.2.2.2.2.2.1 hP.1 hD hS a0 a 0 0 he0 he rfl rfl rfl n0' n0' n1' (by rw [e0, e1]; omega) (by rw [e0, e1]; omega) (fun i _ => rfl) (Nat.le_of_ble_eq_true hr) (by rw [z_cats]; omega) hd (fun H1 locs1 g1 g2 g3 => ?_)
  have e5 : va_cpy (fun j : Nat => z_I (mi a0 (j : Nat))) (fun j : Nat => z_I (mi a (j : Nat))) (z_I 0).toNatClampNeg (z_I 0).toNatClampNeg (z_I cnt).toNatClampNeg = fun j : Nat => z_I (z_cpy (mi a0) (mi a) cnt (j : Nat)) := by
    rw [e0, e1]
    funext j
    unfold va_cpy z_cpy
    by_cases h : j < cnt.toNat
    · rw [if_pos ⟨by omega, by omega⟩, if_pos ⟨by omega, by omega⟩]
      show z_I (mi a0 ((0 + (j - 0) : Nat) : Int)) = _
      rw [show 0 + (j - 0) = j by omega]
    · rw [if_neg (by omega), if_neg (by omega)]
  rw [e5] at g1 g2
  have e8 := z_W_set (mi := mi) (mr := mr) (z_cpy (mi a0) (mi a) cnt) (mr a) ht
  rw [z_ce_i, z_uself] at e8
  rw [e8] at g1 g2
  exact k b0 p l e s m args below meth c H1 locs1 lsA Qm hC ⟨g1, hP.2⟩ g2 g3 hL hK
end ZMORE
/-! loops: a measure that falls -/
theorem z_loop {σ : Type} {P : σ → Prop} (I : σ → Prop) (μ : σ → Nat) (hs : ∀ x, I x → (∀ y, I y → μ y < μ x → P y) → P x) : ∀ x, I x → P x := by
  have h : ∀ (k : Nat) (x : σ), μ x = k → I x → P x := by
    intro k
    induction k using Nat.strongRecOn with
    | _ k ih =>
      intro x hx hI
      subst hx
      exact hs x hI (fun y hy hlt => ih (μ y) hlt y rfl hy)
  exact fun x hx => h (μ x) x rfl hx
end
section
theorem z_last_dummy : True := trivial
end
