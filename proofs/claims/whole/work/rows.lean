section
-- ===== PART A: goes FIRST, ahead of the names: the tables' words, and 'selects' of the private methods out of them =====
/-- a private method of a class that the tables say can be made, by its rows of tables_1 -/
def lw_okq (q : MethodName × Nat) : Prop := (q.1.cls ≠ "java/lang/invoke/MethodHandle" ∧ q.1.cls ≠ "java/lang/invoke/VarHandle") ∧ Cond.instantiable q.1.cls q.2 ∈ tables_1 ∧ Cond.privateMethod q.1 ∈ tables_1 ∧ Cond.instanceMethod q.1 ∈ tables_1
theorem lw_p0 : lw_okq (⟨"PouredScreen", "remember", "()LPouredScreen$Sheet;"⟩, 5) := ⟨⟨by decide +kernel, by decide +kernel⟩, List.mem_of_getElem? (i := 10) (by decide +kernel), List.mem_of_getElem? (i := 187) (by decide +kernel), List.mem_of_getElem? (i := 188) (by decide +kernel)⟩
theorem lw_p1 : lw_okq (⟨"PouredScreen", "stateAt", "(I)LPouredScreen$Sheet;"⟩, 5) := ⟨⟨by decide +kernel, by decide +kernel⟩, List.mem_of_getElem? (i := 10) (by decide +kernel), List.mem_of_getElem? (i := 191) (by decide +kernel), List.mem_of_getElem? (i := 192) (by decide +kernel)⟩
theorem lw_p2 : lw_okq (⟨"PouredScreen$Sheet", "goOn", "()Z"⟩, 9) := ⟨⟨by decide +kernel, by decide +kernel⟩, List.mem_of_getElem? (i := 18) (by decide +kernel), List.mem_of_getElem? (i := 225) (by decide +kernel), List.mem_of_getElem? (i := 226) (by decide +kernel)⟩
theorem lw_p3 : lw_okq (⟨"PouredScreen$Sheet", "pushTopRow", "()V"⟩, 9) := ⟨⟨by decide +kernel, by decide +kernel⟩, List.mem_of_getElem? (i := 18) (by decide +kernel), List.mem_of_getElem? (i := 233) (by decide +kernel), List.mem_of_getElem? (i := 234) (by decide +kernel)⟩
theorem lw_p4 : lw_okq (⟨"PouredScreen$Sheet", "carryBlank", "(II)V"⟩, 9) := ⟨⟨by decide +kernel, by decide +kernel⟩, List.mem_of_getElem? (i := 18) (by decide +kernel), List.mem_of_getElem? (i := 241) (by decide +kernel), List.mem_of_getElem? (i := 242) (by decide +kernel)⟩
theorem lw_p5 : lw_okq (⟨"PouredScreen$Sheet", "takeRow", "(I)V"⟩, 9) := ⟨⟨by decide +kernel, by decide +kernel⟩, List.mem_of_getElem? (i := 18) (by decide +kernel), List.mem_of_getElem? (i := 246) (by decide +kernel), List.mem_of_getElem? (i := 247) (by decide +kernel)⟩
theorem lw_p6 : lw_okq (⟨"PouredScreen$Sheet", "unmarkAbove", "(I)V"⟩, 9) := ⟨⟨by decide +kernel, by decide +kernel⟩, List.mem_of_getElem? (i := 18) (by decide +kernel), List.mem_of_getElem? (i := 250) (by decide +kernel), List.mem_of_getElem? (i := 251) (by decide +kernel)⟩
theorem lw_p7 : lw_okq (⟨"PouredScreen$Row", "set", "(II)V"⟩, 3) := ⟨⟨by decide +kernel, by decide +kernel⟩, List.mem_of_getElem? (i := 50) (by decide +kernel), List.mem_of_getElem? (i := 274) (by decide +kernel), List.mem_of_getElem? (i := 275) (by decide +kernel)⟩
theorem lw_p8 : lw_okq (⟨"PouredScreen", "obey", "(I)V"⟩, 5) := ⟨⟨by decide +kernel, by decide +kernel⟩, List.mem_of_getElem? (i := 10) (by decide +kernel), List.mem_of_getElem? (i := 283) (by decide +kernel), List.mem_of_getElem? (i := 284) (by decide +kernel)⟩
theorem lw_p9 : lw_okq (⟨"PouredScreen$Pouring", "rowsBefore", "(LPouredScreen$Sheet;II)I"⟩, 13) := ⟨⟨by decide +kernel, by decide +kernel⟩, List.mem_of_getElem? (i := 117) (by decide +kernel), List.mem_of_getElem? (i := 416) (by decide +kernel), List.mem_of_getElem? (i := 417) (by decide +kernel)⟩
theorem lw_p10 : lw_okq (⟨"PouredScreen$Pouring", "pourLines", "(LPouredScreen$Sheet;LPouredScreen$Sheet;I)V"⟩, 13) := ⟨⟨by decide +kernel, by decide +kernel⟩, List.mem_of_getElem? (i := 117) (by decide +kernel), List.mem_of_getElem? (i := 445) (by decide +kernel), List.mem_of_getElem? (i := 446) (by decide +kernel)⟩
theorem lw_p11 : lw_okq (⟨"PouredScreen$Pouring", "pourLine", "(LPouredScreen$Sheet;I)V"⟩, 13) := ⟨⟨by decide +kernel, by decide +kernel⟩, List.mem_of_getElem? (i := 117) (by decide +kernel), List.mem_of_getElem? (i := 449) (by decide +kernel), List.mem_of_getElem? (i := 450) (by decide +kernel)⟩
theorem lw_p12 : lw_okq (⟨"PouredScreen$Pouring", "follow", "(LPouredScreen$Sheet;LPouredScreen$Place;LPouredScreen$Sheet;LPouredScreen$Place;I)V"⟩, 13) := ⟨⟨by decide +kernel, by decide +kernel⟩, List.mem_of_getElem? (i := 117) (by decide +kernel), List.mem_of_getElem? (i := 454) (by decide +kernel), List.mem_of_getElem? (i := 455) (by decide +kernel)⟩
theorem lw_p13 : lw_okq (⟨"PouredScreen$Pouring", "readUpTo", "(I)Z"⟩, 13) := ⟨⟨by decide +kernel, by decide +kernel⟩, List.mem_of_getElem? (i := 117) (by decide +kernel), List.mem_of_getElem? (i := 479) (by decide +kernel), List.mem_of_getElem? (i := 480) (by decide +kernel)⟩
theorem lw_p14 : lw_okq (⟨"PouredScreen$Sheet", "linesBefore", "(I)I"⟩, 9) := ⟨⟨by decide +kernel, by decide +kernel⟩, List.mem_of_getElem? (i := 18) (by decide +kernel), List.mem_of_getElem? (i := 532) (by decide +kernel), List.mem_of_getElem? (i := 533) (by decide +kernel)⟩
theorem lw_p15 : lw_okq (⟨"PouredScreen", "mixRows", "(J)J"⟩, 5) := ⟨⟨by decide +kernel, by decide +kernel⟩, List.mem_of_getElem? (i := 10) (by decide +kernel), List.mem_of_getElem? (i := 569) (by decide +kernel), List.mem_of_getElem? (i := 570) (by decide +kernel)⟩
def lw_privs_1 : List (MethodName × Nat) := [(⟨"PouredScreen", "remember", "()LPouredScreen$Sheet;"⟩, 5), (⟨"PouredScreen", "stateAt", "(I)LPouredScreen$Sheet;"⟩, 5), (⟨"PouredScreen$Sheet", "goOn", "()Z"⟩, 9), (⟨"PouredScreen$Sheet", "pushTopRow", "()V"⟩, 9), (⟨"PouredScreen$Sheet", "carryBlank", "(II)V"⟩, 9), (⟨"PouredScreen$Sheet", "takeRow", "(I)V"⟩, 9), (⟨"PouredScreen$Sheet", "unmarkAbove", "(I)V"⟩, 9), (⟨"PouredScreen$Row", "set", "(II)V"⟩, 3), (⟨"PouredScreen", "obey", "(I)V"⟩, 5), (⟨"PouredScreen$Pouring", "rowsBefore", "(LPouredScreen$Sheet;II)I"⟩, 13), (⟨"PouredScreen$Pouring", "pourLines", "(LPouredScreen$Sheet;LPouredScreen$Sheet;I)V"⟩, 13), (⟨"PouredScreen$Pouring", "pourLine", "(LPouredScreen$Sheet;I)V"⟩, 13), (⟨"PouredScreen$Pouring", "follow", "(LPouredScreen$Sheet;LPouredScreen$Place;LPouredScreen$Sheet;LPouredScreen$Place;I)V"⟩, 13), (⟨"PouredScreen$Pouring", "readUpTo", "(I)Z"⟩, 13), (⟨"PouredScreen$Sheet", "linesBefore", "(I)I"⟩, 9), (⟨"PouredScreen", "mixRows", "(J)J"⟩, 5)]
theorem lw_r1 : ∀ q ∈ lw_privs_1, lw_okq q := List.forall_mem_cons.mpr ⟨lw_p0, List.forall_mem_cons.mpr ⟨lw_p1, List.forall_mem_cons.mpr ⟨lw_p2, List.forall_mem_cons.mpr ⟨lw_p3, List.forall_mem_cons.mpr ⟨lw_p4, List.forall_mem_cons.mpr ⟨lw_p5, List.forall_mem_cons.mpr ⟨lw_p6, List.forall_mem_cons.mpr ⟨lw_p7, List.forall_mem_cons.mpr ⟨lw_p8, List.forall_mem_cons.mpr ⟨lw_p9, List.forall_mem_cons.mpr ⟨lw_p10, List.forall_mem_cons.mpr ⟨lw_p11, List.forall_mem_cons.mpr ⟨lw_p12, List.forall_mem_cons.mpr ⟨lw_p13, List.forall_mem_cons.mpr ⟨lw_p14, List.forall_mem_cons.mpr ⟨lw_p15, fun _ h => absurd h List.not_mem_nil⟩⟩⟩⟩⟩⟩⟩⟩⟩⟩⟩⟩⟩⟩⟩⟩
theorem lw_p16 : lw_okq (⟨"PouredScreen", "mixCells", "(J)J"⟩, 5) := ⟨⟨by decide +kernel, by decide +kernel⟩, List.mem_of_getElem? (i := 10) (by decide +kernel), List.mem_of_getElem? (i := 574) (by decide +kernel), List.mem_of_getElem? (i := 575) (by decide +kernel)⟩
theorem lw_p17 : lw_okq (⟨"PouredScreen", "mixLines", "(J)J"⟩, 5) := ⟨⟨by decide +kernel, by decide +kernel⟩, List.mem_of_getElem? (i := 10) (by decide +kernel), List.mem_of_getElem? (i := 579) (by decide +kernel), List.mem_of_getElem? (i := 580) (by decide +kernel)⟩
theorem lw_p18 : lw_okq (⟨"PouredScreen", "mixCursors", "(J)J"⟩, 5) := ⟨⟨by decide +kernel, by decide +kernel⟩, List.mem_of_getElem? (i := 10) (by decide +kernel), List.mem_of_getElem? (i := 586) (by decide +kernel), List.mem_of_getElem? (i := 587) (by decide +kernel)⟩
theorem lw_p19 : lw_okq (⟨"PouredScreenModel", "blanks", "(I)V"⟩, 13) := ⟨⟨by decide +kernel, by decide +kernel⟩, List.mem_of_getElem? (i := 592) (by decide +kernel), List.mem_of_getElem? (i := 598) (by decide +kernel), List.mem_of_getElem? (i := 599) (by decide +kernel)⟩
theorem lw_p20 : lw_okq (⟨"PouredScreenModel", "unwraps", "(I)V"⟩, 13) := ⟨⟨by decide +kernel, by decide +kernel⟩, List.mem_of_getElem? (i := 592) (by decide +kernel), List.mem_of_getElem? (i := 605) (by decide +kernel), List.mem_of_getElem? (i := 606) (by decide +kernel)⟩
theorem lw_p21 : lw_okq (⟨"PouredScreenModel", "records", "()V"⟩, 13) := ⟨⟨by decide +kernel, by decide +kernel⟩, List.mem_of_getElem? (i := 592) (by decide +kernel), List.mem_of_getElem? (i := 657) (by decide +kernel), List.mem_of_getElem? (i := 658) (by decide +kernel)⟩
theorem lw_p22 : lw_okq (⟨"PouredScreenModel", "moves", "(I)V"⟩, 13) := ⟨⟨by decide +kernel, by decide +kernel⟩, List.mem_of_getElem? (i := 592) (by decide +kernel), List.mem_of_getElem? (i := 661) (by decide +kernel), List.mem_of_getElem? (i := 662) (by decide +kernel)⟩
theorem lw_p23 : lw_okq (⟨"PouredScreenModel", "feedsLine", "()Z"⟩, 13) := ⟨⟨by decide +kernel, by decide +kernel⟩, List.mem_of_getElem? (i := 592) (by decide +kernel), List.mem_of_getElem? (i := 665) (by decide +kernel), List.mem_of_getElem? (i := 666) (by decide +kernel)⟩
theorem lw_p24 : lw_okq (⟨"PouredScreenModel", "scrolls", "()V"⟩, 13) := ⟨⟨by decide +kernel, by decide +kernel⟩, List.mem_of_getElem? (i := 592) (by decide +kernel), List.mem_of_getElem? (i := 669) (by decide +kernel), List.mem_of_getElem? (i := 670) (by decide +kernel)⟩
theorem lw_p25 : lw_okq (⟨"PouredScreenModel", "keepsRow", "(I)V"⟩, 13) := ⟨⟨by decide +kernel, by decide +kernel⟩, List.mem_of_getElem? (i := 592) (by decide +kernel), List.mem_of_getElem? (i := 673) (by decide +kernel), List.mem_of_getElem? (i := 674) (by decide +kernel)⟩
theorem lw_p26 : lw_okq (⟨"PouredScreenModel", "copies", "(II)V"⟩, 13) := ⟨⟨by decide +kernel, by decide +kernel⟩, List.mem_of_getElem? (i := 592) (by decide +kernel), List.mem_of_getElem? (i := 677) (by decide +kernel), List.mem_of_getElem? (i := 678) (by decide +kernel)⟩
theorem lw_p27 : lw_okq (⟨"PouredScreenModel", "unwrapsAhead", "(I)V"⟩, 13) := ⟨⟨by decide +kernel, by decide +kernel⟩, List.mem_of_getElem? (i := 592) (by decide +kernel), List.mem_of_getElem? (i := 681) (by decide +kernel), List.mem_of_getElem? (i := 682) (by decide +kernel)⟩
theorem lw_p28 : lw_okq (⟨"PouredScreenModel", "writes", "(I)V"⟩, 13) := ⟨⟨by decide +kernel, by decide +kernel⟩, List.mem_of_getElem? (i := 592) (by decide +kernel), List.mem_of_getElem? (i := 685) (by decide +kernel), List.mem_of_getElem? (i := 686) (by decide +kernel)⟩
theorem lw_p29 : lw_okq (⟨"PouredScreenModel", "goesOn", "(Z)V"⟩, 13) := ⟨⟨by decide +kernel, by decide +kernel⟩, List.mem_of_getElem? (i := 592) (by decide +kernel), List.mem_of_getElem? (i := 689) (by decide +kernel), List.mem_of_getElem? (i := 690) (by decide +kernel)⟩
theorem lw_p30 : lw_okq (⟨"PouredScreenModel", "erases", "(III)V"⟩, 13) := ⟨⟨by decide +kernel, by decide +kernel⟩, List.mem_of_getElem? (i := 592) (by decide +kernel), List.mem_of_getElem? (i := 696) (by decide +kernel), List.mem_of_getElem? (i := 697) (by decide +kernel)⟩
theorem lw_p31 : lw_okq (⟨"PouredScreenModel", "frees", "(III)V"⟩, 13) := ⟨⟨by decide +kernel, by decide +kernel⟩, List.mem_of_getElem? (i := 592) (by decide +kernel), List.mem_of_getElem? (i := 700) (by decide +kernel), List.mem_of_getElem? (i := 701) (by decide +kernel)⟩
def lw_privs_2 : List (MethodName × Nat) := [(⟨"PouredScreen", "mixCells", "(J)J"⟩, 5), (⟨"PouredScreen", "mixLines", "(J)J"⟩, 5), (⟨"PouredScreen", "mixCursors", "(J)J"⟩, 5), (⟨"PouredScreenModel", "blanks", "(I)V"⟩, 13), (⟨"PouredScreenModel", "unwraps", "(I)V"⟩, 13), (⟨"PouredScreenModel", "records", "()V"⟩, 13), (⟨"PouredScreenModel", "moves", "(I)V"⟩, 13), (⟨"PouredScreenModel", "feedsLine", "()Z"⟩, 13), (⟨"PouredScreenModel", "scrolls", "()V"⟩, 13), (⟨"PouredScreenModel", "keepsRow", "(I)V"⟩, 13), (⟨"PouredScreenModel", "copies", "(II)V"⟩, 13), (⟨"PouredScreenModel", "unwrapsAhead", "(I)V"⟩, 13), (⟨"PouredScreenModel", "writes", "(I)V"⟩, 13), (⟨"PouredScreenModel", "goesOn", "(Z)V"⟩, 13), (⟨"PouredScreenModel", "erases", "(III)V"⟩, 13), (⟨"PouredScreenModel", "frees", "(III)V"⟩, 13)]
theorem lw_r2 : ∀ q ∈ lw_privs_2, lw_okq q := List.forall_mem_cons.mpr ⟨lw_p16, List.forall_mem_cons.mpr ⟨lw_p17, List.forall_mem_cons.mpr ⟨lw_p18, List.forall_mem_cons.mpr ⟨lw_p19, List.forall_mem_cons.mpr ⟨lw_p20, List.forall_mem_cons.mpr ⟨lw_p21, List.forall_mem_cons.mpr ⟨lw_p22, List.forall_mem_cons.mpr ⟨lw_p23, List.forall_mem_cons.mpr ⟨lw_p24, List.forall_mem_cons.mpr ⟨lw_p25, List.forall_mem_cons.mpr ⟨lw_p26, List.forall_mem_cons.mpr ⟨lw_p27, List.forall_mem_cons.mpr ⟨lw_p28, List.forall_mem_cons.mpr ⟨lw_p29, List.forall_mem_cons.mpr ⟨lw_p30, List.forall_mem_cons.mpr ⟨lw_p31, fun _ h => absurd h List.not_mem_nil⟩⟩⟩⟩⟩⟩⟩⟩⟩⟩⟩⟩⟩⟩⟩⟩
theorem lw_p32 : lw_okq (⟨"PouredScreenModel", "code", "(II)I"⟩, 13) := ⟨⟨by decide +kernel, by decide +kernel⟩, List.mem_of_getElem? (i := 592) (by decide +kernel), List.mem_of_getElem? (i := 704) (by decide +kernel), List.mem_of_getElem? (i := 705) (by decide +kernel)⟩
theorem lw_p33 : lw_okq (⟨"PouredScreenModel", "sets", "(III)V"⟩, 13) := ⟨⟨by decide +kernel, by decide +kernel⟩, List.mem_of_getElem? (i := 592) (by decide +kernel), List.mem_of_getElem? (i := 711) (by decide +kernel), List.mem_of_getElem? (i := 712) (by decide +kernel)⟩
theorem lw_p34 : lw_okq (⟨"PouredScreenModel", "isRow", "(I)Z"⟩, 13) := ⟨⟨by decide +kernel, by decide +kernel⟩, List.mem_of_getElem? (i := 592) (by decide +kernel), List.mem_of_getElem? (i := 719) (by decide +kernel), List.mem_of_getElem? (i := 720) (by decide +kernel)⟩
theorem lw_p35 : lw_okq (⟨"PouredScreenModel", "isColumn", "(I)Z"⟩, 13) := ⟨⟨by decide +kernel, by decide +kernel⟩, List.mem_of_getElem? (i := 592) (by decide +kernel), List.mem_of_getElem? (i := 723) (by decide +kernel), List.mem_of_getElem? (i := 724) (by decide +kernel)⟩
theorem lw_p36 : lw_okq (⟨"PouredScreenModel", "goes", "(II)V"⟩, 13) := ⟨⟨by decide +kernel, by decide +kernel⟩, List.mem_of_getElem? (i := 592) (by decide +kernel), List.mem_of_getElem? (i := 727) (by decide +kernel), List.mem_of_getElem? (i := 728) (by decide +kernel)⟩
theorem lw_p37 : lw_okq (⟨"PouredScreenModel", "filledAll", "()I"⟩, 13) := ⟨⟨by decide +kernel, by decide +kernel⟩, List.mem_of_getElem? (i := 592) (by decide +kernel), List.mem_of_getElem? (i := 739) (by decide +kernel), List.mem_of_getElem? (i := 740) (by decide +kernel)⟩
theorem lw_p38 : lw_okq (⟨"PouredScreenModel", "filled", "(I)I"⟩, 13) := ⟨⟨by decide +kernel, by decide +kernel⟩, List.mem_of_getElem? (i := 592) (by decide +kernel), List.mem_of_getElem? (i := 743) (by decide +kernel), List.mem_of_getElem? (i := 744) (by decide +kernel)⟩
theorem lw_p39 : lw_okq (⟨"PouredScreenModel", "erasesLine", "(I)V"⟩, 13) := ⟨⟨by decide +kernel, by decide +kernel⟩, List.mem_of_getElem? (i := 592) (by decide +kernel), List.mem_of_getElem? (i := 747) (by decide +kernel), List.mem_of_getElem? (i := 748) (by decide +kernel)⟩
theorem lw_p40 : lw_okq (⟨"PouredScreenModel", "isInRegion", "()Z"⟩, 13) := ⟨⟨by decide +kernel, by decide +kernel⟩, List.mem_of_getElem? (i := 592) (by decide +kernel), List.mem_of_getElem? (i := 759) (by decide +kernel), List.mem_of_getElem? (i := 760) (by decide +kernel)⟩
theorem lw_p41 : lw_okq (⟨"PouredScreenModel", "filledRows", "(II)I"⟩, 13) := ⟨⟨by decide +kernel, by decide +kernel⟩, List.mem_of_getElem? (i := 592) (by decide +kernel), List.mem_of_getElem? (i := 763) (by decide +kernel), List.mem_of_getElem? (i := 764) (by decide +kernel)⟩
theorem lw_p42 : lw_okq (⟨"PouredScreenModel", "splits", "(Z)V"⟩, 13) := ⟨⟨by decide +kernel, by decide +kernel⟩, List.mem_of_getElem? (i := 592) (by decide +kernel), List.mem_of_getElem? (i := 775) (by decide +kernel), List.mem_of_getElem? (i := 776) (by decide +kernel)⟩
theorem lw_p43 : lw_okq (⟨"PouredScreenModel", "counted", "()I"⟩, 13) := ⟨⟨by decide +kernel, by decide +kernel⟩, List.mem_of_getElem? (i := 592) (by decide +kernel), List.mem_of_getElem? (i := 795) (by decide +kernel), List.mem_of_getElem? (i := 796) (by decide +kernel)⟩
theorem lw_p44 : lw_okq (⟨"PouredScreenModel", "lineBegin", "(II)I"⟩, 13) := ⟨⟨by decide +kernel, by decide +kernel⟩, List.mem_of_getElem? (i := 592) (by decide +kernel), List.mem_of_getElem? (i := 799) (by decide +kernel), List.mem_of_getElem? (i := 800) (by decide +kernel)⟩
theorem lw_p45 : lw_okq (⟨"PouredScreenModel", "lineEnd", "(II)I"⟩, 13) := ⟨⟨by decide +kernel, by decide +kernel⟩, List.mem_of_getElem? (i := 592) (by decide +kernel), List.mem_of_getElem? (i := 803) (by decide +kernel), List.mem_of_getElem? (i := 804) (by decide +kernel)⟩
theorem lw_p46 : lw_okq (⟨"PouredScreenModel", "slot", "(I)I"⟩, 13) := ⟨⟨by decide +kernel, by decide +kernel⟩, List.mem_of_getElem? (i := 592) (by decide +kernel), List.mem_of_getElem? (i := 807) (by decide +kernel), List.mem_of_getElem? (i := 808) (by decide +kernel)⟩
theorem lw_p47 : lw_okq (⟨"PouredScreenModel", "isIt", "(II)Z"⟩, 13) := ⟨⟨by decide +kernel, by decide +kernel⟩, List.mem_of_getElem? (i := 592) (by decide +kernel), List.mem_of_getElem? (i := 811) (by decide +kernel), List.mem_of_getElem? (i := 812) (by decide +kernel)⟩
def lw_privs_3 : List (MethodName × Nat) := [(⟨"PouredScreenModel", "code", "(II)I"⟩, 13), (⟨"PouredScreenModel", "sets", "(III)V"⟩, 13), (⟨"PouredScreenModel", "isRow", "(I)Z"⟩, 13), (⟨"PouredScreenModel", "isColumn", "(I)Z"⟩, 13), (⟨"PouredScreenModel", "goes", "(II)V"⟩, 13), (⟨"PouredScreenModel", "filledAll", "()I"⟩, 13), (⟨"PouredScreenModel", "filled", "(I)I"⟩, 13), (⟨"PouredScreenModel", "erasesLine", "(I)V"⟩, 13), (⟨"PouredScreenModel", "isInRegion", "()Z"⟩, 13), (⟨"PouredScreenModel", "filledRows", "(II)I"⟩, 13), (⟨"PouredScreenModel", "splits", "(Z)V"⟩, 13), (⟨"PouredScreenModel", "counted", "()I"⟩, 13), (⟨"PouredScreenModel", "lineBegin", "(II)I"⟩, 13), (⟨"PouredScreenModel", "lineEnd", "(II)I"⟩, 13), (⟨"PouredScreenModel", "slot", "(I)I"⟩, 13), (⟨"PouredScreenModel", "isIt", "(II)Z"⟩, 13)]
theorem lw_r3 : ∀ q ∈ lw_privs_3, lw_okq q := List.forall_mem_cons.mpr ⟨lw_p32, List.forall_mem_cons.mpr ⟨lw_p33, List.forall_mem_cons.mpr ⟨lw_p34, List.forall_mem_cons.mpr ⟨lw_p35, List.forall_mem_cons.mpr ⟨lw_p36, List.forall_mem_cons.mpr ⟨lw_p37, List.forall_mem_cons.mpr ⟨lw_p38, List.forall_mem_cons.mpr ⟨lw_p39, List.forall_mem_cons.mpr ⟨lw_p40, List.forall_mem_cons.mpr ⟨lw_p41, List.forall_mem_cons.mpr ⟨lw_p42, List.forall_mem_cons.mpr ⟨lw_p43, List.forall_mem_cons.mpr ⟨lw_p44, List.forall_mem_cons.mpr ⟨lw_p45, List.forall_mem_cons.mpr ⟨lw_p46, List.forall_mem_cons.mpr ⟨lw_p47, fun _ h => absurd h List.not_mem_nil⟩⟩⟩⟩⟩⟩⟩⟩⟩⟩⟩⟩⟩⟩⟩⟩
theorem lw_p48 : lw_okq (⟨"PouredScreenModel", "lineOf", "(III)I"⟩, 13) := ⟨⟨by decide +kernel, by decide +kernel⟩, List.mem_of_getElem? (i := 592) (by decide +kernel), List.mem_of_getElem? (i := 815) (by decide +kernel), List.mem_of_getElem? (i := 816) (by decide +kernel)⟩
theorem lw_p49 : lw_okq (⟨"PouredScreenModel", "signsOf", "(II)I"⟩, 13) := ⟨⟨by decide +kernel, by decide +kernel⟩, List.mem_of_getElem? (i := 592) (by decide +kernel), List.mem_of_getElem? (i := 819) (by decide +kernel), List.mem_of_getElem? (i := 820) (by decide +kernel)⟩
theorem lw_p50 : lw_okq (⟨"PouredScreenModel", "cellsOf", "(II)I"⟩, 13) := ⟨⟨by decide +kernel, by decide +kernel⟩, List.mem_of_getElem? (i := 592) (by decide +kernel), List.mem_of_getElem? (i := 823) (by decide +kernel), List.mem_of_getElem? (i := 824) (by decide +kernel)⟩
theorem lw_p51 : lw_okq (⟨"PouredScreenModel", "usedCells", "(I)I"⟩, 13) := ⟨⟨by decide +kernel, by decide +kernel⟩, List.mem_of_getElem? (i := 592) (by decide +kernel), List.mem_of_getElem? (i := 827) (by decide +kernel), List.mem_of_getElem? (i := 828) (by decide +kernel)⟩
theorem lw_p52 : lw_okq (⟨"PouredScreenModel", "signsIn", "(II)I"⟩, 13) := ⟨⟨by decide +kernel, by decide +kernel⟩, List.mem_of_getElem? (i := 592) (by decide +kernel), List.mem_of_getElem? (i := 831) (by decide +kernel), List.mem_of_getElem? (i := 832) (by decide +kernel)⟩
theorem lw_p53 : lw_okq (⟨"PouredScreenModel", "signOf", "(III)I"⟩, 13) := ⟨⟨by decide +kernel, by decide +kernel⟩, List.mem_of_getElem? (i := 592) (by decide +kernel), List.mem_of_getElem? (i := 839) (by decide +kernel), List.mem_of_getElem? (i := 840) (by decide +kernel)⟩
theorem lw_p54 : lw_okq (⟨"PouredScreenModel", "cursorOf", "(II)I"⟩, 13) := ⟨⟨by decide +kernel, by decide +kernel⟩, List.mem_of_getElem? (i := 592) (by decide +kernel), List.mem_of_getElem? (i := 847) (by decide +kernel), List.mem_of_getElem? (i := 848) (by decide +kernel)⟩
theorem lw_p55 : lw_okq (⟨"PouredScreenModel", "columnOf", "(I)I"⟩, 13) := ⟨⟨by decide +kernel, by decide +kernel⟩, List.mem_of_getElem? (i := 592) (by decide +kernel), List.mem_of_getElem? (i := 851) (by decide +kernel), List.mem_of_getElem? (i := 852) (by decide +kernel)⟩
theorem lw_p56 : lw_okq (⟨"PouredScreenModel", "rowOf", "(I)I"⟩, 13) := ⟨⟨by decide +kernel, by decide +kernel⟩, List.mem_of_getElem? (i := 592) (by decide +kernel), List.mem_of_getElem? (i := 855) (by decide +kernel), List.mem_of_getElem? (i := 856) (by decide +kernel)⟩
theorem lw_p57 : lw_okq (⟨"PouredScreenModel", "lineAt", "(I)I"⟩, 13) := ⟨⟨by decide +kernel, by decide +kernel⟩, List.mem_of_getElem? (i := 592) (by decide +kernel), List.mem_of_getElem? (i := 859) (by decide +kernel), List.mem_of_getElem? (i := 860) (by decide +kernel)⟩
theorem lw_p58 : lw_okq (⟨"PouredScreenModel", "markOf", "(II)I"⟩, 13) := ⟨⟨by decide +kernel, by decide +kernel⟩, List.mem_of_getElem? (i := 592) (by decide +kernel), List.mem_of_getElem? (i := 863) (by decide +kernel), List.mem_of_getElem? (i := 864) (by decide +kernel)⟩
theorem lw_p59 : lw_okq (⟨"PouredScreenModel", "rowsWith", "(I)I"⟩, 13) := ⟨⟨by decide +kernel, by decide +kernel⟩, List.mem_of_getElem? (i := 592) (by decide +kernel), List.mem_of_getElem? (i := 871) (by decide +kernel), List.mem_of_getElem? (i := 872) (by decide +kernel)⟩
theorem lw_p60 : lw_okq (⟨"PouredScreenModel", "poursAll", "()I"⟩, 13) := ⟨⟨by decide +kernel, by decide +kernel⟩, List.mem_of_getElem? (i := 592) (by decide +kernel), List.mem_of_getElem? (i := 875) (by decide +kernel), List.mem_of_getElem? (i := 876) (by decide +kernel)⟩
theorem lw_p61 : lw_okq (⟨"PouredScreenModel", "pours", "(I)V"⟩, 13) := ⟨⟨by decide +kernel, by decide +kernel⟩, List.mem_of_getElem? (i := 592) (by decide +kernel), List.mem_of_getElem? (i := 879) (by decide +kernel), List.mem_of_getElem? (i := 880) (by decide +kernel)⟩
theorem lw_p62 : lw_okq (⟨"PouredScreenModel", "lays", "(II)V"⟩, 13) := ⟨⟨by decide +kernel, by decide +kernel⟩, List.mem_of_getElem? (i := 592) (by decide +kernel), List.mem_of_getElem? (i := 883) (by decide +kernel), List.mem_of_getElem? (i := 884) (by decide +kernel)⟩
theorem lw_p63 : lw_okq (⟨"PouredScreenModel", "meets", "(II)V"⟩, 13) := ⟨⟨by decide +kernel, by decide +kernel⟩, List.mem_of_getElem? (i := 592) (by decide +kernel), List.mem_of_getElem? (i := 887) (by decide +kernel), List.mem_of_getElem? (i := 888) (by decide +kernel)⟩
def lw_privs_4 : List (MethodName × Nat) := [(⟨"PouredScreenModel", "lineOf", "(III)I"⟩, 13), (⟨"PouredScreenModel", "signsOf", "(II)I"⟩, 13), (⟨"PouredScreenModel", "cellsOf", "(II)I"⟩, 13), (⟨"PouredScreenModel", "usedCells", "(I)I"⟩, 13), (⟨"PouredScreenModel", "signsIn", "(II)I"⟩, 13), (⟨"PouredScreenModel", "signOf", "(III)I"⟩, 13), (⟨"PouredScreenModel", "cursorOf", "(II)I"⟩, 13), (⟨"PouredScreenModel", "columnOf", "(I)I"⟩, 13), (⟨"PouredScreenModel", "rowOf", "(I)I"⟩, 13), (⟨"PouredScreenModel", "lineAt", "(I)I"⟩, 13), (⟨"PouredScreenModel", "markOf", "(II)I"⟩, 13), (⟨"PouredScreenModel", "rowsWith", "(I)I"⟩, 13), (⟨"PouredScreenModel", "poursAll", "()I"⟩, 13), (⟨"PouredScreenModel", "pours", "(I)V"⟩, 13), (⟨"PouredScreenModel", "lays", "(II)V"⟩, 13), (⟨"PouredScreenModel", "meets", "(II)V"⟩, 13)]
theorem lw_r4 : ∀ q ∈ lw_privs_4, lw_okq q := List.forall_mem_cons.mpr ⟨lw_p48, List.forall_mem_cons.mpr ⟨lw_p49, List.forall_mem_cons.mpr ⟨lw_p50, List.forall_mem_cons.mpr ⟨lw_p51, List.forall_mem_cons.mpr ⟨lw_p52, List.forall_mem_cons.mpr ⟨lw_p53, List.forall_mem_cons.mpr ⟨lw_p54, List.forall_mem_cons.mpr ⟨lw_p55, List.forall_mem_cons.mpr ⟨lw_p56, List.forall_mem_cons.mpr ⟨lw_p57, List.forall_mem_cons.mpr ⟨lw_p58, List.forall_mem_cons.mpr ⟨lw_p59, List.forall_mem_cons.mpr ⟨lw_p60, List.forall_mem_cons.mpr ⟨lw_p61, List.forall_mem_cons.mpr ⟨lw_p62, List.forall_mem_cons.mpr ⟨lw_p63, fun _ h => absurd h List.not_mem_nil⟩⟩⟩⟩⟩⟩⟩⟩⟩⟩⟩⟩⟩⟩⟩⟩
theorem lw_p64 : lw_okq (⟨"PouredScreenModel", "ends", "(II)V"⟩, 13) := ⟨⟨by decide +kernel, by decide +kernel⟩, List.mem_of_getElem? (i := 592) (by decide +kernel), List.mem_of_getElem? (i := 891) (by decide +kernel), List.mem_of_getElem? (i := 892) (by decide +kernel)⟩
theorem lw_p65 : lw_okq (⟨"PouredScreenModel", "marks", "()V"⟩, 13) := ⟨⟨by decide +kernel, by decide +kernel⟩, List.mem_of_getElem? (i := 592) (by decide +kernel), List.mem_of_getElem? (i := 903) (by decide +kernel), List.mem_of_getElem? (i := 904) (by decide +kernel)⟩
theorem lw_p66 : lw_okq (⟨"PouredScreenModel", "takes", "(II)V"⟩, 13) := ⟨⟨by decide +kernel, by decide +kernel⟩, List.mem_of_getElem? (i := 592) (by decide +kernel), List.mem_of_getElem? (i := 907) (by decide +kernel), List.mem_of_getElem? (i := 908) (by decide +kernel)⟩
theorem lw_p67 : lw_okq (⟨"PouredScreenModel", "lands", "(I)V"⟩, 13) := ⟨⟨by decide +kernel, by decide +kernel⟩, List.mem_of_getElem? (i := 592) (by decide +kernel), List.mem_of_getElem? (i := 911) (by decide +kernel), List.mem_of_getElem? (i := 912) (by decide +kernel)⟩
theorem lw_p68 : lw_okq (⟨"PouredScreenModel", "rowOfSlot", "(II)I"⟩, 13) := ⟨⟨by decide +kernel, by decide +kernel⟩, List.mem_of_getElem? (i := 592) (by decide +kernel), List.mem_of_getElem? (i := 923) (by decide +kernel), List.mem_of_getElem? (i := 924) (by decide +kernel)⟩
theorem lw_p69 : lw_okq (⟨"PouredScreenModel", "signsFilled", "(I)I"⟩, 13) := ⟨⟨by decide +kernel, by decide +kernel⟩, List.mem_of_getElem? (i := 592) (by decide +kernel), List.mem_of_getElem? (i := 927) (by decide +kernel), List.mem_of_getElem? (i := 928) (by decide +kernel)⟩
theorem lw_p70 : lw_okq (⟨"PouredScreenModel", "lines", "()I"⟩, 13) := ⟨⟨by decide +kernel, by decide +kernel⟩, List.mem_of_getElem? (i := 592) (by decide +kernel), List.mem_of_getElem? (i := 935) (by decide +kernel), List.mem_of_getElem? (i := 936) (by decide +kernel)⟩
theorem lw_p71 : lw_okq (⟨"PouredScreenModel", "mixedLines", "(J)J"⟩, 13) := ⟨⟨by decide +kernel, by decide +kernel⟩, List.mem_of_getElem? (i := 592) (by decide +kernel), List.mem_of_getElem? (i := 951) (by decide +kernel), List.mem_of_getElem? (i := 952) (by decide +kernel)⟩
def lw_privs_5 : List (MethodName × Nat) := [(⟨"PouredScreenModel", "ends", "(II)V"⟩, 13), (⟨"PouredScreenModel", "marks", "()V"⟩, 13), (⟨"PouredScreenModel", "takes", "(II)V"⟩, 13), (⟨"PouredScreenModel", "lands", "(I)V"⟩, 13), (⟨"PouredScreenModel", "rowOfSlot", "(II)I"⟩, 13), (⟨"PouredScreenModel", "signsFilled", "(I)I"⟩, 13), (⟨"PouredScreenModel", "lines", "()I"⟩, 13), (⟨"PouredScreenModel", "mixedLines", "(J)J"⟩, 13)]
theorem lw_r5 : ∀ q ∈ lw_privs_5, lw_okq q := List.forall_mem_cons.mpr ⟨lw_p64, List.forall_mem_cons.mpr ⟨lw_p65, List.forall_mem_cons.mpr ⟨lw_p66, List.forall_mem_cons.mpr ⟨lw_p67, List.forall_mem_cons.mpr ⟨lw_p68, List.forall_mem_cons.mpr ⟨lw_p69, List.forall_mem_cons.mpr ⟨lw_p70, List.forall_mem_cons.mpr ⟨lw_p71, fun _ h => absurd h List.not_mem_nil⟩⟩⟩⟩⟩⟩⟩⟩
def lw_privs : List (MethodName × Nat) := lw_privs_1 ++ (lw_privs_2 ++ (lw_privs_3 ++ (lw_privs_4 ++ (lw_privs_5))))
def lw_tbl : List Cond := k2_sels lw_privs ++ tables_1
theorem lw_privs_ok : ∀ q ∈ lw_privs, lw_okq q := by
  show ∀ q ∈ lw_privs_1 ++ (lw_privs_2 ++ (lw_privs_3 ++ (lw_privs_4 ++ (lw_privs_5)))), lw_okq q
  exact List.forall_mem_append.mpr ⟨lw_r1, List.forall_mem_append.mpr ⟨lw_r2, List.forall_mem_append.mpr ⟨lw_r3, List.forall_mem_append.mpr ⟨lw_r4, lw_r5⟩⟩⟩⟩

def RX0 : String := "PouredScreen$Place"
def TX0 : u_T := fun k => match k with
  | 0 => ("PouredScreen$Place", "row", "I", false)
  | 1 => ("PouredScreen$Place", "column", "I", false)
  | _ => ("PouredScreen$Place", "pending", "Z", false)
def tyX0 : Nat → FieldType := fun k => match k with
  | 0 => .int
  | 1 => .int
  | _ => .boolean
abbrev wsX00 : List Cond := u_ws RX0 TX0 3
theorem nmX0 : ∀ a, a < 3 → ∀ b, b < 3 → a ≠ b → (TX0 a).2.1 ≠ (TX0 b).2.1 := by decide +kernel
theorem tyX0_ok : ∀ k, k < 3 → parseFieldDescriptor (TX0 k).2.2.1 = some (tyX0 k) := by decide +kernel
abbrev cX0_init : ByteArray := prog_2_method_1_code
def yX0_init : MethodName := ⟨RX0, "<init>", "()V"⟩
abbrev cX0_set : ByteArray := prog_2_method_2_code
def yX0_set : MethodName := ⟨RX0, "set", "(II)V"⟩
abbrev cX0_copyFrom : ByteArray := prog_2_method_3_code
def yX0_copyFrom : MethodName := ⟨RX0, "copyFrom", "(LPouredScreen$Place;)V"⟩
def RX1 : String := "PouredScreen$Pouring"
def TX1 : u_T := fun k => match k with
  | 0 => ("PouredScreen$Pouring", "from", "LPouredScreen$Sheet;", false)
  | 1 => ("PouredScreen$Pouring", "inRow", "I", false)
  | 2 => ("PouredScreen$Pouring", "inColumn", "I", false)
  | 3 => ("PouredScreen$Pouring", "endRow", "I", false)
  | 4 => ("PouredScreen$Pouring", "cells", "I", false)
  | 5 => ("PouredScreen$Pouring", "width", "I", false)
  | 6 => ("PouredScreen$Pouring", "sign", "I", false)
  | 7 => ("PouredScreen$Pouring", "read", "I", false)
  | 8 => ("PouredScreen$Pouring", "row", "I", false)
  | 9 => ("PouredScreen$Pouring", "column", "I", false)
  | 10 => ("PouredScreen$Pouring", "behind", "I", false)
  | 11 => ("PouredScreen$Pouring", "wraps", "Z", false)
  | _ => ("PouredScreen$Pouring", "leftGap", "Z", false)
def tyX1 : Nat → FieldType := fun k => match k with
  | 0 => .object "PouredScreen$Sheet"
  | 1 => .int
  | 2 => .int
  | 3 => .int
  | 4 => .int
  | 5 => .int
  | 6 => .int
  | 7 => .int
  | 8 => .int
  | 9 => .int
  | 10 => .int
  | 11 => .boolean
  | _ => .boolean
abbrev wsX10 : List Cond := u_ws RX1 TX1 13
theorem nmX1 : ∀ a, a < 13 → ∀ b, b < 13 → a ≠ b → (TX1 a).2.1 ≠ (TX1 b).2.1 := by decide +kernel
theorem tyX1_ok : ∀ k, k < 13 → parseFieldDescriptor (TX1 k).2.2.1 = some (tyX1 k) := by decide +kernel
abbrev cX1_init : ByteArray := prog_3_method_1_code
def yX1_init : MethodName := ⟨RX1, "<init>", "()V"⟩
abbrev cX1_begin : ByteArray := prog_3_method_2_code
def yX1_begin : MethodName := ⟨RX1, "begin", "(LPouredScreen$Sheet;III)V"⟩
abbrev cX1_next : ByteArray := prog_3_method_3_code
def yX1_next : MethodName := ⟨RX1, "next", "()Z"⟩
abbrev cX1_signOf : ByteArray := prog_3_method_4_code
def yX1_signOf : MethodName := ⟨RX1, "signOf", "(LPouredScreen$Sheet;III)I"⟩
abbrev cX1_readUpTo : ByteArray := prog_3_method_5_code
def yX1_readUpTo : MethodName := ⟨RX1, "readUpTo", "(I)Z"⟩
abbrev cX1_rowsBefore : ByteArray := prog_3_method_6_code
def yX1_rowsBefore : MethodName := ⟨RX1, "rowsBefore", "(LPouredScreen$Sheet;II)I"⟩
abbrev cX1_rowsIn : ByteArray := prog_3_method_7_code
def yX1_rowsIn : MethodName := ⟨RX1, "rowsIn", "(LPouredScreen$Sheet;I)I"⟩
abbrev cX1_pour : ByteArray := prog_3_method_8_code
def yX1_pour : MethodName := ⟨RX1, "pour", "(LPouredScreen$Sheet;LPouredScreen$Sheet;II)I"⟩
abbrev cX1_pourLines : ByteArray := prog_3_method_9_code
def yX1_pourLines : MethodName := ⟨RX1, "pourLines", "(LPouredScreen$Sheet;LPouredScreen$Sheet;I)V"⟩
abbrev cX1_pourLine : ByteArray := prog_3_method_10_code
def yX1_pourLine : MethodName := ⟨RX1, "pourLine", "(LPouredScreen$Sheet;I)V"⟩
abbrev cX1_follow : ByteArray := prog_3_method_11_code
def yX1_follow : MethodName := ⟨RX1, "follow", "(LPouredScreen$Sheet;LPouredScreen$Place;LPouredScreen$Sheet;LPouredScreen$Place;I)V"⟩
def RX2 : String := "PouredScreen$Row"
def TX2 : u_T := fun k => match k with
  | 0 => ("PouredScreen$Row", "cells", "[I", true)
  | 1 => ("PouredScreen$Row", "wrap", "Z", false)
  | _ => ("PouredScreen$Row", "gap", "Z", false)
def tyX2 : Nat → FieldType := fun k => match k with
  | 0 => .array .int
  | 1 => .boolean
  | _ => .boolean
abbrev wsX20 : List Cond := u_ws RX2 TX2 3
theorem nmX2 : ∀ a, a < 3 → ∀ b, b < 3 → a ≠ b → (TX2 a).2.1 ≠ (TX2 b).2.1 := by decide +kernel
theorem tyX2_ok : ∀ k, k < 3 → parseFieldDescriptor (TX2 k).2.2.1 = some (tyX2 k) := by decide +kernel
abbrev cX2_init : ByteArray := prog_4_method_1_code
def yX2_init : MethodName := ⟨RX2, "<init>", "()V"⟩
abbrev cX2_at : ByteArray := prog_4_method_2_code
def yX2_at : MethodName := ⟨RX2, "at", "(I)I"⟩
abbrev cX2_set : ByteArray := prog_4_method_3_code
def yX2_set : MethodName := ⟨RX2, "set", "(II)V"⟩
abbrev cX2_clear : ByteArray := prog_4_method_4_code
def yX2_clear : MethodName := ⟨RX2, "clear", "()V"⟩
abbrev cX2_unmark : ByteArray := prog_4_method_5_code
def yX2_unmark : MethodName := ⟨RX2, "unmark", "()V"⟩
abbrev cX2_copyFrom : ByteArray := prog_4_method_6_code
def yX2_copyFrom : MethodName := ⟨RX2, "copyFrom", "(LPouredScreen$Row;)V"⟩
abbrev cX2_taken : ByteArray := prog_4_method_7_code
def yX2_taken : MethodName := ⟨RX2, "taken", "()I"⟩
abbrev cX2_filled : ByteArray := prog_4_method_8_code
def yX2_filled : MethodName := ⟨RX2, "filled", "()I"⟩
abbrev cX2_isBlank : ByteArray := prog_4_method_9_code
def yX2_isBlank : MethodName := ⟨RX2, "isBlank", "()Z"⟩
abbrev cX2_signs : ByteArray := prog_4_method_10_code
def yX2_signs : MethodName := ⟨RX2, "signs", "()I"⟩
abbrev cX2_signsBefore : ByteArray := prog_4_method_11_code
def yX2_signsBefore : MethodName := ⟨RX2, "signsBefore", "(I)I"⟩
abbrev cX2_erase : ByteArray := prog_4_method_12_code
def yX2_erase : MethodName := ⟨RX2, "erase", "(III)V"⟩
abbrev cX2_put : ByteArray := prog_4_method_13_code
def yX2_put : MethodName := ⟨RX2, "put", "(II)V"⟩
abbrev cX2_overwrite : ByteArray := prog_4_method_14_code
def yX2_overwrite : MethodName := ⟨RX2, "overwrite", "(III)V"⟩
abbrev cX2_openCells : ByteArray := prog_4_method_15_code
def yX2_openCells : MethodName := ⟨RX2, "openCells", "(III)V"⟩
abbrev cX2_closeCells : ByteArray := prog_4_method_16_code
def yX2_closeCells : MethodName := ⟨RX2, "closeCells", "(III)V"⟩
def RX3 : String := "PouredScreen$Sheet"
def TX3 : u_T := fun k => match k with
  | 0 => ("PouredScreen$Sheet", "rows", "[LPouredScreen$Row;", true)
  | 1 => ("PouredScreen$Sheet", "cursor", "LPouredScreen$Place;", true)
  | 2 => ("PouredScreen$Sheet", "kept", "[LPouredScreen$Place;", true)
  | 3 => ("PouredScreen$Sheet", "keptCount", "I", false)
  | 4 => ("PouredScreen$Sheet", "history", "I", false)
  | 5 => ("PouredScreen$Sheet", "width", "I", false)
  | 6 => ("PouredScreen$Sheet", "height", "I", false)
  | 7 => ("PouredScreen$Sheet", "first", "I", false)
  | _ => ("PouredScreen$Sheet", "last", "I", false)
def tyX3 : Nat → FieldType := fun k => match k with
  | 0 => .array (.object "PouredScreen$Row")
  | 1 => .object "PouredScreen$Place"
  | 2 => .array (.object "PouredScreen$Place")
  | 3 => .int
  | 4 => .int
  | 5 => .int
  | 6 => .int
  | 7 => .int
  | _ => .int
abbrev wsX30 : List Cond := u_ws RX3 TX3 9
theorem nmX3 : ∀ a, a < 9 → ∀ b, b < 9 → a ≠ b → (TX3 a).2.1 ≠ (TX3 b).2.1 := by decide +kernel
theorem tyX3_ok : ∀ k, k < 9 → parseFieldDescriptor (TX3 k).2.2.1 = some (tyX3 k) := by decide +kernel
abbrev cX3_init : ByteArray := prog_5_method_1_code
def yX3_init : MethodName := ⟨RX3, "<init>", "()V"⟩
abbrev cX3_copyFrom : ByteArray := prog_5_method_2_code
def yX3_copyFrom : MethodName := ⟨RX3, "copyFrom", "(LPouredScreen$Sheet;)V"⟩
abbrev cX3_clear : ByteArray := prog_5_method_3_code
def yX3_clear : MethodName := ⟨RX3, "clear", "(II)V"⟩
abbrev cX3_rowAt : ByteArray := prog_5_method_4_code
def yX3_rowAt : MethodName := ⟨RX3, "rowAt", "(I)LPouredScreen$Row;"⟩
abbrev cX3_screenRow : ByteArray := prog_5_method_5_code
def yX3_screenRow : MethodName := ⟨RX3, "screenRow", "(I)LPouredScreen$Row;"⟩
abbrev cX3_hasCell : ByteArray := prog_5_method_6_code
def yX3_hasCell : MethodName := ⟨RX3, "hasCell", "(II)Z"⟩
abbrev cX3_isCursorInRegion : ByteArray := prog_5_method_7_code
def yX3_isCursorInRegion : MethodName := ⟨RX3, "isCursorInRegion", "()Z"⟩
abbrev cX3_keptPlace : ByteArray := prog_5_method_8_code
def yX3_keptPlace : MethodName := ⟨RX3, "keptPlace", "(I)LPouredScreen$Place;"⟩
abbrev cX3_keepCursor : ByteArray := prog_5_method_9_code
def yX3_keepCursor : MethodName := ⟨RX3, "keepCursor", "()V"⟩
abbrev cX3_takeCursorBack : ByteArray := prog_5_method_10_code
def yX3_takeCursorBack : MethodName := ⟨RX3, "takeCursorBack", "()V"⟩
abbrev cX3_taken : ByteArray := prog_5_method_11_code
def yX3_taken : MethodName := ⟨RX3, "taken", "()I"⟩
abbrev cX3_write : ByteArray := prog_5_method_12_code
def yX3_write : MethodName := ⟨RX3, "write", "(I)V"⟩
abbrev cX3_goOn : ByteArray := prog_5_method_13_code
def yX3_goOn : MethodName := ⟨RX3, "goOn", "()Z"⟩
abbrev cX3_lineFeed : ByteArray := prog_5_method_14_code
def yX3_lineFeed : MethodName := ⟨RX3, "lineFeed", "()Z"⟩
abbrev cX3_pushTopRow : ByteArray := prog_5_method_15_code
def yX3_pushTopRow : MethodName := ⟨RX3, "pushTopRow", "()V"⟩
abbrev cX3_eraseInRow : ByteArray := prog_5_method_16_code
def yX3_eraseInRow : MethodName := ⟨RX3, "eraseInRow", "(I)V"⟩
abbrev cX3_eraseRows : ByteArray := prog_5_method_17_code
def yX3_eraseRows : MethodName := ⟨RX3, "eraseRows", "(II)V"⟩
abbrev cX3_openRows : ByteArray := prog_5_method_18_code
def yX3_openRows : MethodName := ⟨RX3, "openRows", "(I)I"⟩
abbrev cX3_closeRows : ByteArray := prog_5_method_19_code
def yX3_closeRows : MethodName := ⟨RX3, "closeRows", "(I)I"⟩
abbrev cX3_takeRow : ByteArray := prog_5_method_20_code
def yX3_takeRow : MethodName := ⟨RX3, "takeRow", "(I)V"⟩
abbrev cX3_unmarkAbove : ByteArray := prog_5_method_21_code
def yX3_unmarkAbove : MethodName := ⟨RX3, "unmarkAbove", "(I)V"⟩
abbrev cX3_carryBlank : ByteArray := prog_5_method_22_code
def yX3_carryBlank : MethodName := ⟨RX3, "carryBlank", "(II)V"⟩
abbrev cX3_countedRows : ByteArray := prog_5_method_23_code
def yX3_countedRows : MethodName := ⟨RX3, "countedRows", "()I"⟩
abbrev cX3_endsLine : ByteArray := prog_5_method_24_code
def yX3_endsLine : MethodName := ⟨RX3, "endsLine", "(II)Z"⟩
abbrev cX3_linesBefore : ByteArray := prog_5_method_25_code
def yX3_linesBefore : MethodName := ⟨RX3, "linesBefore", "(I)I"⟩
abbrev cX3_lines : ByteArray := prog_5_method_26_code
def yX3_lines : MethodName := ⟨RX3, "lines", "()I"⟩
abbrev cX3_startOfLine : ByteArray := prog_5_method_27_code
def yX3_startOfLine : MethodName := ⟨RX3, "startOfLine", "(I)I"⟩
abbrev cX3_startOf : ByteArray := prog_5_method_28_code
def yX3_startOf : MethodName := ⟨RX3, "startOf", "(I)I"⟩
abbrev cX3_endOf : ByteArray := prog_5_method_29_code
def yX3_endOf : MethodName := ⟨RX3, "endOf", "(I)I"⟩
abbrev cX3_cellsOfLine : ByteArray := prog_5_method_30_code
def yX3_cellsOfLine : MethodName := ⟨RX3, "cellsOfLine", "(IZ)I"⟩
abbrev cX3_signsOfLine : ByteArray := prog_5_method_31_code
def yX3_signsOfLine : MethodName := ⟨RX3, "signsOfLine", "(II)I"⟩
abbrev cX3_lineOf : ByteArray := prog_5_method_32_code
def yX3_lineOf : MethodName := ⟨RX3, "lineOf", "(LPouredScreen$Place;)I"⟩
abbrev cX3_markOf : ByteArray := prog_5_method_33_code
def yX3_markOf : MethodName := ⟨RX3, "markOf", "(LPouredScreen$Place;)I"⟩
def RX4 : String := "PouredScreen"
def TX4 : u_T := fun k => match k with
  | 0 => ("PouredScreen", "sheet", "LPouredScreen$Sheet;", true)
  | 1 => ("PouredScreen", "remembered", "[LPouredScreen$Sheet;", true)
  | 2 => ("PouredScreen", "pouring", "LPouredScreen$Pouring;", true)
  | 3 => ("PouredScreen", "nextState", "I", false)
  | _ => ("PouredScreen", "states", "I", false)
def tyX4 : Nat → FieldType := fun k => match k with
  | 0 => .object "PouredScreen$Sheet"
  | 1 => .array (.object "PouredScreen$Sheet")
  | 2 => .object "PouredScreen$Pouring"
  | 3 => .int
  | _ => .int
abbrev wsX40 : List Cond := u_ws RX4 TX4 5
theorem nmX4 : ∀ a, a < 5 → ∀ b, b < 5 → a ≠ b → (TX4 a).2.1 ≠ (TX4 b).2.1 := by decide +kernel
theorem tyX4_ok : ∀ k, k < 5 → parseFieldDescriptor (TX4 k).2.2.1 = some (tyX4 k) := by decide +kernel
abbrev cX4_init : ByteArray := prog_1_method_1_code
def yX4_init : MethodName := ⟨RX4, "<init>", "()V"⟩
abbrev cX4_feed : ByteArray := prog_1_method_2_code
def yX4_feed : MethodName := ⟨RX4, "feed", "(I)I"⟩
abbrev cX4_moveTo : ByteArray := prog_1_method_3_code
def yX4_moveTo : MethodName := ⟨RX4, "moveTo", "(II)I"⟩
abbrev cX4_setRegion : ByteArray := prog_1_method_4_code
def yX4_setRegion : MethodName := ⟨RX4, "setRegion", "(II)I"⟩
abbrev cX4_eraseLine : ByteArray := prog_1_method_5_code
def yX4_eraseLine : MethodName := ⟨RX4, "eraseLine", "(I)I"⟩
abbrev cX4_eraseScreen : ByteArray := prog_1_method_6_code
def yX4_eraseScreen : MethodName := ⟨RX4, "eraseScreen", "(I)I"⟩
abbrev cX4_insertRows : ByteArray := prog_1_method_7_code
def yX4_insertRows : MethodName := ⟨RX4, "insertRows", "(I)I"⟩
abbrev cX4_deleteRows : ByteArray := prog_1_method_8_code
def yX4_deleteRows : MethodName := ⟨RX4, "deleteRows", "(I)I"⟩
abbrev cX4_insertCells : ByteArray := prog_1_method_9_code
def yX4_insertCells : MethodName := ⟨RX4, "insertCells", "(I)I"⟩
abbrev cX4_deleteCells : ByteArray := prog_1_method_10_code
def yX4_deleteCells : MethodName := ⟨RX4, "deleteCells", "(I)I"⟩
abbrev cX4_keep : ByteArray := prog_1_method_11_code
def yX4_keep : MethodName := ⟨RX4, "keep", "()I"⟩
abbrev cX4_back : ByteArray := prog_1_method_12_code
def yX4_back : MethodName := ⟨RX4, "back", "()I"⟩
abbrev cX4_resize : ByteArray := prog_1_method_13_code
def yX4_resize : MethodName := ⟨RX4, "resize", "(II)I"⟩
abbrev cX4_cell : ByteArray := prog_1_method_14_code
def yX4_cell : MethodName := ⟨RX4, "cell", "(II)I"⟩
abbrev cX4_row : ByteArray := prog_1_method_15_code
def yX4_row : MethodName := ⟨RX4, "row", "(II)I"⟩
abbrev cX4_line : ByteArray := prog_1_method_16_code
def yX4_line : MethodName := ⟨RX4, "line", "(II)I"⟩
abbrev cX4_sign : ByteArray := prog_1_method_17_code
def yX4_sign : MethodName := ⟨RX4, "sign", "(II)I"⟩
abbrev cX4_cursor : ByteArray := prog_1_method_18_code
def yX4_cursor : MethodName := ⟨RX4, "cursor", "(II)I"⟩
abbrev cX4_ifWidth : ByteArray := prog_1_method_19_code
def yX4_ifWidth : MethodName := ⟨RX4, "ifWidth", "(I)I"⟩
abbrev cX4_widthFor : ByteArray := prog_1_method_20_code
def yX4_widthFor : MethodName := ⟨RX4, "widthFor", "(I)I"⟩
abbrev cX4_told : ByteArray := prog_1_method_21_code
def yX4_told : MethodName := ⟨RX4, "told", "(I)I"⟩
abbrev cX4_undo : ByteArray := prog_1_method_22_code
def yX4_undo : MethodName := ⟨RX4, "undo", "()I"⟩
abbrev cX4_digest : ByteArray := prog_1_method_23_code
def yX4_digest : MethodName := ⟨RX4, "digest", "()J"⟩
abbrev cX4_mix : ByteArray := prog_1_method_24_code
def yX4_mix : MethodName := ⟨RX4, "mix", "(JI)J"⟩
abbrev cX4_mixRows : ByteArray := prog_1_method_25_code
def yX4_mixRows : MethodName := ⟨RX4, "mixRows", "(J)J"⟩
abbrev cX4_mixCells : ByteArray := prog_1_method_26_code
def yX4_mixCells : MethodName := ⟨RX4, "mixCells", "(J)J"⟩
abbrev cX4_mixLines : ByteArray := prog_1_method_27_code
def yX4_mixLines : MethodName := ⟨RX4, "mixLines", "(J)J"⟩
abbrev cX4_mixCursors : ByteArray := prog_1_method_28_code
def yX4_mixCursors : MethodName := ⟨RX4, "mixCursors", "(J)J"⟩
abbrev cX4_isControl : ByteArray := prog_1_method_29_code
def yX4_isControl : MethodName := ⟨RX4, "isControl", "(I)Z"⟩
abbrev cX4_isWidth : ByteArray := prog_1_method_30_code
def yX4_isWidth : MethodName := ⟨RX4, "isWidth", "(I)Z"⟩
abbrev cX4_sizeOf : ByteArray := prog_1_method_31_code
def yX4_sizeOf : MethodName := ⟨RX4, "sizeOf", "(I)I"⟩
abbrev cX4_obey : ByteArray := prog_1_method_32_code
def yX4_obey : MethodName := ⟨RX4, "obey", "(I)V"⟩
abbrev cX4_stateAt : ByteArray := prog_1_method_33_code
def yX4_stateAt : MethodName := ⟨RX4, "stateAt", "(I)LPouredScreen$Sheet;"⟩
abbrev cX4_remember : ByteArray := prog_1_method_34_code
def yX4_remember : MethodName := ⟨RX4, "remember", "()LPouredScreen$Sheet;"⟩
def RX5 : String := "PouredScreenModel"
def TX5 : u_T := fun k => match k with
  | 0 => ("PouredScreenModel", "page", "[I", true)
  | 1 => ("PouredScreenModel", "remembered", "I", false)
  | 2 => ("PouredScreenModel", "fresh", "[I", true)
  | 3 => ("PouredScreenModel", "lineOfCursor", "[I", true)
  | 4 => ("PouredScreenModel", "markOfCursor", "[I", true)
  | 5 => ("PouredScreenModel", "toRow", "[I", true)
  | 6 => ("PouredScreenModel", "toColumn", "[I", true)
  | 7 => ("PouredScreenModel", "isFull", "[Z", true)
  | 8 => ("PouredScreenModel", "width", "I", false)
  | 9 => ("PouredScreenModel", "base", "I", false)
  | 10 => ("PouredScreenModel", "fills", "Z", false)
  | 11 => ("PouredScreenModel", "outRow", "I", false)
  | _ => ("PouredScreenModel", "outColumn", "I", false)
def tyX5 : Nat → FieldType := fun k => match k with
  | 0 => .array .int
  | 1 => .int
  | 2 => .array .int
  | 3 => .array .int
  | 4 => .array .int
  | 5 => .array .int
  | 6 => .array .int
  | 7 => .array .boolean
  | 8 => .int
  | 9 => .int
  | 10 => .boolean
  | 11 => .int
  | _ => .int
abbrev wsX50 : List Cond := u_ws RX5 TX5 13
theorem nmX5 : ∀ a, a < 13 → ∀ b, b < 13 → a ≠ b → (TX5 a).2.1 ≠ (TX5 b).2.1 := by decide +kernel
theorem tyX5_ok : ∀ k, k < 13 → parseFieldDescriptor (TX5 k).2.2.1 = some (tyX5 k) := by decide +kernel
abbrev cX5_init : ByteArray := prog_7_method_1_code
def yX5_init : MethodName := ⟨RX5, "<init>", "()V"⟩
abbrev cX5_in : ByteArray := prog_7_method_3_code
def yX5_in : MethodName := ⟨RX5, "in", "(III)Z"⟩
abbrev cX5_records : ByteArray := prog_7_method_4_code
def yX5_records : MethodName := ⟨RX5, "records", "()V"⟩
abbrev cX5_at : ByteArray := prog_7_method_5_code
def yX5_at : MethodName := ⟨RX5, "at", "(II)I"⟩
abbrev cX5_code : ByteArray := prog_7_method_6_code
def yX5_code : MethodName := ⟨RX5, "code", "(II)I"⟩
abbrev cX5_isIt : ByteArray := prog_7_method_7_code
def yX5_isIt : MethodName := ⟨RX5, "isIt", "(II)Z"⟩
abbrev cX5_blanks : ByteArray := prog_7_method_8_code
def yX5_blanks : MethodName := ⟨RX5, "blanks", "(I)V"⟩
abbrev cX5_unwraps : ByteArray := prog_7_method_9_code
def yX5_unwraps : MethodName := ⟨RX5, "unwraps", "(I)V"⟩
abbrev cX5_copies : ByteArray := prog_7_method_10_code
def yX5_copies : MethodName := ⟨RX5, "copies", "(II)V"⟩
abbrev cX5_isWide : ByteArray := prog_7_method_11_code
def yX5_isWide : MethodName := ⟨RX5, "isWide", "(I)Z"⟩
abbrev cX5_isRight : ByteArray := prog_7_method_12_code
def yX5_isRight : MethodName := ⟨RX5, "isRight", "(I)Z"⟩
abbrev cX5_unwrapsAhead : ByteArray := prog_7_method_13_code
def yX5_unwrapsAhead : MethodName := ⟨RX5, "unwrapsAhead", "(I)V"⟩
abbrev cX5_sets : ByteArray := prog_7_method_14_code
def yX5_sets : MethodName := ⟨RX5, "sets", "(III)V"⟩
abbrev cX5_frees : ByteArray := prog_7_method_15_code
def yX5_frees : MethodName := ⟨RX5, "frees", "(III)V"⟩
abbrev cX5_erases : ByteArray := prog_7_method_16_code
def yX5_erases : MethodName := ⟨RX5, "erases", "(III)V"⟩
abbrev cX5_usedCells : ByteArray := prog_7_method_17_code
def yX5_usedCells : MethodName := ⟨RX5, "usedCells", "(I)I"⟩
abbrev cX5_filled : ByteArray := prog_7_method_18_code
def yX5_filled : MethodName := ⟨RX5, "filled", "(I)I"⟩
abbrev cX5_filledAll : ByteArray := prog_7_method_19_code
def yX5_filledAll : MethodName := ⟨RX5, "filledAll", "()I"⟩
abbrev cX5_keepsRow : ByteArray := prog_7_method_20_code
def yX5_keepsRow : MethodName := ⟨RX5, "keepsRow", "(I)V"⟩
abbrev cX5_scrolls : ByteArray := prog_7_method_21_code
def yX5_scrolls : MethodName := ⟨RX5, "scrolls", "()V"⟩
abbrev cX5_feedsLine : ByteArray := prog_7_method_22_code
def yX5_feedsLine : MethodName := ⟨RX5, "feedsLine", "()Z"⟩
abbrev cX5_goesOn : ByteArray := prog_7_method_23_code
def yX5_goesOn : MethodName := ⟨RX5, "goesOn", "(Z)V"⟩
abbrev cX5_writes : ByteArray := prog_7_method_24_code
def yX5_writes : MethodName := ⟨RX5, "writes", "(I)V"⟩
abbrev cX5_moves : ByteArray := prog_7_method_25_code
def yX5_moves : MethodName := ⟨RX5, "moves", "(I)V"⟩
abbrev cX5_feed : ByteArray := prog_7_method_26_code
def yX5_feed : MethodName := ⟨RX5, "feed", "(I)I"⟩
abbrev cX5_isRow : ByteArray := prog_7_method_27_code
def yX5_isRow : MethodName := ⟨RX5, "isRow", "(I)Z"⟩
abbrev cX5_isColumn : ByteArray := prog_7_method_28_code
def yX5_isColumn : MethodName := ⟨RX5, "isColumn", "(I)Z"⟩
abbrev cX5_goes : ByteArray := prog_7_method_29_code
def yX5_goes : MethodName := ⟨RX5, "goes", "(II)V"⟩
abbrev cX5_moveTo : ByteArray := prog_7_method_30_code
def yX5_moveTo : MethodName := ⟨RX5, "moveTo", "(II)I"⟩
abbrev cX5_setRegion : ByteArray := prog_7_method_31_code
def yX5_setRegion : MethodName := ⟨RX5, "setRegion", "(II)I"⟩
abbrev cX5_erasesLine : ByteArray := prog_7_method_32_code
def yX5_erasesLine : MethodName := ⟨RX5, "erasesLine", "(I)V"⟩
abbrev cX5_eraseLine : ByteArray := prog_7_method_33_code
def yX5_eraseLine : MethodName := ⟨RX5, "eraseLine", "(I)I"⟩
abbrev cX5_eraseScreen : ByteArray := prog_7_method_34_code
def yX5_eraseScreen : MethodName := ⟨RX5, "eraseScreen", "(I)I"⟩
abbrev cX5_isInRegion : ByteArray := prog_7_method_35_code
def yX5_isInRegion : MethodName := ⟨RX5, "isInRegion", "()Z"⟩
abbrev cX5_filledRows : ByteArray := prog_7_method_36_code
def yX5_filledRows : MethodName := ⟨RX5, "filledRows", "(II)I"⟩
abbrev cX5_insertRows : ByteArray := prog_7_method_37_code
def yX5_insertRows : MethodName := ⟨RX5, "insertRows", "(I)I"⟩
abbrev cX5_deleteRows : ByteArray := prog_7_method_38_code
def yX5_deleteRows : MethodName := ⟨RX5, "deleteRows", "(I)I"⟩
abbrev cX5_splits : ByteArray := prog_7_method_39_code
def yX5_splits : MethodName := ⟨RX5, "splits", "(Z)V"⟩
abbrev cX5_insertCells : ByteArray := prog_7_method_40_code
def yX5_insertCells : MethodName := ⟨RX5, "insertCells", "(I)I"⟩
abbrev cX5_deleteCells : ByteArray := prog_7_method_41_code
def yX5_deleteCells : MethodName := ⟨RX5, "deleteCells", "(I)I"⟩
abbrev cX5_keep : ByteArray := prog_7_method_42_code
def yX5_keep : MethodName := ⟨RX5, "keep", "()I"⟩
abbrev cX5_back : ByteArray := prog_7_method_43_code
def yX5_back : MethodName := ⟨RX5, "back", "()I"⟩
abbrev cX5_counted : ByteArray := prog_7_method_44_code
def yX5_counted : MethodName := ⟨RX5, "counted", "()I"⟩
abbrev cX5_slot : ByteArray := prog_7_method_45_code
def yX5_slot : MethodName := ⟨RX5, "slot", "(I)I"⟩
abbrev cX5_lineEnd : ByteArray := prog_7_method_46_code
def yX5_lineEnd : MethodName := ⟨RX5, "lineEnd", "(II)I"⟩
abbrev cX5_lineBegin : ByteArray := prog_7_method_47_code
def yX5_lineBegin : MethodName := ⟨RX5, "lineBegin", "(II)I"⟩
abbrev cX5_lines : ByteArray := prog_7_method_48_code
def yX5_lines : MethodName := ⟨RX5, "lines", "()I"⟩
abbrev cX5_cellsOf : ByteArray := prog_7_method_49_code
def yX5_cellsOf : MethodName := ⟨RX5, "cellsOf", "(II)I"⟩
abbrev cX5_signsIn : ByteArray := prog_7_method_50_code
def yX5_signsIn : MethodName := ⟨RX5, "signsIn", "(II)I"⟩
abbrev cX5_signsOf : ByteArray := prog_7_method_51_code
def yX5_signsOf : MethodName := ⟨RX5, "signsOf", "(II)I"⟩
abbrev cX5_lineOf : ByteArray := prog_7_method_52_code
def yX5_lineOf : MethodName := ⟨RX5, "lineOf", "(III)I"⟩
abbrev cX5_line : ByteArray := prog_7_method_53_code
def yX5_line : MethodName := ⟨RX5, "line", "(II)I"⟩
abbrev cX5_signOf : ByteArray := prog_7_method_54_code
def yX5_signOf : MethodName := ⟨RX5, "signOf", "(III)I"⟩
abbrev cX5_sign : ByteArray := prog_7_method_55_code
def yX5_sign : MethodName := ⟨RX5, "sign", "(II)I"⟩
abbrev cX5_lineAt : ByteArray := prog_7_method_56_code
def yX5_lineAt : MethodName := ⟨RX5, "lineAt", "(I)I"⟩
abbrev cX5_markOf : ByteArray := prog_7_method_57_code
def yX5_markOf : MethodName := ⟨RX5, "markOf", "(II)I"⟩
abbrev cX5_rowOf : ByteArray := prog_7_method_58_code
def yX5_rowOf : MethodName := ⟨RX5, "rowOf", "(I)I"⟩
abbrev cX5_columnOf : ByteArray := prog_7_method_59_code
def yX5_columnOf : MethodName := ⟨RX5, "columnOf", "(I)I"⟩
abbrev cX5_cursorOf : ByteArray := prog_7_method_60_code
def yX5_cursorOf : MethodName := ⟨RX5, "cursorOf", "(II)I"⟩
abbrev cX5_cursor : ByteArray := prog_7_method_61_code
def yX5_cursor : MethodName := ⟨RX5, "cursor", "(II)I"⟩
abbrev cX5_lays : ByteArray := prog_7_method_62_code
def yX5_lays : MethodName := ⟨RX5, "lays", "(II)V"⟩
abbrev cX5_pours : ByteArray := prog_7_method_63_code
def yX5_pours : MethodName := ⟨RX5, "pours", "(I)V"⟩
abbrev cX5_meets : ByteArray := prog_7_method_64_code
def yX5_meets : MethodName := ⟨RX5, "meets", "(II)V"⟩
abbrev cX5_ends : ByteArray := prog_7_method_65_code
def yX5_ends : MethodName := ⟨RX5, "ends", "(II)V"⟩
abbrev cX5_poursAll : ByteArray := prog_7_method_66_code
def yX5_poursAll : MethodName := ⟨RX5, "poursAll", "()I"⟩
abbrev cX5_rowsWith : ByteArray := prog_7_method_67_code
def yX5_rowsWith : MethodName := ⟨RX5, "rowsWith", "(I)I"⟩
abbrev cX5_ifWidth : ByteArray := prog_7_method_68_code
def yX5_ifWidth : MethodName := ⟨RX5, "ifWidth", "(I)I"⟩
abbrev cX5_widthFor : ByteArray := prog_7_method_69_code
def yX5_widthFor : MethodName := ⟨RX5, "widthFor", "(I)I"⟩
abbrev cX5_marks : ByteArray := prog_7_method_70_code
def yX5_marks : MethodName := ⟨RX5, "marks", "()V"⟩
abbrev cX5_takes : ByteArray := prog_7_method_71_code
def yX5_takes : MethodName := ⟨RX5, "takes", "(II)V"⟩
abbrev cX5_resize : ByteArray := prog_7_method_72_code
def yX5_resize : MethodName := ⟨RX5, "resize", "(II)I"⟩
abbrev cX5_lands : ByteArray := prog_7_method_73_code
def yX5_lands : MethodName := ⟨RX5, "lands", "(I)V"⟩
abbrev cX5_cell : ByteArray := prog_7_method_74_code
def yX5_cell : MethodName := ⟨RX5, "cell", "(II)I"⟩
abbrev cX5_signsFilled : ByteArray := prog_7_method_75_code
def yX5_signsFilled : MethodName := ⟨RX5, "signsFilled", "(I)I"⟩
abbrev cX5_rowOfSlot : ByteArray := prog_7_method_76_code
def yX5_rowOfSlot : MethodName := ⟨RX5, "rowOfSlot", "(II)I"⟩
abbrev cX5_row : ByteArray := prog_7_method_77_code
def yX5_row : MethodName := ⟨RX5, "row", "(II)I"⟩
abbrev cX5_told : ByteArray := prog_7_method_78_code
def yX5_told : MethodName := ⟨RX5, "told", "(I)I"⟩
abbrev cX5_undo : ByteArray := prog_7_method_79_code
def yX5_undo : MethodName := ⟨RX5, "undo", "()I"⟩
abbrev cX5_mixedLines : ByteArray := prog_7_method_80_code
def yX5_mixedLines : MethodName := ⟨RX5, "mixedLines", "(J)J"⟩
abbrev cX5_digest : ByteArray := prog_7_method_81_code
def yX5_digest : MethodName := ⟨RX5, "digest", "()J"⟩

def RL : String := "PouredScreenLaw"
abbrev cL_law : ByteArray := code
def yL_law : MethodName := ⟨RL, "law", "([I)Z"⟩

abbrev vwCl : List vw_C := [(RX0, TX0, 3), (RX1, TX1, 13), (RX2, TX2, 3), (RX3, TX3, 9), (RX4, TX4, 5), (RX5, TX5, 13)]
/-! the words of the tables that stay, for every method -/
def z_WG : List Cond := lw_tbl.filter goodWord
theorem z_tab (i : Nat) {w : Cond} (h : tables_1[i]? = some w) (hg : goodWord w = true) : w ∈ z_WG := List.mem_filter.mpr ⟨List.mem_append_right _ (List.mem_of_getElem? h), hg⟩
theorem z_sel (i : Nat) {q : MethodName × Nat} (h : lw_privs[i]? = some q) (hg : goodWord (Cond.selects q.1.cls q.1 q.1) = true) : Cond.selects q.1.cls q.1 q.1 ∈ z_WG := List.mem_filter.mpr ⟨List.mem_append_left _ (List.mem_map.mpr ⟨q, List.mem_of_getElem? h, rfl⟩), hg⟩
def z_nest : Cond → Bool
  | .fieldLinkNest .. => true
  | .methodLinkNest .. => true
  | .arrayOver (.object _) => true
  | _ => false
def z_WN : List Cond := tables_1.filter z_nest
theorem z_nst (i : Nat) {w : Cond} (h : tables_1[i]? = some w) (hg : z_nest w = true) : w ∈ z_WN := List.mem_filter.mpr ⟨List.mem_of_getElem? h, hg⟩
theorem z_good : ∀ w ∈ z_WG, goodWord w = true := fun w h => (List.mem_filter.mp h).2
theorem z_in : ∀ w ∈ z_WG, w ∈ lw_tbl := fun w h => (List.mem_filter.mp h).1
/-- a method: its name, code, locals, what it returns, its room, what else is known of the start -/
abbrev z_M : Type := MethodName × ByteArray × Nat × Option FieldType × Room × (State → Nat → Prop)
abbrev z_my (M : z_M) : MethodName := M.1
abbrev z_mc (M : z_M) : ByteArray := M.2.1
abbrev z_mn (M : z_M) : Nat := M.2.2.1
abbrev z_mr (M : z_M) : Option FieldType := M.2.2.2.1
abbrev z_mR (M : z_M) : Room := M.2.2.2.2.1
abbrev z_mE (M : z_M) : State → Nat → Prop := M.2.2.2.2.2
def z_D (len : Nat) (M : z_M) (pc n : Nat) (i : Instr) : Prop := decode (z_mc M) pc = .ok (i, len) ∧ pc + len = n
def z_J (M : z_M) (pc n tgt : Nat) (off : Int) (i : Instr) : Prop := decode (z_mc M) pc = .ok (i, 3) ∧ pc + 3 = n ∧ (pc : Int) + off = (tgt : Int)
/-- a field's entry: field k of class ci -/
def z_F (own : String) (idx ci k : Nat) (C : String) (T : u_T) (N : Nat) : Prop := vwCl[ci]? = some (C, T, N) ∧ k < N ∧ (Cond.fieldLink own idx (T k).1 (T k).2.1 (T k).2.2.1 ∈ z_WG ∨ ∃ host, Cond.fieldLinkNest own idx (T k).1 (T k).2.1 (T k).2.2.1 host ∈ z_WN)
/-- a method's entry -/
def z_LB (own : String) (idx : Nat) (y : MethodName) (b : ByteArray) (nL : Nat) (r : Option FieldType) (n : Nat) : Prop :=
  (Cond.methodLink own idx y ∈ z_WG ∨ ∃ host, Cond.methodLinkNest own idx y host ∈ z_WN) ∧ Cond.code y b nL r ∈ z_WG ∧ Cond.initialized y.cls ∈ z_WG ∧ (y.cls ≠ "java/lang/invoke/MethodHandle" ∧ y.cls ≠ "java/lang/invoke/VarHandle" ∧ (parseMethodDescriptor y.desc).map (fun d => d.parameters.length) = some n)
def z_LV (own : String) (idx : Nat) (y : MethodName) (b : ByteArray) (nL : Nat) (r : Option FieldType) (n : Nat) : Prop := z_LB own idx y b nL r n ∧ Cond.instanceMethod y ∈ z_WG ∧ Cond.selects y.cls y y ∈ z_WG
def z_LS (own : String) (idx : Nat) (y : MethodName) (b : ByteArray) (nL : Nat) (r : Option FieldType) (n : Nat) : Prop := z_LB own idx y b nL r n ∧ Cond.static y ∈ z_WG
def z_LI (own : String) (idx : Nat) (y : MethodName) (b : ByteArray) (nL : Nat) (r : Option FieldType) (n : Nat) : Prop := z_LB own idx y b nL r n ∧ y.name = "<init>" ∧ Cond.instanceMethod y ∈ z_WG
def M_X0_init : z_M := (yX0_init, cX0_init, 1, none, { frames := 1, cells := 0, slots := 0, locals := 24 }, fun _ _ => True)
def M_X0_set : z_M := (yX0_set, cX0_set, 3, none, { frames := 0, cells := 0, slots := 0, locals := 0 }, fun _ _ => True)
def M_X0_copyFrom : z_M := (yX0_copyFrom, cX0_copyFrom, 2, none, { frames := 0, cells := 0, slots := 0, locals := 0 }, fun _ _ => True)
def M_X1_init : z_M := (yX1_init, cX1_init, 1, none, { frames := 1, cells := 0, slots := 0, locals := 24 }, fun _ _ => True)
def M_X1_begin : z_M := (yX1_begin, cX1_begin, 5, none, { frames := 2, cells := 0, slots := 0, locals := 44 }, fun _ _ => True)
def M_X1_next : z_M := (yX1_next, cX1_next, 2, (some .boolean), { frames := 2, cells := 0, slots := 0, locals := 44 }, fun _ _ => True)
def M_X1_signOf : z_M := (yX1_signOf, cX1_signOf, 5, (some .int), { frames := 4, cells := 0, slots := 0, locals := 87 }, fun _ _ => True)
def M_X1_readUpTo : z_M := (yX1_readUpTo, cX1_readUpTo, 3, (some .boolean), { frames := 3, cells := 0, slots := 0, locals := 65 }, fun _ _ => True)
def M_X1_rowsBefore : z_M := (yX1_rowsBefore, cX1_rowsBefore, 9, (some .int), { frames := 3, cells := 0, slots := 0, locals := 68 }, fun _ _ => True)
def M_X1_rowsIn : z_M := (yX1_rowsIn, cX1_rowsIn, 3, (some .int), { frames := 4, cells := 0, slots := 0, locals := 96 }, fun _ _ => True)
def M_X1_pour : z_M := (yX1_pour, cX1_pour, 10, (some .int), { frames := 5, cells := 0, slots := 0, locals := 126 }, fun _ _ => True)
def M_X1_pourLines : z_M := (yX1_pourLines, cX1_pourLines, 8, none, { frames := 4, cells := 0, slots := 0, locals := 89 }, fun _ _ => True)
def M_X1_pourLine : z_M := (yX1_pourLine, cX1_pourLine, 5, none, { frames := 3, cells := 0, slots := 0, locals := 65 }, fun _ _ => True)
def M_X1_follow : z_M := (yX1_follow, cX1_follow, 11, none, { frames := 4, cells := 0, slots := 0, locals := 96 }, fun _ _ => True)
def M_X2_init : z_M := (yX2_init, cX2_init, 1, none, { frames := 1, cells := 1, slots := 20, locals := 24 }, fun _ _ => True)
def M_X2_at : z_M := (yX2_at, cX2_at, 2, (some .int), { frames := 0, cells := 0, slots := 0, locals := 0 }, fun _ _ => True)
def M_X2_set : z_M := (yX2_set, cX2_set, 3, none, { frames := 0, cells := 0, slots := 0, locals := 0 }, fun _ _ => True)
def M_X2_clear : z_M := (yX2_clear, cX2_clear, 2, none, { frames := 0, cells := 0, slots := 0, locals := 0 }, fun _ _ => True)
def M_X2_unmark : z_M := (yX2_unmark, cX2_unmark, 1, none, { frames := 0, cells := 0, slots := 0, locals := 0 }, fun _ _ => True)
def M_X2_copyFrom : z_M := (yX2_copyFrom, cX2_copyFrom, 2, none, { frames := 1, cells := 0, slots := 0, locals := 40 }, fun _ _ => True)
def M_X2_taken : z_M := (yX2_taken, cX2_taken, 6, (some .int), { frames := 0, cells := 0, slots := 0, locals := 0 }, fun _ _ => True)
def M_X2_filled : z_M := (yX2_filled, cX2_filled, 2, (some .int), { frames := 0, cells := 0, slots := 0, locals := 0 }, fun _ _ => True)
def M_X2_isBlank : z_M := (yX2_isBlank, cX2_isBlank, 1, (some .boolean), { frames := 1, cells := 0, slots := 0, locals := 21 }, fun _ _ => True)
def M_X2_signs : z_M := (yX2_signs, cX2_signs, 6, (some .int), { frames := 0, cells := 0, slots := 0, locals := 0 }, fun _ _ => True)
def M_X2_signsBefore : z_M := (yX2_signsBefore, cX2_signsBefore, 4, (some .int), { frames := 0, cells := 0, slots := 0, locals := 0 }, fun _ _ => True)
def M_X2_erase : z_M := (yX2_erase, cX2_erase, 7, none, { frames := 1, cells := 0, slots := 0, locals := 22 }, fun _ _ => True)
def M_X2_put : z_M := (yX2_put, cX2_put, 3, none, { frames := 1, cells := 0, slots := 0, locals := 22 }, fun _ _ => True)
def M_X2_overwrite : z_M := (yX2_overwrite, cX2_overwrite, 4, none, { frames := 2, cells := 0, slots := 0, locals := 48 }, fun _ _ => True)
def M_X2_openCells : z_M := (yX2_openCells, cX2_openCells, 5, none, { frames := 1, cells := 0, slots := 0, locals := 22 }, fun _ _ => True)
def M_X2_closeCells : z_M := (yX2_closeCells, cX2_closeCells, 5, none, { frames := 2, cells := 0, slots := 0, locals := 48 }, fun _ _ => True)
def M_X3_init : z_M := (yX3_init, cX3_init, 2, none, { frames := 2, cells := 70, slots := 783, locals := 44 }, fun _ _ => True)
def M_X3_copyFrom : z_M := (yX3_copyFrom, cX3_copyFrom, 3, none, { frames := 2, cells := 0, slots := 0, locals := 61 }, fun _ _ => True)
def M_X3_clear : z_M := (yX3_clear, cX3_clear, 7, none, { frames := 1, cells := 0, slots := 0, locals := 21 }, fun _ _ => True)
def M_X3_rowAt : z_M := (yX3_rowAt, cX3_rowAt, 2, (some (.object "PouredScreen$Row")), { frames := 0, cells := 0, slots := 0, locals := 0 }, fun _ _ => True)
def M_X3_screenRow : z_M := (yX3_screenRow, cX3_screenRow, 2, (some (.object "PouredScreen$Row")), { frames := 1, cells := 0, slots := 0, locals := 21 }, fun _ _ => True)
def M_X3_hasCell : z_M := (yX3_hasCell, cX3_hasCell, 3, (some .boolean), { frames := 0, cells := 0, slots := 0, locals := 0 }, fun _ _ => True)
def M_X3_isCursorInRegion : z_M := (yX3_isCursorInRegion, cX3_isCursorInRegion, 1, (some .boolean), { frames := 0, cells := 0, slots := 0, locals := 0 }, fun _ _ => True)
def M_X3_keptPlace : z_M := (yX3_keptPlace, cX3_keptPlace, 2, (some (.object "PouredScreen$Place")), { frames := 0, cells := 0, slots := 0, locals := 0 }, fun _ _ => True)
def M_X3_keepCursor : z_M := (yX3_keepCursor, cX3_keepCursor, 1, none, { frames := 1, cells := 0, slots := 0, locals := 22 }, fun _ _ => True)
def M_X3_takeCursorBack : z_M := (yX3_takeCursorBack, cX3_takeCursorBack, 1, none, { frames := 1, cells := 0, slots := 0, locals := 21 }, fun _ _ => True)
def M_X3_taken : z_M := (yX3_taken, cX3_taken, 3, (some .int), { frames := 2, cells := 0, slots := 0, locals := 42 }, fun _ _ => True)
def M_X3_write : z_M := (yX3_write, cX3_write, 2, none, { frames := 5, cells := 0, slots := 0, locals := 108 }, fun _ _ => True)
def M_X3_goOn : z_M := (yX3_goOn, cX3_goOn, 2, (some .boolean), { frames := 4, cells := 0, slots := 0, locals := 87 }, fun _ _ => True)
def M_X3_lineFeed : z_M := (yX3_lineFeed, cX3_lineFeed, 2, (some .boolean), { frames := 3, cells := 0, slots := 0, locals := 66 }, fun _ _ => True)
def M_X3_pushTopRow : z_M := (yX3_pushTopRow, cX3_pushTopRow, 2, none, { frames := 2, cells := 0, slots := 0, locals := 45 }, fun _ _ => True)
def M_X3_eraseInRow : z_M := (yX3_eraseInRow, cX3_eraseInRow, 4, none, { frames := 2, cells := 0, slots := 0, locals := 48 }, fun _ _ => True)
def M_X3_eraseRows : z_M := (yX3_eraseRows, cX3_eraseRows, 4, none, { frames := 2, cells := 0, slots := 0, locals := 48 }, fun _ _ => True)
def M_X3_openRows : z_M := (yX3_openRows, cX3_openRows, 4, (some .int), { frames := 2, cells := 0, slots := 0, locals := 45 }, fun _ _ => True)
def M_X3_closeRows : z_M := (yX3_closeRows, cX3_closeRows, 4, (some .int), { frames := 3, cells := 0, slots := 0, locals := 66 }, fun _ _ => True)
def M_X3_takeRow : z_M := (yX3_takeRow, cX3_takeRow, 2, none, { frames := 2, cells := 0, slots := 0, locals := 45 }, fun _ _ => True)
def M_X3_unmarkAbove : z_M := (yX3_unmarkAbove, cX3_unmarkAbove, 2, none, { frames := 1, cells := 0, slots := 0, locals := 21 }, fun _ _ => True)
def M_X3_carryBlank : z_M := (yX3_carryBlank, cX3_carryBlank, 5, none, { frames := 1, cells := 0, slots := 0, locals := 21 }, fun _ _ => True)
def M_X3_countedRows : z_M := (yX3_countedRows, cX3_countedRows, 3, (some .int), { frames := 1, cells := 0, slots := 0, locals := 24 }, fun _ _ => True)
def M_X3_endsLine : z_M := (yX3_endsLine, cX3_endsLine, 3, (some .boolean), { frames := 1, cells := 0, slots := 0, locals := 21 }, fun _ _ => True)
def M_X3_linesBefore : z_M := (yX3_linesBefore, cX3_linesBefore, 5, (some .int), { frames := 2, cells := 0, slots := 0, locals := 46 }, fun _ _ => True)
def M_X3_lines : z_M := (yX3_lines, cX3_lines, 1, (some .int), { frames := 3, cells := 0, slots := 0, locals := 70 }, fun _ _ => True)
def M_X3_startOfLine : z_M := (yX3_startOfLine, cX3_startOfLine, 5, (some .int), { frames := 2, cells := 0, slots := 0, locals := 46 }, fun _ _ => True)
def M_X3_startOf : z_M := (yX3_startOf, cX3_startOf, 3, (some .int), { frames := 1, cells := 0, slots := 0, locals := 21 }, fun _ _ => True)
def M_X3_endOf : z_M := (yX3_endOf, cX3_endOf, 4, (some .int), { frames := 2, cells := 0, slots := 0, locals := 46 }, fun _ _ => True)
def M_X3_cellsOfLine : z_M := (yX3_cellsOfLine, cX3_cellsOfLine, 4, (some .int), { frames := 1, cells := 0, slots := 0, locals := 21 }, fun _ _ => True)
def M_X3_signsOfLine : z_M := (yX3_signsOfLine, cX3_signsOfLine, 5, (some .int), { frames := 2, cells := 0, slots := 0, locals := 44 }, fun _ _ => True)
def M_X3_lineOf : z_M := (yX3_lineOf, cX3_lineOf, 2, (some .int), { frames := 3, cells := 0, slots := 0, locals := 70 }, fun _ _ => True)
def M_X3_markOf : z_M := (yX3_markOf, cX3_markOf, 7, (some .int), { frames := 2, cells := 0, slots := 0, locals := 46 }, fun _ _ => True)
def M_X4_init : z_M := (yX4_init, cX4_init, 2, none, { frames := 3, cells := 641, slots := 7149, locals := 65 }, fun _ _ => True)
def M_X4_feed : z_M := (yX4_feed, cX4_feed, 3, (some .int), { frames := 6, cells := 0, slots := 0, locals := 129 }, fun _ _ => True)
def M_X4_moveTo : z_M := (yX4_moveTo, cX4_moveTo, 4, (some .int), { frames := 4, cells := 0, slots := 0, locals := 104 }, fun _ _ => True)
def M_X4_setRegion : z_M := (yX4_setRegion, cX4_setRegion, 3, (some .int), { frames := 4, cells := 0, slots := 0, locals := 104 }, fun _ _ => True)
def M_X4_eraseLine : z_M := (yX4_eraseLine, cX4_eraseLine, 3, (some .int), { frames := 4, cells := 0, slots := 0, locals := 104 }, fun _ _ => True)
def M_X4_eraseScreen : z_M := (yX4_eraseScreen, cX4_eraseScreen, 3, (some .int), { frames := 4, cells := 0, slots := 0, locals := 104 }, fun _ _ => True)
def M_X4_insertRows : z_M := (yX4_insertRows, cX4_insertRows, 2, (some .int), { frames := 4, cells := 0, slots := 0, locals := 104 }, fun _ _ => True)
def M_X4_deleteRows : z_M := (yX4_deleteRows, cX4_deleteRows, 2, (some .int), { frames := 4, cells := 0, slots := 0, locals := 104 }, fun _ _ => True)
def M_X4_insertCells : z_M := (yX4_insertCells, cX4_insertCells, 4, (some .int), { frames := 4, cells := 0, slots := 0, locals := 104 }, fun _ _ => True)
def M_X4_deleteCells : z_M := (yX4_deleteCells, cX4_deleteCells, 4, (some .int), { frames := 4, cells := 0, slots := 0, locals := 104 }, fun _ _ => True)
def M_X4_keep : z_M := (yX4_keep, cX4_keep, 1, (some .int), { frames := 4, cells := 0, slots := 0, locals := 104 }, fun _ _ => True)
def M_X4_back : z_M := (yX4_back, cX4_back, 1, (some .int), { frames := 4, cells := 0, slots := 0, locals := 104 }, fun _ _ => True)
def M_X4_resize : z_M := (yX4_resize, cX4_resize, 4, (some .int), { frames := 6, cells := 0, slots := 0, locals := 155 }, fun _ _ => True)
def M_X4_cell : z_M := (yX4_cell, cX4_cell, 3, (some .int), { frames := 2, cells := 0, slots := 0, locals := 42 }, fun _ _ => True)
def M_X4_row : z_M := (yX4_row, cX4_row, 4, (some .int), { frames := 2, cells := 0, slots := 0, locals := 42 }, fun _ _ => True)
def M_X4_line : z_M := (yX4_line, cX4_line, 5, (some .int), { frames := 3, cells := 0, slots := 0, locals := 70 }, fun _ _ => True)
def M_X4_sign : z_M := (yX4_sign, cX4_sign, 4, (some .int), { frames := 5, cells := 0, slots := 0, locals := 111 }, fun _ _ => True)
def M_X4_cursor : z_M := (yX4_cursor, cX4_cursor, 4, (some .int), { frames := 4, cells := 0, slots := 0, locals := 91 }, fun _ _ => True)
def M_X4_ifWidth : z_M := (yX4_ifWidth, cX4_ifWidth, 2, (some .int), { frames := 5, cells := 0, slots := 0, locals := 118 }, fun _ _ => True)
def M_X4_widthFor : z_M := (yX4_widthFor, cX4_widthFor, 3, (some .int), { frames := 5, cells := 0, slots := 0, locals := 118 }, fun _ _ => True)
def M_X4_told : z_M := (yX4_told, cX4_told, 2, (some .int), { frames := 4, cells := 0, slots := 0, locals := 90 }, fun _ _ => True)
def M_X4_undo : z_M := (yX4_undo, cX4_undo, 1, (some .int), { frames := 3, cells := 0, slots := 0, locals := 83 }, fun _ _ => True)
def M_X4_digest : z_M := (yX4_digest, cX4_digest, 4, (some .long), { frames := 6, cells := 0, slots := 0, locals := 140 }, fun _ _ => True)
def M_X4_mix : z_M := (yX4_mix, cX4_mix, 3, (some .long), { frames := 0, cells := 0, slots := 0, locals := 0 }, fun _ _ => True)
def M_X4_mixRows : z_M := (yX4_mixRows, cX4_mixRows, 7, (some .long), { frames := 3, cells := 0, slots := 0, locals := 65 }, fun _ _ => True)
def M_X4_mixCells : z_M := (yX4_mixCells, cX4_mixCells, 7, (some .long), { frames := 3, cells := 0, slots := 0, locals := 64 }, fun _ _ => True)
def M_X4_mixLines : z_M := (yX4_mixLines, cX4_mixLines, 9, (some .long), { frames := 4, cells := 0, slots := 0, locals := 94 }, fun _ _ => True)
def M_X4_mixCursors : z_M := (yX4_mixCursors, cX4_mixCursors, 7, (some .long), { frames := 5, cells := 0, slots := 0, locals := 114 }, fun _ _ => True)
def M_X4_isControl : z_M := (yX4_isControl, cX4_isControl, 1, (some .boolean), { frames := 0, cells := 0, slots := 0, locals := 0 }, fun _ _ => True)
def M_X4_isWidth : z_M := (yX4_isWidth, cX4_isWidth, 1, (some .boolean), { frames := 0, cells := 0, slots := 0, locals := 0 }, fun _ _ => True)
def M_X4_sizeOf : z_M := (yX4_sizeOf, cX4_sizeOf, 1, (some .int), { frames := 0, cells := 0, slots := 0, locals := 0 }, fun _ _ => True)
def M_X4_obey : z_M := (yX4_obey, cX4_obey, 3, none, { frames := 4, cells := 0, slots := 0, locals := 87 }, fun _ _ => True)
def M_X4_stateAt : z_M := (yX4_stateAt, cX4_stateAt, 2, (some (.object "PouredScreen$Sheet")), { frames := 0, cells := 0, slots := 0, locals := 0 }, fun _ _ => True)
def M_X4_remember : z_M := (yX4_remember, cX4_remember, 2, (some (.object "PouredScreen$Sheet")), { frames := 3, cells := 0, slots := 0, locals := 83 }, fun _ _ => True)
def M_X5_init : z_M := (yX5_init, cX5_init, 2, none, { frames := 3, cells := 7, slots := 7195, locals := 64 }, fun _ _ => True)
def M_X5_in : z_M := (yX5_in, cX5_in, 3, (some .boolean), { frames := 0, cells := 0, slots := 0, locals := 0 }, fun _ _ => True)
def M_X5_records : z_M := (yX5_records, cX5_records, 2, none, { frames := 0, cells := 0, slots := 0, locals := 0 }, fun _ _ => True)
def M_X5_at : z_M := (yX5_at, cX5_at, 2, (some .int), { frames := 0, cells := 0, slots := 0, locals := 0 }, fun _ _ => True)
def M_X5_code : z_M := (yX5_code, cX5_code, 3, (some .int), { frames := 1, cells := 0, slots := 0, locals := 21 }, fun _ _ => True)
def M_X5_isIt : z_M := (yX5_isIt, cX5_isIt, 3, (some .boolean), { frames := 1, cells := 0, slots := 0, locals := 21 }, fun _ _ => True)
def M_X5_blanks : z_M := (yX5_blanks, cX5_blanks, 3, none, { frames := 2, cells := 0, slots := 0, locals := 42 }, fun _ _ => True)
def M_X5_unwraps : z_M := (yX5_unwraps, cX5_unwraps, 2, none, { frames := 1, cells := 0, slots := 0, locals := 21 }, fun _ _ => True)
def M_X5_copies : z_M := (yX5_copies, cX5_copies, 4, none, { frames := 1, cells := 0, slots := 0, locals := 21 }, fun _ _ => True)
def M_X5_isWide : z_M := (yX5_isWide, cX5_isWide, 1, (some .boolean), { frames := 1, cells := 0, slots := 0, locals := 22 }, fun _ _ => True)
def M_X5_isRight : z_M := (yX5_isRight, cX5_isRight, 1, (some .boolean), { frames := 0, cells := 0, slots := 0, locals := 0 }, fun _ _ => True)
def M_X5_unwrapsAhead : z_M := (yX5_unwrapsAhead, cX5_unwrapsAhead, 2, none, { frames := 2, cells := 0, slots := 0, locals := 42 }, fun _ _ => True)
def M_X5_sets : z_M := (yX5_sets, cX5_sets, 4, none, { frames := 2, cells := 0, slots := 0, locals := 42 }, fun _ _ => True)
def M_X5_frees : z_M := (yX5_frees, cX5_frees, 4, none, { frames := 3, cells := 0, slots := 0, locals := 65 }, fun _ _ => True)
def M_X5_erases : z_M := (yX5_erases, cX5_erases, 5, none, { frames := 4, cells := 0, slots := 0, locals := 88 }, fun _ _ => True)
def M_X5_usedCells : z_M := (yX5_usedCells, cX5_usedCells, 3, (some .int), { frames := 2, cells := 0, slots := 0, locals := 43 }, fun _ _ => True)
def M_X5_filled : z_M := (yX5_filled, cX5_filled, 4, (some .int), { frames := 2, cells := 0, slots := 0, locals := 43 }, fun _ _ => True)
def M_X5_filledAll : z_M := (yX5_filledAll, cX5_filledAll, 3, (some .int), { frames := 3, cells := 0, slots := 0, locals := 66 }, fun _ _ => True)
def M_X5_keepsRow : z_M := (yX5_keepsRow, cX5_keepsRow, 3, none, { frames := 2, cells := 0, slots := 0, locals := 44 }, fun _ _ => True)
def M_X5_scrolls : z_M := (yX5_scrolls, cX5_scrolls, 4, none, { frames := 3, cells := 0, slots := 0, locals := 66 }, fun _ _ => True)
def M_X5_feedsLine : z_M := (yX5_feedsLine, cX5_feedsLine, 1, (some .boolean), { frames := 4, cells := 0, slots := 0, locals := 89 }, fun _ _ => True)
def M_X5_goesOn : z_M := (yX5_goesOn, cX5_goesOn, 4, none, { frames := 5, cells := 0, slots := 0, locals := 109 }, fun _ _ => True)
def M_X5_writes : z_M := (yX5_writes, cX5_writes, 4, none, { frames := 6, cells := 0, slots := 0, locals := 132 }, fun _ _ => True)
def M_X5_moves : z_M := (yX5_moves, cX5_moves, 4, none, { frames := 5, cells := 0, slots := 0, locals := 109 }, fun _ _ => True)
def M_X5_feed : z_M := (yX5_feed, cX5_feed, 3, (some .int), { frames := 7, cells := 0, slots := 0, locals := 155 }, fun _ _ => True)
def M_X5_isRow : z_M := (yX5_isRow, cX5_isRow, 2, (some .boolean), { frames := 1, cells := 0, slots := 0, locals := 22 }, fun _ _ => True)
def M_X5_isColumn : z_M := (yX5_isColumn, cX5_isColumn, 2, (some .boolean), { frames := 1, cells := 0, slots := 0, locals := 22 }, fun _ _ => True)
def M_X5_goes : z_M := (yX5_goes, cX5_goes, 3, none, { frames := 0, cells := 0, slots := 0, locals := 0 }, fun _ _ => True)
def M_X5_moveTo : z_M := (yX5_moveTo, cX5_moveTo, 4, (some .int), { frames := 2, cells := 0, slots := 0, locals := 43 }, fun _ _ => True)
def M_X5_setRegion : z_M := (yX5_setRegion, cX5_setRegion, 3, (some .int), { frames := 2, cells := 0, slots := 0, locals := 43 }, fun _ _ => True)
def M_X5_erasesLine : z_M := (yX5_erasesLine, cX5_erasesLine, 4, none, { frames := 5, cells := 0, slots := 0, locals := 112 }, fun _ _ => True)
def M_X5_eraseLine : z_M := (yX5_eraseLine, cX5_eraseLine, 3, (some .int), { frames := 6, cells := 0, slots := 0, locals := 135 }, fun _ _ => True)
def M_X5_eraseScreen : z_M := (yX5_eraseScreen, cX5_eraseScreen, 5, (some .int), { frames := 6, cells := 0, slots := 0, locals := 135 }, fun _ _ => True)
def M_X5_isInRegion : z_M := (yX5_isInRegion, cX5_isInRegion, 1, (some .boolean), { frames := 1, cells := 0, slots := 0, locals := 22 }, fun _ _ => True)
def M_X5_filledRows : z_M := (yX5_filledRows, cX5_filledRows, 5, (some .int), { frames := 3, cells := 0, slots := 0, locals := 66 }, fun _ _ => True)
def M_X5_insertRows : z_M := (yX5_insertRows, cX5_insertRows, 7, (some .int), { frames := 4, cells := 0, slots := 0, locals := 90 }, fun _ _ => True)
def M_X5_deleteRows : z_M := (yX5_deleteRows, cX5_deleteRows, 7, (some .int), { frames := 4, cells := 0, slots := 0, locals := 90 }, fun _ _ => True)
def M_X5_splits : z_M := (yX5_splits, cX5_splits, 4, none, { frames := 2, cells := 0, slots := 0, locals := 43 }, fun _ _ => True)
def M_X5_insertCells : z_M := (yX5_insertCells, cX5_insertCells, 7, (some .int), { frames := 3, cells := 0, slots := 0, locals := 66 }, fun _ _ => True)
def M_X5_deleteCells : z_M := (yX5_deleteCells, cX5_deleteCells, 7, (some .int), { frames := 3, cells := 0, slots := 0, locals := 66 }, fun _ _ => True)
def M_X5_keep : z_M := (yX5_keep, cX5_keep, 1, (some .int), { frames := 1, cells := 0, slots := 0, locals := 21 }, fun _ _ => True)
def M_X5_back : z_M := (yX5_back, cX5_back, 1, (some .int), { frames := 1, cells := 0, slots := 0, locals := 22 }, fun _ _ => True)
def M_X5_counted : z_M := (yX5_counted, cX5_counted, 3, (some .int), { frames := 3, cells := 0, slots := 0, locals := 66 }, fun _ _ => True)
def M_X5_slot : z_M := (yX5_slot, cX5_slot, 2, (some .int), { frames := 0, cells := 0, slots := 0, locals := 0 }, fun _ _ => True)
def M_X5_lineEnd : z_M := (yX5_lineEnd, cX5_lineEnd, 4, (some .int), { frames := 2, cells := 0, slots := 0, locals := 43 }, fun _ _ => True)
def M_X5_lineBegin : z_M := (yX5_lineBegin, cX5_lineBegin, 5, (some .int), { frames := 3, cells := 0, slots := 0, locals := 66 }, fun _ _ => True)
def M_X5_lines : z_M := (yX5_lines, cX5_lines, 4, (some .int), { frames := 4, cells := 0, slots := 0, locals := 88 }, fun _ _ => True)
def M_X5_cellsOf : z_M := (yX5_cellsOf, cX5_cellsOf, 3, (some .int), { frames := 3, cells := 0, slots := 0, locals := 65 }, fun _ _ => True)
def M_X5_signsIn : z_M := (yX5_signsIn, cX5_signsIn, 5, (some .int), { frames := 2, cells := 0, slots := 0, locals := 43 }, fun _ _ => True)
def M_X5_signsOf : z_M := (yX5_signsOf, cX5_signsOf, 5, (some .int), { frames := 4, cells := 0, slots := 0, locals := 87 }, fun _ _ => True)
def M_X5_lineOf : z_M := (yX5_lineOf, cX5_lineOf, 6, (some .int), { frames := 5, cells := 0, slots := 0, locals := 111 }, fun _ _ => True)
def M_X5_line : z_M := (yX5_line, cX5_line, 5, (some .int), { frames := 6, cells := 0, slots := 0, locals := 136 }, fun _ _ => True)
def M_X5_signOf : z_M := (yX5_signOf, cX5_signOf, 9, (some .int), { frames := 4, cells := 0, slots := 0, locals := 87 }, fun _ _ => True)
def M_X5_sign : z_M := (yX5_sign, cX5_sign, 5, (some .int), { frames := 5, cells := 0, slots := 0, locals := 115 }, fun _ _ => True)
def M_X5_lineAt : z_M := (yX5_lineAt, cX5_lineAt, 6, (some .int), { frames := 4, cells := 0, slots := 0, locals := 88 }, fun _ _ => True)
def M_X5_markOf : z_M := (yX5_markOf, cX5_markOf, 9, (some .int), { frames := 5, cells := 0, slots := 0, locals := 113 }, fun _ _ => True)
def M_X5_rowOf : z_M := (yX5_rowOf, cX5_rowOf, 2, (some .int), { frames := 0, cells := 0, slots := 0, locals := 0 }, fun _ _ => True)
def M_X5_columnOf : z_M := (yX5_columnOf, cX5_columnOf, 2, (some .int), { frames := 0, cells := 0, slots := 0, locals := 0 }, fun _ _ => True)
def M_X5_cursorOf : z_M := (yX5_cursorOf, cX5_cursorOf, 4, (some .int), { frames := 6, cells := 0, slots := 0, locals := 141 }, fun _ _ => True)
def M_X5_cursor : z_M := (yX5_cursor, cX5_cursor, 3, (some .int), { frames := 7, cells := 0, slots := 0, locals := 164 }, fun _ _ => True)
def M_X5_lays : z_M := (yX5_lays, cX5_lays, 4, none, { frames := 0, cells := 0, slots := 0, locals := 0 }, fun _ _ => True)
def M_X5_pours : z_M := (yX5_pours, cX5_pours, 3, none, { frames := 2, cells := 0, slots := 0, locals := 42 }, fun _ _ => True)
def M_X5_meets : z_M := (yX5_meets, cX5_meets, 4, none, { frames := 0, cells := 0, slots := 0, locals := 0 }, fun _ _ => True)
def M_X5_ends : z_M := (yX5_ends, cX5_ends, 5, none, { frames := 0, cells := 0, slots := 0, locals := 0 }, fun _ _ => True)
def M_X5_poursAll : z_M := (yX5_poursAll, cX5_poursAll, 10, (some .int), { frames := 4, cells := 0, slots := 0, locals := 88 }, fun _ _ => True)
def M_X5_rowsWith : z_M := (yX5_rowsWith, cX5_rowsWith, 2, (some .int), { frames := 5, cells := 0, slots := 0, locals := 117 }, fun _ _ => True)
def M_X5_ifWidth : z_M := (yX5_ifWidth, cX5_ifWidth, 2, (some .int), { frames := 6, cells := 0, slots := 0, locals := 138 }, fun _ _ => True)
def M_X5_widthFor : z_M := (yX5_widthFor, cX5_widthFor, 3, (some .int), { frames := 6, cells := 0, slots := 0, locals := 138 }, fun _ _ => True)
def M_X5_marks : z_M := (yX5_marks, cX5_marks, 3, none, { frames := 7, cells := 0, slots := 0, locals := 164 }, fun _ _ => True)
def M_X5_takes : z_M := (yX5_takes, cX5_takes, 4, none, { frames := 1, cells := 0, slots := 0, locals := 21 }, fun _ _ => True)
def M_X5_resize : z_M := (yX5_resize, cX5_resize, 6, (some .int), { frames := 8, cells := 0, slots := 0, locals := 186 }, fun _ _ => True)
def M_X5_lands : z_M := (yX5_lands, cX5_lands, 6, none, { frames := 1, cells := 0, slots := 0, locals := 22 }, fun _ _ => True)
def M_X5_cell : z_M := (yX5_cell, cX5_cell, 4, (some .int), { frames := 2, cells := 0, slots := 0, locals := 43 }, fun _ _ => True)
def M_X5_signsFilled : z_M := (yX5_signsFilled, cX5_signsFilled, 4, (some .int), { frames := 2, cells := 0, slots := 0, locals := 43 }, fun _ _ => True)
def M_X5_rowOfSlot : z_M := (yX5_rowOfSlot, cX5_rowOfSlot, 3, (some .int), { frames := 3, cells := 0, slots := 0, locals := 66 }, fun _ _ => True)
def M_X5_row : z_M := (yX5_row, cX5_row, 3, (some .int), { frames := 4, cells := 0, slots := 0, locals := 88 }, fun _ _ => True)
def M_X5_told : z_M := (yX5_told, cX5_told, 2, (some .int), { frames := 5, cells := 0, slots := 0, locals := 111 }, fun _ _ => True)
def M_X5_undo : z_M := (yX5_undo, cX5_undo, 2, (some .int), { frames := 0, cells := 0, slots := 0, locals := 0 }, fun _ _ => True)
def M_X5_mixedLines : z_M := (yX5_mixedLines, cX5_mixedLines, 10, (some .long), { frames := 6, cells := 0, slots := 0, locals := 136 }, fun _ _ => True)
def M_X5_digest : z_M := (yX5_digest, cX5_digest, 5, (some .long), { frames := 7, cells := 0, slots := 0, locals := 165 }, fun _ _ => True)
def M_L_law : z_M := (yL_law, cL_law, 4, ret, room_1, fun _ _ => True)
theorem f_RX4_12 : z_F RX4 12 4 0 RX4 TX4 5 := ⟨rfl, by decide, Or.inl (z_tab 163 (by decide +kernel) rfl)⟩
theorem f_RX4_16 : z_F RX4 16 4 1 RX4 TX4 5 := ⟨rfl, by decide, Or.inl (z_tab 164 (by decide +kernel) rfl)⟩
theorem f_RX4_23 : z_F RX4 23 4 2 RX4 TX4 5 := ⟨rfl, by decide, Or.inl (z_tab 165 (by decide +kernel) rfl)⟩
theorem f_RX4_27 : z_F RX4 27 4 3 RX4 TX4 5 := ⟨rfl, by decide, Or.inl (z_tab 166 (by decide +kernel) rfl)⟩
theorem f_RX4_31 : z_F RX4 31 4 4 RX4 TX4 5 := ⟨rfl, by decide, Or.inl (z_tab 167 (by decide +kernel) rfl)⟩
theorem f_RX4_49 : z_F RX4 49 3 4 RX3 TX3 9 := ⟨rfl, by decide, Or.inr ⟨"PouredScreen", z_nst 85 (by decide +kernel) rfl⟩⟩
theorem f_RX4_56 : z_F RX4 56 3 5 RX3 TX3 9 := ⟨rfl, by decide, Or.inr ⟨"PouredScreen", z_nst 88 (by decide +kernel) rfl⟩⟩
theorem f_RX4_59 : z_F RX4 59 3 1 RX3 TX3 9 := ⟨rfl, by decide, Or.inr ⟨"PouredScreen", z_nst 78 (by decide +kernel) rfl⟩⟩
theorem f_RX4_63 : z_F RX4 63 0 0 RX0 TX0 3 := ⟨rfl, by decide, Or.inr ⟨"PouredScreen", z_nst 32 (by decide +kernel) rfl⟩⟩
theorem f_RX4_68 : z_F RX4 68 0 1 RX0 TX0 3 := ⟨rfl, by decide, Or.inr ⟨"PouredScreen", z_nst 36 (by decide +kernel) rfl⟩⟩
theorem f_RX4_75 : z_F RX4 75 3 6 RX3 TX3 9 := ⟨rfl, by decide, Or.inr ⟨"PouredScreen", z_nst 91 (by decide +kernel) rfl⟩⟩
theorem f_RX4_78 : z_F RX4 78 3 7 RX3 TX3 9 := ⟨rfl, by decide, Or.inr ⟨"PouredScreen", z_nst 93 (by decide +kernel) rfl⟩⟩
theorem f_RX4_81 : z_F RX4 81 3 8 RX3 TX3 9 := ⟨rfl, by decide, Or.inr ⟨"PouredScreen", z_nst 95 (by decide +kernel) rfl⟩⟩
theorem f_RX4_91 : z_F RX4 91 0 2 RX0 TX0 3 := ⟨rfl, by decide, Or.inr ⟨"PouredScreen", z_nst 39 (by decide +kernel) rfl⟩⟩
theorem f_RX4_129 : z_F RX4 129 3 3 RX3 TX3 9 := ⟨rfl, by decide, Or.inr ⟨"PouredScreen", z_nst 83 (by decide +kernel) rfl⟩⟩
theorem f_RX4_151 : z_F RX4 151 2 1 RX2 TX2 3 := ⟨rfl, by decide, Or.inr ⟨"PouredScreen", z_nst 63 (by decide +kernel) rfl⟩⟩
theorem f_RX4_154 : z_F RX4 154 2 2 RX2 TX2 3 := ⟨rfl, by decide, Or.inr ⟨"PouredScreen", z_nst 67 (by decide +kernel) rfl⟩⟩
theorem f_RX4_250 : z_F RX4 250 1 6 RX1 TX1 13 := ⟨rfl, by decide, Or.inr ⟨"PouredScreen", z_nst 129 (by decide +kernel) rfl⟩⟩
theorem f_RX0_7 : z_F RX0 7 0 0 RX0 TX0 3 := ⟨rfl, by decide, Or.inl (z_tab 31 (by decide +kernel) rfl)⟩
theorem f_RX0_13 : z_F RX0 13 0 1 RX0 TX0 3 := ⟨rfl, by decide, Or.inl (z_tab 35 (by decide +kernel) rfl)⟩
theorem f_RX0_16 : z_F RX0 16 0 2 RX0 TX0 3 := ⟨rfl, by decide, Or.inl (z_tab 38 (by decide +kernel) rfl)⟩
theorem f_RX1_9 : z_F RX1 9 1 0 RX1 TX1 13 := ⟨rfl, by decide, Or.inl (z_tab 122 (by decide +kernel) rfl)⟩
theorem f_RX1_15 : z_F RX1 15 1 1 RX1 TX1 13 := ⟨rfl, by decide, Or.inl (z_tab 123 (by decide +kernel) rfl)⟩
theorem f_RX1_19 : z_F RX1 19 1 2 RX1 TX1 13 := ⟨rfl, by decide, Or.inl (z_tab 124 (by decide +kernel) rfl)⟩
theorem f_RX1_22 : z_F RX1 22 1 3 RX1 TX1 13 := ⟨rfl, by decide, Or.inl (z_tab 125 (by decide +kernel) rfl)⟩
theorem f_RX1_25 : z_F RX1 25 1 4 RX1 TX1 13 := ⟨rfl, by decide, Or.inl (z_tab 126 (by decide +kernel) rfl)⟩
theorem f_RX1_28 : z_F RX1 28 1 5 RX1 TX1 13 := ⟨rfl, by decide, Or.inl (z_tab 127 (by decide +kernel) rfl)⟩
theorem f_RX1_31 : z_F RX1 31 1 6 RX1 TX1 13 := ⟨rfl, by decide, Or.inl (z_tab 128 (by decide +kernel) rfl)⟩
theorem f_RX1_34 : z_F RX1 34 1 7 RX1 TX1 13 := ⟨rfl, by decide, Or.inl (z_tab 130 (by decide +kernel) rfl)⟩
theorem f_RX1_37 : z_F RX1 37 1 8 RX1 TX1 13 := ⟨rfl, by decide, Or.inl (z_tab 131 (by decide +kernel) rfl)⟩
theorem f_RX1_40 : z_F RX1 40 1 9 RX1 TX1 13 := ⟨rfl, by decide, Or.inl (z_tab 132 (by decide +kernel) rfl)⟩
theorem f_RX1_43 : z_F RX1 43 1 10 RX1 TX1 13 := ⟨rfl, by decide, Or.inl (z_tab 133 (by decide +kernel) rfl)⟩
theorem f_RX1_46 : z_F RX1 46 1 11 RX1 TX1 13 := ⟨rfl, by decide, Or.inl (z_tab 134 (by decide +kernel) rfl)⟩
theorem f_RX1_50 : z_F RX1 50 1 12 RX1 TX1 13 := ⟨rfl, by decide, Or.inl (z_tab 135 (by decide +kernel) rfl)⟩
theorem f_RX1_72 : z_F RX1 72 3 5 RX3 TX3 9 := ⟨rfl, by decide, Or.inr ⟨"PouredScreen", z_nst 89 (by decide +kernel) rfl⟩⟩
theorem f_RX1_114 : z_F RX1 114 3 4 RX3 TX3 9 := ⟨rfl, by decide, Or.inr ⟨"PouredScreen", z_nst 86 (by decide +kernel) rfl⟩⟩
theorem f_RX1_121 : z_F RX1 121 3 1 RX3 TX3 9 := ⟨rfl, by decide, Or.inr ⟨"PouredScreen", z_nst 79 (by decide +kernel) rfl⟩⟩
theorem f_RX1_129 : z_F RX1 129 3 3 RX3 TX3 9 := ⟨rfl, by decide, Or.inr ⟨"PouredScreen", z_nst 82 (by decide +kernel) rfl⟩⟩
theorem f_RX1_136 : z_F RX1 136 0 2 RX0 TX0 3 := ⟨rfl, by decide, Or.inr ⟨"PouredScreen", z_nst 40 (by decide +kernel) rfl⟩⟩
theorem f_RX1_145 : z_F RX1 145 2 1 RX2 TX2 3 := ⟨rfl, by decide, Or.inr ⟨"PouredScreen", z_nst 61 (by decide +kernel) rfl⟩⟩
theorem f_RX1_148 : z_F RX1 148 2 2 RX2 TX2 3 := ⟨rfl, by decide, Or.inr ⟨"PouredScreen", z_nst 65 (by decide +kernel) rfl⟩⟩
theorem f_RX1_154 : z_F RX1 154 0 0 RX0 TX0 3 := ⟨rfl, by decide, Or.inr ⟨"PouredScreen", z_nst 34 (by decide +kernel) rfl⟩⟩
theorem f_RX2_9 : z_F RX2 9 2 0 RX2 TX2 3 := ⟨rfl, by decide, Or.inl (z_tab 59 (by decide +kernel) rfl)⟩
theorem f_RX2_18 : z_F RX2 18 2 1 RX2 TX2 3 := ⟨rfl, by decide, Or.inl (z_tab 60 (by decide +kernel) rfl)⟩
theorem f_RX2_22 : z_F RX2 22 2 2 RX2 TX2 3 := ⟨rfl, by decide, Or.inl (z_tab 64 (by decide +kernel) rfl)⟩
theorem f_RX3_11 : z_F RX3 11 3 0 RX3 TX3 9 := ⟨rfl, by decide, Or.inl (z_tab 76 (by decide +kernel) rfl)⟩
theorem f_RX3_20 : z_F RX3 20 3 1 RX3 TX3 9 := ⟨rfl, by decide, Or.inl (z_tab 77 (by decide +kernel) rfl)⟩
theorem f_RX3_24 : z_F RX3 24 3 2 RX3 TX3 9 := ⟨rfl, by decide, Or.inl (z_tab 80 (by decide +kernel) rfl)⟩
theorem f_RX3_28 : z_F RX3 28 3 3 RX3 TX3 9 := ⟨rfl, by decide, Or.inl (z_tab 81 (by decide +kernel) rfl)⟩
theorem f_RX3_32 : z_F RX3 32 3 4 RX3 TX3 9 := ⟨rfl, by decide, Or.inl (z_tab 84 (by decide +kernel) rfl)⟩
theorem f_RX3_35 : z_F RX3 35 3 5 RX3 TX3 9 := ⟨rfl, by decide, Or.inl (z_tab 87 (by decide +kernel) rfl)⟩
theorem f_RX3_38 : z_F RX3 38 3 6 RX3 TX3 9 := ⟨rfl, by decide, Or.inl (z_tab 90 (by decide +kernel) rfl)⟩
theorem f_RX3_41 : z_F RX3 41 3 7 RX3 TX3 9 := ⟨rfl, by decide, Or.inl (z_tab 92 (by decide +kernel) rfl)⟩
theorem f_RX3_44 : z_F RX3 44 3 8 RX3 TX3 9 := ⟨rfl, by decide, Or.inl (z_tab 94 (by decide +kernel) rfl)⟩
theorem f_RX3_66 : z_F RX3 66 0 0 RX0 TX0 3 := ⟨rfl, by decide, Or.inr ⟨"PouredScreen", z_nst 33 (by decide +kernel) rfl⟩⟩
theorem f_RX3_69 : z_F RX3 69 0 1 RX0 TX0 3 := ⟨rfl, by decide, Or.inr ⟨"PouredScreen", z_nst 37 (by decide +kernel) rfl⟩⟩
theorem f_RX3_83 : z_F RX3 83 0 2 RX0 TX0 3 := ⟨rfl, by decide, Or.inr ⟨"PouredScreen", z_nst 41 (by decide +kernel) rfl⟩⟩
theorem f_RX3_99 : z_F RX3 99 2 2 RX2 TX2 3 := ⟨rfl, by decide, Or.inr ⟨"PouredScreen", z_nst 66 (by decide +kernel) rfl⟩⟩
theorem f_RX3_105 : z_F RX3 105 2 1 RX2 TX2 3 := ⟨rfl, by decide, Or.inr ⟨"PouredScreen", z_nst 62 (by decide +kernel) rfl⟩⟩
theorem f_RX5_7 : z_F RX5 7 5 0 RX5 TX5 13 := ⟨rfl, by decide, Or.inl (z_tab 608 (by decide +kernel) rfl)⟩
theorem f_RX5_13 : z_F RX5 13 5 2 RX5 TX5 13 := ⟨rfl, by decide, Or.inl (z_tab 610 (by decide +kernel) rfl)⟩
theorem f_RX5_16 : z_F RX5 16 5 3 RX5 TX5 13 := ⟨rfl, by decide, Or.inl (z_tab 611 (by decide +kernel) rfl)⟩
theorem f_RX5_19 : z_F RX5 19 5 4 RX5 TX5 13 := ⟨rfl, by decide, Or.inl (z_tab 612 (by decide +kernel) rfl)⟩
theorem f_RX5_22 : z_F RX5 22 5 5 RX5 TX5 13 := ⟨rfl, by decide, Or.inl (z_tab 613 (by decide +kernel) rfl)⟩
theorem f_RX5_25 : z_F RX5 25 5 6 RX5 TX5 13 := ⟨rfl, by decide, Or.inl (z_tab 614 (by decide +kernel) rfl)⟩
theorem f_RX5_28 : z_F RX5 28 5 7 RX5 TX5 13 := ⟨rfl, by decide, Or.inl (z_tab 615 (by decide +kernel) rfl)⟩
theorem f_RX5_36 : z_F RX5 36 5 1 RX5 TX5 13 := ⟨rfl, by decide, Or.inl (z_tab 609 (by decide +kernel) rfl)⟩
theorem f_RX5_180 : z_F RX5 180 5 11 RX5 TX5 13 := ⟨rfl, by decide, Or.inl (z_tab 619 (by decide +kernel) rfl)⟩
theorem f_RX5_183 : z_F RX5 183 5 9 RX5 TX5 13 := ⟨rfl, by decide, Or.inl (z_tab 617 (by decide +kernel) rfl)⟩
theorem f_RX5_186 : z_F RX5 186 5 10 RX5 TX5 13 := ⟨rfl, by decide, Or.inl (z_tab 618 (by decide +kernel) rfl)⟩
theorem f_RX5_190 : z_F RX5 190 5 12 RX5 TX5 13 := ⟨rfl, by decide, Or.inl (z_tab 620 (by decide +kernel) rfl)⟩
theorem f_RX5_193 : z_F RX5 193 5 8 RX5 TX5 13 := ⟨rfl, by decide, Or.inl (z_tab 616 (by decide +kernel) rfl)⟩
theorem l_RX4_11 : z_LI RX4 11 yX3_init cX3_init 2 (none) 0 := ⟨⟨Or.inl (z_tab 19 (by decide +kernel) rfl), z_tab 21 (by decide +kernel) rfl, z_tab 2 (by decide +kernel) rfl, by decide +kernel, by decide +kernel, by decide +kernel⟩, rfl, z_tab 20 (by decide +kernel) rfl⟩
theorem l_RX4_22 : z_LI RX4 22 yX1_init cX1_init 1 (none) 0 := ⟨⟨Or.inr ⟨"PouredScreen", z_nst 118 (by decide +kernel) rfl⟩, z_tab 120 (by decide +kernel) rfl, z_tab 5 (by decide +kernel) rfl, by decide +kernel, by decide +kernel, by decide +kernel⟩, rfl, z_tab 119 (by decide +kernel) rfl⟩
theorem l_RX4_34 : z_LS RX4 34 yX4_isControl cX4_isControl 1 ((some .boolean)) 1 := ⟨⟨Or.inl (z_tab 183 (by decide +kernel) rfl), z_tab 185 (by decide +kernel) rfl, z_tab 1 (by decide +kernel) rfl, by decide +kernel, by decide +kernel, by decide +kernel⟩, z_tab 184 (by decide +kernel) rfl⟩
theorem l_RX4_38 : z_LV RX4 38 yX4_remember cX4_remember 2 ((some (.object "PouredScreen$Sheet"))) 0 := ⟨⟨Or.inl (z_tab 186 (by decide +kernel) rfl), z_tab 189 (by decide +kernel) rfl, z_tab 1 (by decide +kernel) rfl, by decide +kernel, by decide +kernel, by decide +kernel⟩, z_tab 188 (by decide +kernel) rfl, z_sel 0 (q := (yX4_remember, 5)) (by decide +kernel) rfl⟩
theorem l_RX4_42 : z_LV RX4 42 yX3_write cX3_write 2 (none) 1 := ⟨⟨Or.inl (z_tab 220 (by decide +kernel) rfl), z_tab 223 (by decide +kernel) rfl, z_tab 2 (by decide +kernel) rfl, by decide +kernel, by decide +kernel, by decide +kernel⟩, z_tab 221 (by decide +kernel) rfl, z_tab 222 (by decide +kernel) rfl⟩
theorem l_RX4_46 : z_LV RX4 46 yX4_obey cX4_obey 3 (none) 1 := ⟨⟨Or.inl (z_tab 282 (by decide +kernel) rfl), z_tab 285 (by decide +kernel) rfl, z_tab 1 (by decide +kernel) rfl, by decide +kernel, by decide +kernel, by decide +kernel⟩, z_tab 284 (by decide +kernel) rfl, z_sel 8 (q := (yX4_obey, 5)) (by decide +kernel) rfl⟩
theorem l_RX4_52 : z_LV RX4 52 yX3_hasCell cX3_hasCell 3 ((some .boolean)) 2 := ⟨⟨Or.inl (z_tab 294 (by decide +kernel) rfl), z_tab 297 (by decide +kernel) rfl, z_tab 2 (by decide +kernel) rfl, by decide +kernel, by decide +kernel, by decide +kernel⟩, z_tab 295 (by decide +kernel) rfl, z_tab 296 (by decide +kernel) rfl⟩
theorem l_RX4_71 : z_LV RX4 71 yX0_set cX0_set 3 (none) 2 := ⟨⟨Or.inl (z_tab 298 (by decide +kernel) rfl), z_tab 301 (by decide +kernel) rfl, z_tab 3 (by decide +kernel) rfl, by decide +kernel, by decide +kernel, by decide +kernel⟩, z_tab 299 (by decide +kernel) rfl, z_tab 300 (by decide +kernel) rfl⟩
theorem l_RX4_84 : z_LV RX4 84 yX3_taken cX3_taken 3 ((some .int)) 0 := ⟨⟨Or.inl (z_tab 310 (by decide +kernel) rfl), z_tab 313 (by decide +kernel) rfl, z_tab 2 (by decide +kernel) rfl, by decide +kernel, by decide +kernel, by decide +kernel⟩, z_tab 311 (by decide +kernel) rfl, z_tab 312 (by decide +kernel) rfl⟩
theorem l_RX4_88 : z_LV RX4 88 yX3_eraseInRow cX3_eraseInRow 4 (none) 1 := ⟨⟨Or.inl (z_tab 318 (by decide +kernel) rfl), z_tab 321 (by decide +kernel) rfl, z_tab 2 (by decide +kernel) rfl, by decide +kernel, by decide +kernel, by decide +kernel⟩, z_tab 319 (by decide +kernel) rfl, z_tab 320 (by decide +kernel) rfl⟩
theorem l_RX4_95 : z_LV RX4 95 yX3_eraseRows cX3_eraseRows 4 (none) 2 := ⟨⟨Or.inl (z_tab 327 (by decide +kernel) rfl), z_tab 330 (by decide +kernel) rfl, z_tab 2 (by decide +kernel) rfl, by decide +kernel, by decide +kernel, by decide +kernel⟩, z_tab 328 (by decide +kernel) rfl, z_tab 329 (by decide +kernel) rfl⟩
theorem l_RX4_98 : z_LV RX4 98 yX3_isCursorInRegion cX3_isCursorInRegion 1 ((some .boolean)) 0 := ⟨⟨Or.inl (z_tab 335 (by decide +kernel) rfl), z_tab 338 (by decide +kernel) rfl, z_tab 2 (by decide +kernel) rfl, by decide +kernel, by decide +kernel, by decide +kernel⟩, z_tab 336 (by decide +kernel) rfl, z_tab 337 (by decide +kernel) rfl⟩
theorem l_RX4_102 : z_LV RX4 102 yX3_openRows cX3_openRows 4 ((some .int)) 1 := ⟨⟨Or.inl (z_tab 339 (by decide +kernel) rfl), z_tab 342 (by decide +kernel) rfl, z_tab 2 (by decide +kernel) rfl, by decide +kernel, by decide +kernel, by decide +kernel⟩, z_tab 340 (by decide +kernel) rfl, z_tab 341 (by decide +kernel) rfl⟩
theorem l_RX4_106 : z_LV RX4 106 yX3_closeRows cX3_closeRows 4 ((some .int)) 1 := ⟨⟨Or.inl (z_tab 355 (by decide +kernel) rfl), z_tab 358 (by decide +kernel) rfl, z_tab 2 (by decide +kernel) rfl, by decide +kernel, by decide +kernel, by decide +kernel⟩, z_tab 356 (by decide +kernel) rfl, z_tab 357 (by decide +kernel) rfl⟩
theorem l_RX4_109 : z_LV RX4 109 yX3_screenRow cX3_screenRow 2 ((some (.object "PouredScreen$Row"))) 1 := ⟨⟨Or.inl (z_tab 363 (by decide +kernel) rfl), z_tab 256 (by decide +kernel) rfl, z_tab 2 (by decide +kernel) rfl, by decide +kernel, by decide +kernel, by decide +kernel⟩, z_tab 254 (by decide +kernel) rfl, z_tab 255 (by decide +kernel) rfl⟩
theorem l_RX4_113 : z_LV RX4 113 yX2_taken cX2_taken 6 ((some .int)) 0 := ⟨⟨Or.inl (z_tab 364 (by decide +kernel) rfl), z_tab 317 (by decide +kernel) rfl, z_tab 4 (by decide +kernel) rfl, by decide +kernel, by decide +kernel, by decide +kernel⟩, z_tab 315 (by decide +kernel) rfl, z_tab 316 (by decide +kernel) rfl⟩
theorem l_RX4_122 : z_LV RX4 122 yX2_openCells cX2_openCells 5 (none) 3 := ⟨⟨Or.inl (z_tab 365 (by decide +kernel) rfl), z_tab 368 (by decide +kernel) rfl, z_tab 4 (by decide +kernel) rfl, by decide +kernel, by decide +kernel, by decide +kernel⟩, z_tab 366 (by decide +kernel) rfl, z_tab 367 (by decide +kernel) rfl⟩
theorem l_RX4_126 : z_LV RX4 126 yX2_closeCells cX2_closeCells 5 (none) 3 := ⟨⟨Or.inl (z_tab 373 (by decide +kernel) rfl), z_tab 376 (by decide +kernel) rfl, z_tab 4 (by decide +kernel) rfl, by decide +kernel, by decide +kernel, by decide +kernel⟩, z_tab 374 (by decide +kernel) rfl, z_tab 375 (by decide +kernel) rfl⟩
theorem l_RX4_132 : z_LV RX4 132 yX3_keepCursor cX3_keepCursor 1 (none) 0 := ⟨⟨Or.inl (z_tab 381 (by decide +kernel) rfl), z_tab 384 (by decide +kernel) rfl, z_tab 2 (by decide +kernel) rfl, by decide +kernel, by decide +kernel, by decide +kernel⟩, z_tab 382 (by decide +kernel) rfl, z_tab 383 (by decide +kernel) rfl⟩
theorem l_RX4_135 : z_LV RX4 135 yX3_takeCursorBack cX3_takeCursorBack 1 (none) 0 := ⟨⟨Or.inl (z_tab 390 (by decide +kernel) rfl), z_tab 393 (by decide +kernel) rfl, z_tab 2 (by decide +kernel) rfl, by decide +kernel, by decide +kernel, by decide +kernel⟩, z_tab 391 (by decide +kernel) rfl, z_tab 392 (by decide +kernel) rfl⟩
theorem l_RX4_138 : z_LS RX4 138 yX4_isWidth cX4_isWidth 1 ((some .boolean)) 1 := ⟨⟨Or.inl (z_tab 398 (by decide +kernel) rfl), z_tab 400 (by decide +kernel) rfl, z_tab 1 (by decide +kernel) rfl, by decide +kernel, by decide +kernel, by decide +kernel⟩, z_tab 399 (by decide +kernel) rfl⟩
theorem l_RX4_141 : z_LV RX4 141 yX1_pour cX1_pour 10 ((some .int)) 4 := ⟨⟨Or.inl (z_tab 401 (by decide +kernel) rfl), z_tab 404 (by decide +kernel) rfl, z_tab 5 (by decide +kernel) rfl, by decide +kernel, by decide +kernel, by decide +kernel⟩, z_tab 402 (by decide +kernel) rfl, z_tab 403 (by decide +kernel) rfl⟩
theorem l_RX4_145 : z_LV RX4 145 yX2_at cX2_at 2 ((some .int)) 1 := ⟨⟨Or.inl (z_tab 488 (by decide +kernel) rfl), z_tab 272 (by decide +kernel) rfl, z_tab 4 (by decide +kernel) rfl, by decide +kernel, by decide +kernel, by decide +kernel⟩, z_tab 270 (by decide +kernel) rfl, z_tab 271 (by decide +kernel) rfl⟩
theorem l_RX4_157 : z_LV RX4 157 yX2_filled cX2_filled 2 ((some .int)) 0 := ⟨⟨Or.inl (z_tab 496 (by decide +kernel) rfl), z_tab 350 (by decide +kernel) rfl, z_tab 4 (by decide +kernel) rfl, by decide +kernel, by decide +kernel, by decide +kernel⟩, z_tab 348 (by decide +kernel) rfl, z_tab 349 (by decide +kernel) rfl⟩
theorem l_RX4_160 : z_LV RX4 160 yX2_signs cX2_signs 6 ((some .int)) 0 := ⟨⟨Or.inl (z_tab 497 (by decide +kernel) rfl), z_tab 500 (by decide +kernel) rfl, z_tab 4 (by decide +kernel) rfl, by decide +kernel, by decide +kernel, by decide +kernel⟩, z_tab 498 (by decide +kernel) rfl, z_tab 499 (by decide +kernel) rfl⟩
theorem l_RX4_163 : z_LV RX4 163 yX3_startOfLine cX3_startOfLine 5 ((some .int)) 1 := ⟨⟨Or.inl (z_tab 505 (by decide +kernel) rfl), z_tab 508 (by decide +kernel) rfl, z_tab 2 (by decide +kernel) rfl, by decide +kernel, by decide +kernel, by decide +kernel⟩, z_tab 506 (by decide +kernel) rfl, z_tab 507 (by decide +kernel) rfl⟩
theorem l_RX4_166 : z_LV RX4 166 yX3_endOf cX3_endOf 4 ((some .int)) 1 := ⟨⟨Or.inl (z_tab 509 (by decide +kernel) rfl), z_tab 477 (by decide +kernel) rfl, z_tab 2 (by decide +kernel) rfl, by decide +kernel, by decide +kernel, by decide +kernel⟩, z_tab 475 (by decide +kernel) rfl, z_tab 476 (by decide +kernel) rfl⟩
theorem l_RX4_169 : z_LV RX4 169 yX3_signsOfLine cX3_signsOfLine 5 ((some .int)) 2 := ⟨⟨Or.inl (z_tab 510 (by decide +kernel) rfl), z_tab 513 (by decide +kernel) rfl, z_tab 2 (by decide +kernel) rfl, by decide +kernel, by decide +kernel, by decide +kernel⟩, z_tab 511 (by decide +kernel) rfl, z_tab 512 (by decide +kernel) rfl⟩
theorem l_RX4_175 : z_LV RX4 175 yX1_signOf cX1_signOf 5 ((some .int)) 4 := ⟨⟨Or.inl (z_tab 518 (by decide +kernel) rfl), z_tab 521 (by decide +kernel) rfl, z_tab 5 (by decide +kernel) rfl, by decide +kernel, by decide +kernel, by decide +kernel⟩, z_tab 519 (by decide +kernel) rfl, z_tab 520 (by decide +kernel) rfl⟩
theorem l_RX4_179 : z_LV RX4 179 yX3_keptPlace cX3_keptPlace 2 ((some (.object "PouredScreen$Place"))) 1 := ⟨⟨Or.inl (z_tab 526 (by decide +kernel) rfl), z_tab 205 (by decide +kernel) rfl, z_tab 2 (by decide +kernel) rfl, by decide +kernel, by decide +kernel, by decide +kernel⟩, z_tab 203 (by decide +kernel) rfl, z_tab 204 (by decide +kernel) rfl⟩
theorem l_RX4_183 : z_LV RX4 183 yX3_lineOf cX3_lineOf 2 ((some .int)) 1 := ⟨⟨Or.inl (z_tab 527 (by decide +kernel) rfl), z_tab 530 (by decide +kernel) rfl, z_tab 2 (by decide +kernel) rfl, by decide +kernel, by decide +kernel, by decide +kernel⟩, z_tab 528 (by decide +kernel) rfl, z_tab 529 (by decide +kernel) rfl⟩
theorem l_RX4_187 : z_LV RX4 187 yX3_markOf cX3_markOf 7 ((some .int)) 1 := ⟨⟨Or.inl (z_tab 535 (by decide +kernel) rfl), z_tab 464 (by decide +kernel) rfl, z_tab 2 (by decide +kernel) rfl, by decide +kernel, by decide +kernel, by decide +kernel⟩, z_tab 462 (by decide +kernel) rfl, z_tab 463 (by decide +kernel) rfl⟩
theorem l_RX4_190 : z_LV RX4 190 yX1_rowsIn cX1_rowsIn 3 ((some .int)) 2 := ⟨⟨Or.inl (z_tab 540 (by decide +kernel) rfl), z_tab 408 (by decide +kernel) rfl, z_tab 5 (by decide +kernel) rfl, by decide +kernel, by decide +kernel, by decide +kernel⟩, z_tab 406 (by decide +kernel) rfl, z_tab 407 (by decide +kernel) rfl⟩
theorem l_RX4_194 : z_LV RX4 194 yX3_lines cX3_lines 1 ((some .int)) 0 := ⟨⟨Or.inl (z_tab 549 (by decide +kernel) rfl), z_tab 552 (by decide +kernel) rfl, z_tab 2 (by decide +kernel) rfl, by decide +kernel, by decide +kernel, by decide +kernel⟩, z_tab 550 (by decide +kernel) rfl, z_tab 551 (by decide +kernel) rfl⟩
theorem l_RX4_197 : z_LV RX4 197 yX3_countedRows cX3_countedRows 3 ((some .int)) 0 := ⟨⟨Or.inl (z_tab 553 (by decide +kernel) rfl), z_tab 412 (by decide +kernel) rfl, z_tab 2 (by decide +kernel) rfl, by decide +kernel, by decide +kernel, by decide +kernel⟩, z_tab 410 (by decide +kernel) rfl, z_tab 411 (by decide +kernel) rfl⟩
theorem l_RX4_200 : z_LV RX4 200 yX4_stateAt cX4_stateAt 2 ((some (.object "PouredScreen$Sheet"))) 1 := ⟨⟨Or.inl (z_tab 190 (by decide +kernel) rfl), z_tab 193 (by decide +kernel) rfl, z_tab 1 (by decide +kernel) rfl, by decide +kernel, by decide +kernel, by decide +kernel⟩, z_tab 192 (by decide +kernel) rfl, z_sel 1 (q := (yX4_stateAt, 5)) (by decide +kernel) rfl⟩
theorem l_RX4_204 : z_LV RX4 204 yX3_copyFrom cX3_copyFrom 3 (none) 1 := ⟨⟨Or.inl (z_tab 194 (by decide +kernel) rfl), z_tab 197 (by decide +kernel) rfl, z_tab 2 (by decide +kernel) rfl, by decide +kernel, by decide +kernel, by decide +kernel⟩, z_tab 195 (by decide +kernel) rfl, z_tab 196 (by decide +kernel) rfl⟩
theorem l_RX4_210 : z_LV RX4 210 yX4_told cX4_told 2 ((some .int)) 1 := ⟨⟨Or.inl (z_tab 563 (by decide +kernel) rfl), z_tab 548 (by decide +kernel) rfl, z_tab 1 (by decide +kernel) rfl, by decide +kernel, by decide +kernel, by decide +kernel⟩, z_tab 546 (by decide +kernel) rfl, z_tab 547 (by decide +kernel) rfl⟩
theorem l_RX4_213 : z_LS RX4 213 yX4_mix cX4_mix 3 ((some .long)) 2 := ⟨⟨Or.inl (z_tab 564 (by decide +kernel) rfl), z_tab 566 (by decide +kernel) rfl, z_tab 1 (by decide +kernel) rfl, by decide +kernel, by decide +kernel, by decide +kernel⟩, z_tab 565 (by decide +kernel) rfl⟩
theorem l_RX4_217 : z_LV RX4 217 yX4_mixRows cX4_mixRows 7 ((some .long)) 1 := ⟨⟨Or.inl (z_tab 568 (by decide +kernel) rfl), z_tab 571 (by decide +kernel) rfl, z_tab 1 (by decide +kernel) rfl, by decide +kernel, by decide +kernel, by decide +kernel⟩, z_tab 570 (by decide +kernel) rfl, z_sel 15 (q := (yX4_mixRows, 5)) (by decide +kernel) rfl⟩
theorem l_RX4_221 : z_LV RX4 221 yX4_mixCells cX4_mixCells 7 ((some .long)) 1 := ⟨⟨Or.inl (z_tab 573 (by decide +kernel) rfl), z_tab 576 (by decide +kernel) rfl, z_tab 1 (by decide +kernel) rfl, by decide +kernel, by decide +kernel, by decide +kernel⟩, z_tab 575 (by decide +kernel) rfl, z_sel 16 (q := (yX4_mixCells, 5)) (by decide +kernel) rfl⟩
theorem l_RX4_224 : z_LV RX4 224 yX4_mixLines cX4_mixLines 9 ((some .long)) 1 := ⟨⟨Or.inl (z_tab 578 (by decide +kernel) rfl), z_tab 581 (by decide +kernel) rfl, z_tab 1 (by decide +kernel) rfl, by decide +kernel, by decide +kernel, by decide +kernel⟩, z_tab 580 (by decide +kernel) rfl, z_sel 17 (q := (yX4_mixLines, 5)) (by decide +kernel) rfl⟩
theorem l_RX4_227 : z_LV RX4 227 yX4_mixCursors cX4_mixCursors 7 ((some .long)) 1 := ⟨⟨Or.inl (z_tab 585 (by decide +kernel) rfl), z_tab 588 (by decide +kernel) rfl, z_tab 1 (by decide +kernel) rfl, by decide +kernel, by decide +kernel, by decide +kernel⟩, z_tab 587 (by decide +kernel) rfl, z_sel 18 (q := (yX4_mixCursors, 5)) (by decide +kernel) rfl⟩
theorem l_RX4_230 : z_LV RX4 230 yX4_ifWidth cX4_ifWidth 2 ((some .int)) 1 := ⟨⟨Or.inl (z_tab 590 (by decide +kernel) rfl), z_tab 539 (by decide +kernel) rfl, z_tab 1 (by decide +kernel) rfl, by decide +kernel, by decide +kernel, by decide +kernel⟩, z_tab 537 (by decide +kernel) rfl, z_tab 538 (by decide +kernel) rfl⟩
theorem l_RX4_235 : z_LV RX4 235 yX4_row cX4_row 4 ((some .int)) 2 := ⟨⟨Or.inl (z_tab 572 (by decide +kernel) rfl), z_tab 495 (by decide +kernel) rfl, z_tab 1 (by decide +kernel) rfl, by decide +kernel, by decide +kernel, by decide +kernel⟩, z_tab 493 (by decide +kernel) rfl, z_tab 494 (by decide +kernel) rfl⟩
theorem l_RX4_237 : z_LV RX4 237 yX4_cell cX4_cell 3 ((some .int)) 2 := ⟨⟨Or.inl (z_tab 577 (by decide +kernel) rfl), z_tab 487 (by decide +kernel) rfl, z_tab 1 (by decide +kernel) rfl, by decide +kernel, by decide +kernel, by decide +kernel⟩, z_tab 485 (by decide +kernel) rfl, z_tab 486 (by decide +kernel) rfl⟩
theorem l_RX4_240 : z_LV RX4 240 yX4_line cX4_line 5 ((some .int)) 2 := ⟨⟨Or.inl (z_tab 582 (by decide +kernel) rfl), z_tab 504 (by decide +kernel) rfl, z_tab 1 (by decide +kernel) rfl, by decide +kernel, by decide +kernel, by decide +kernel⟩, z_tab 502 (by decide +kernel) rfl, z_tab 503 (by decide +kernel) rfl⟩
theorem l_RX4_243 : z_LV RX4 243 yX1_begin cX1_begin 5 (none) 4 := ⟨⟨Or.inl (z_tab 583 (by decide +kernel) rfl), z_tab 426 (by decide +kernel) rfl, z_tab 5 (by decide +kernel) rfl, by decide +kernel, by decide +kernel, by decide +kernel⟩, z_tab 424 (by decide +kernel) rfl, z_tab 425 (by decide +kernel) rfl⟩
theorem l_RX4_247 : z_LV RX4 247 yX1_next cX1_next 2 ((some .boolean)) 0 := ⟨⟨Or.inl (z_tab 584 (by decide +kernel) rfl), z_tab 434 (by decide +kernel) rfl, z_tab 5 (by decide +kernel) rfl, by decide +kernel, by decide +kernel, by decide +kernel⟩, z_tab 432 (by decide +kernel) rfl, z_tab 433 (by decide +kernel) rfl⟩
theorem l_RX4_253 : z_LV RX4 253 yX4_cursor cX4_cursor 4 ((some .int)) 2 := ⟨⟨Or.inl (z_tab 589 (by decide +kernel) rfl), z_tab 525 (by decide +kernel) rfl, z_tab 1 (by decide +kernel) rfl, by decide +kernel, by decide +kernel, by decide +kernel⟩, z_tab 523 (by decide +kernel) rfl, z_tab 524 (by decide +kernel) rfl⟩
theorem l_RX4_255 : z_LV RX4 255 yX3_lineFeed cX3_lineFeed 2 ((some .boolean)) 0 := ⟨⟨Or.inl (z_tab 289 (by decide +kernel) rfl), z_tab 231 (by decide +kernel) rfl, z_tab 2 (by decide +kernel) rfl, by decide +kernel, by decide +kernel, by decide +kernel⟩, z_tab 229 (by decide +kernel) rfl, z_tab 230 (by decide +kernel) rfl⟩
theorem l_RX1_53 : z_LV RX1 53 yX3_cellsOfLine cX3_cellsOfLine 4 ((some .int)) 2 := ⟨⟨Or.inl (z_tab 427 (by decide +kernel) rfl), z_tab 430 (by decide +kernel) rfl, z_tab 2 (by decide +kernel) rfl, by decide +kernel, by decide +kernel, by decide +kernel⟩, z_tab 428 (by decide +kernel) rfl, z_tab 429 (by decide +kernel) rfl⟩
theorem l_RX1_59 : z_LV RX1 59 yX3_rowAt cX3_rowAt 2 ((some (.object "PouredScreen$Row"))) 1 := ⟨⟨Or.inl (z_tab 435 (by decide +kernel) rfl), z_tab 209 (by decide +kernel) rfl, z_tab 2 (by decide +kernel) rfl, by decide +kernel, by decide +kernel, by decide +kernel⟩, z_tab 207 (by decide +kernel) rfl, z_tab 208 (by decide +kernel) rfl⟩
theorem l_RX1_63 : z_LV RX1 63 yX2_at cX2_at 2 ((some .int)) 1 := ⟨⟨Or.inl (z_tab 436 (by decide +kernel) rfl), z_tab 272 (by decide +kernel) rfl, z_tab 4 (by decide +kernel) rfl, by decide +kernel, by decide +kernel, by decide +kernel⟩, z_tab 270 (by decide +kernel) rfl, z_tab 271 (by decide +kernel) rfl⟩
theorem l_RX1_69 : z_LS RX1 69 yX4_sizeOf cX4_sizeOf 1 ((some .int)) 1 := ⟨⟨Or.inr ⟨"PouredScreen", z_nst 437 (by decide +kernel) rfl⟩, z_tab 259 (by decide +kernel) rfl, z_tab 1 (by decide +kernel) rfl, by decide +kernel, by decide +kernel, by decide +kernel⟩, z_tab 258 (by decide +kernel) rfl⟩
theorem l_RX1_73 : z_LV RX1 73 yX1_begin cX1_begin 5 (none) 4 := ⟨⟨Or.inl (z_tab 423 (by decide +kernel) rfl), z_tab 426 (by decide +kernel) rfl, z_tab 5 (by decide +kernel) rfl, by decide +kernel, by decide +kernel, by decide +kernel⟩, z_tab 424 (by decide +kernel) rfl, z_tab 425 (by decide +kernel) rfl⟩
theorem l_RX1_77 : z_LV RX1 77 yX1_readUpTo cX1_readUpTo 3 ((some .boolean)) 1 := ⟨⟨Or.inl (z_tab 478 (by decide +kernel) rfl), z_tab 481 (by decide +kernel) rfl, z_tab 5 (by decide +kernel) rfl, by decide +kernel, by decide +kernel, by decide +kernel⟩, z_tab 480 (by decide +kernel) rfl, z_sel 13 (q := (yX1_readUpTo, 13)) (by decide +kernel) rfl⟩
theorem l_RX1_81 : z_LV RX1 81 yX1_next cX1_next 2 ((some .boolean)) 0 := ⟨⟨Or.inl (z_tab 431 (by decide +kernel) rfl), z_tab 434 (by decide +kernel) rfl, z_tab 5 (by decide +kernel) rfl, by decide +kernel, by decide +kernel, by decide +kernel⟩, z_tab 432 (by decide +kernel) rfl, z_tab 433 (by decide +kernel) rfl⟩
theorem l_RX1_85 : z_LV RX1 85 yX3_countedRows cX3_countedRows 3 ((some .int)) 0 := ⟨⟨Or.inl (z_tab 409 (by decide +kernel) rfl), z_tab 412 (by decide +kernel) rfl, z_tab 2 (by decide +kernel) rfl, by decide +kernel, by decide +kernel, by decide +kernel⟩, z_tab 410 (by decide +kernel) rfl, z_tab 411 (by decide +kernel) rfl⟩
theorem l_RX1_89 : z_LV RX1 89 yX3_endsLine cX3_endsLine 3 ((some .boolean)) 2 := ⟨⟨Or.inl (z_tab 419 (by decide +kernel) rfl), z_tab 422 (by decide +kernel) rfl, z_tab 2 (by decide +kernel) rfl, by decide +kernel, by decide +kernel, by decide +kernel⟩, z_tab 420 (by decide +kernel) rfl, z_tab 421 (by decide +kernel) rfl⟩
theorem l_RX1_93 : z_LV RX1 93 yX1_rowsBefore cX1_rowsBefore 9 ((some .int)) 3 := ⟨⟨Or.inl (z_tab 415 (by decide +kernel) rfl), z_tab 418 (by decide +kernel) rfl, z_tab 5 (by decide +kernel) rfl, by decide +kernel, by decide +kernel, by decide +kernel⟩, z_tab 417 (by decide +kernel) rfl, z_sel 9 (q := (yX1_rowsBefore, 13)) (by decide +kernel) rfl⟩
theorem l_RX1_97 : z_LV RX1 97 yX1_rowsIn cX1_rowsIn 3 ((some .int)) 2 := ⟨⟨Or.inl (z_tab 405 (by decide +kernel) rfl), z_tab 408 (by decide +kernel) rfl, z_tab 5 (by decide +kernel) rfl, by decide +kernel, by decide +kernel, by decide +kernel⟩, z_tab 406 (by decide +kernel) rfl, z_tab 407 (by decide +kernel) rfl⟩
theorem l_RX1_107 : z_LV RX1 107 yX3_clear cX3_clear 7 (none) 2 := ⟨⟨Or.inl (z_tab 439 (by decide +kernel) rfl), z_tab 442 (by decide +kernel) rfl, z_tab 2 (by decide +kernel) rfl, by decide +kernel, by decide +kernel, by decide +kernel⟩, z_tab 440 (by decide +kernel) rfl, z_tab 441 (by decide +kernel) rfl⟩
theorem l_RX1_117 : z_LV RX1 117 yX1_pourLines cX1_pourLines 8 (none) 3 := ⟨⟨Or.inl (z_tab 444 (by decide +kernel) rfl), z_tab 447 (by decide +kernel) rfl, z_tab 5 (by decide +kernel) rfl, by decide +kernel, by decide +kernel, by decide +kernel⟩, z_tab 446 (by decide +kernel) rfl, z_sel 10 (q := (yX1_pourLines, 13)) (by decide +kernel) rfl⟩
theorem l_RX1_125 : z_LV RX1 125 yX1_follow cX1_follow 11 (none) 5 := ⟨⟨Or.inl (z_tab 453 (by decide +kernel) rfl), z_tab 456 (by decide +kernel) rfl, z_tab 5 (by decide +kernel) rfl, by decide +kernel, by decide +kernel, by decide +kernel⟩, z_tab 455 (by decide +kernel) rfl, z_sel 12 (q := (yX1_follow, 13)) (by decide +kernel) rfl⟩
theorem l_RX1_132 : z_LV RX1 132 yX3_keptPlace cX3_keptPlace 2 ((some (.object "PouredScreen$Place"))) 1 := ⟨⟨Or.inl (z_tab 483 (by decide +kernel) rfl), z_tab 205 (by decide +kernel) rfl, z_tab 2 (by decide +kernel) rfl, by decide +kernel, by decide +kernel, by decide +kernel⟩, z_tab 203 (by decide +kernel) rfl, z_tab 204 (by decide +kernel) rfl⟩
theorem l_RX1_141 : z_LV RX1 141 yX1_pourLine cX1_pourLine 5 (none) 2 := ⟨⟨Or.inl (z_tab 448 (by decide +kernel) rfl), z_tab 451 (by decide +kernel) rfl, z_tab 5 (by decide +kernel) rfl, by decide +kernel, by decide +kernel, by decide +kernel⟩, z_tab 450 (by decide +kernel) rfl, z_sel 11 (q := (yX1_pourLine, 13)) (by decide +kernel) rfl⟩
theorem l_RX1_151 : z_LV RX1 151 yX2_put cX2_put 3 (none) 2 := ⟨⟨Or.inl (z_tab 452 (by decide +kernel) rfl), z_tab 281 (by decide +kernel) rfl, z_tab 4 (by decide +kernel) rfl, by decide +kernel, by decide +kernel, by decide +kernel⟩, z_tab 279 (by decide +kernel) rfl, z_tab 280 (by decide +kernel) rfl⟩
theorem l_RX1_155 : z_LV RX1 155 yX3_startOf cX3_startOf 3 ((some .int)) 1 := ⟨⟨Or.inl (z_tab 457 (by decide +kernel) rfl), z_tab 460 (by decide +kernel) rfl, z_tab 2 (by decide +kernel) rfl, by decide +kernel, by decide +kernel, by decide +kernel⟩, z_tab 458 (by decide +kernel) rfl, z_tab 459 (by decide +kernel) rfl⟩
theorem l_RX1_158 : z_LV RX1 158 yX3_markOf cX3_markOf 7 ((some .int)) 1 := ⟨⟨Or.inl (z_tab 461 (by decide +kernel) rfl), z_tab 464 (by decide +kernel) rfl, z_tab 2 (by decide +kernel) rfl, by decide +kernel, by decide +kernel, by decide +kernel⟩, z_tab 462 (by decide +kernel) rfl, z_tab 463 (by decide +kernel) rfl⟩
theorem l_RX1_162 : z_LV RX1 162 yX3_endOf cX3_endOf 4 ((some .int)) 1 := ⟨⟨Or.inl (z_tab 474 (by decide +kernel) rfl), z_tab 477 (by decide +kernel) rfl, z_tab 2 (by decide +kernel) rfl, by decide +kernel, by decide +kernel, by decide +kernel⟩, z_tab 475 (by decide +kernel) rfl, z_tab 476 (by decide +kernel) rfl⟩
theorem l_RX1_165 : z_LV RX1 165 yX0_set cX0_set 3 (none) 2 := ⟨⟨Or.inl (z_tab 482 (by decide +kernel) rfl), z_tab 301 (by decide +kernel) rfl, z_tab 3 (by decide +kernel) rfl, by decide +kernel, by decide +kernel, by decide +kernel⟩, z_tab 299 (by decide +kernel) rfl, z_tab 300 (by decide +kernel) rfl⟩
theorem l_RX2_15 : z_LV RX2 15 yX2_clear cX2_clear 2 (none) 0 := ⟨⟨Or.inl (z_tab 55 (by decide +kernel) rfl), z_tab 58 (by decide +kernel) rfl, z_tab 4 (by decide +kernel) rfl, by decide +kernel, by decide +kernel, by decide +kernel⟩, z_tab 56 (by decide +kernel) rfl, z_tab 57 (by decide +kernel) rfl⟩
theorem l_RX2_31 : z_LV RX2 31 yX2_filled cX2_filled 2 ((some .int)) 0 := ⟨⟨Or.inl (z_tab 347 (by decide +kernel) rfl), z_tab 350 (by decide +kernel) rfl, z_tab 4 (by decide +kernel) rfl, by decide +kernel, by decide +kernel, by decide +kernel⟩, z_tab 348 (by decide +kernel) rfl, z_tab 349 (by decide +kernel) rfl⟩
theorem l_RX2_35 : z_LV RX2 35 yX2_at cX2_at 2 ((some .int)) 1 := ⟨⟨Or.inl (z_tab 269 (by decide +kernel) rfl), z_tab 272 (by decide +kernel) rfl, z_tab 4 (by decide +kernel) rfl, by decide +kernel, by decide +kernel, by decide +kernel⟩, z_tab 270 (by decide +kernel) rfl, z_tab 271 (by decide +kernel) rfl⟩
theorem l_RX2_39 : z_LV RX2 39 yX2_set cX2_set 3 (none) 2 := ⟨⟨Or.inl (z_tab 273 (by decide +kernel) rfl), z_tab 276 (by decide +kernel) rfl, z_tab 4 (by decide +kernel) rfl, by decide +kernel, by decide +kernel, by decide +kernel⟩, z_tab 275 (by decide +kernel) rfl, z_sel 7 (q := (yX2_set, 3)) (by decide +kernel) rfl⟩
theorem l_RX2_43 : z_LV RX2 43 yX2_unmark cX2_unmark 1 (none) 0 := ⟨⟨Or.inl (z_tab 277 (by decide +kernel) rfl), z_tab 239 (by decide +kernel) rfl, z_tab 4 (by decide +kernel) rfl, by decide +kernel, by decide +kernel, by decide +kernel⟩, z_tab 237 (by decide +kernel) rfl, z_tab 238 (by decide +kernel) rfl⟩
theorem l_RX2_46 : z_LS RX2 46 yX4_sizeOf cX4_sizeOf 1 ((some .int)) 1 := ⟨⟨Or.inr ⟨"PouredScreen", z_nst 264 (by decide +kernel) rfl⟩, z_tab 259 (by decide +kernel) rfl, z_tab 1 (by decide +kernel) rfl, by decide +kernel, by decide +kernel, by decide +kernel⟩, z_tab 258 (by decide +kernel) rfl⟩
theorem l_RX2_49 : z_LV RX2 49 yX2_erase cX2_erase 7 (none) 3 := ⟨⟨Or.inl (z_tab 265 (by decide +kernel) rfl), z_tab 268 (by decide +kernel) rfl, z_tab 4 (by decide +kernel) rfl, by decide +kernel, by decide +kernel, by decide +kernel⟩, z_tab 266 (by decide +kernel) rfl, z_tab 267 (by decide +kernel) rfl⟩
theorem l_RX2_53 : z_LV RX2 53 yX2_put cX2_put 3 (none) 2 := ⟨⟨Or.inl (z_tab 278 (by decide +kernel) rfl), z_tab 281 (by decide +kernel) rfl, z_tab 4 (by decide +kernel) rfl, by decide +kernel, by decide +kernel, by decide +kernel⟩, z_tab 279 (by decide +kernel) rfl, z_tab 280 (by decide +kernel) rfl⟩
theorem l_RX3_19 : z_LI RX3 19 yX0_init cX0_init 1 (none) 0 := ⟨⟨Or.inr ⟨"PouredScreen", z_nst 27 (by decide +kernel) rfl⟩, z_tab 29 (by decide +kernel) rfl, z_tab 3 (by decide +kernel) rfl, by decide +kernel, by decide +kernel, by decide +kernel⟩, rfl, z_tab 28 (by decide +kernel) rfl⟩
theorem l_RX3_47 : z_LI RX3 47 yX2_init cX2_init 1 (none) 0 := ⟨⟨Or.inl (z_tab 51 (by decide +kernel) rfl), z_tab 53 (by decide +kernel) rfl, z_tab 4 (by decide +kernel) rfl, by decide +kernel, by decide +kernel, by decide +kernel⟩, rfl, z_tab 52 (by decide +kernel) rfl⟩
theorem l_RX3_48 : z_LV RX3 48 yX0_copyFrom cX0_copyFrom 2 (none) 1 := ⟨⟨Or.inl (z_tab 198 (by decide +kernel) rfl), z_tab 201 (by decide +kernel) rfl, z_tab 3 (by decide +kernel) rfl, by decide +kernel, by decide +kernel, by decide +kernel⟩, z_tab 199 (by decide +kernel) rfl, z_tab 200 (by decide +kernel) rfl⟩
theorem l_RX3_52 : z_LV RX3 52 yX3_keptPlace cX3_keptPlace 2 ((some (.object "PouredScreen$Place"))) 1 := ⟨⟨Or.inl (z_tab 202 (by decide +kernel) rfl), z_tab 205 (by decide +kernel) rfl, z_tab 2 (by decide +kernel) rfl, by decide +kernel, by decide +kernel, by decide +kernel⟩, z_tab 203 (by decide +kernel) rfl, z_tab 204 (by decide +kernel) rfl⟩
theorem l_RX3_56 : z_LV RX3 56 yX3_rowAt cX3_rowAt 2 ((some (.object "PouredScreen$Row"))) 1 := ⟨⟨Or.inl (z_tab 206 (by decide +kernel) rfl), z_tab 209 (by decide +kernel) rfl, z_tab 2 (by decide +kernel) rfl, by decide +kernel, by decide +kernel, by decide +kernel⟩, z_tab 207 (by decide +kernel) rfl, z_tab 208 (by decide +kernel) rfl⟩
theorem l_RX3_60 : z_LV RX3 60 yX2_copyFrom cX2_copyFrom 2 (none) 1 := ⟨⟨Or.inl (z_tab 210 (by decide +kernel) rfl), z_tab 213 (by decide +kernel) rfl, z_tab 4 (by decide +kernel) rfl, by decide +kernel, by decide +kernel, by decide +kernel⟩, z_tab 211 (by decide +kernel) rfl, z_tab 212 (by decide +kernel) rfl⟩
theorem l_RX3_63 : z_LV RX3 63 yX2_clear cX2_clear 2 (none) 0 := ⟨⟨Or.inl (z_tab 244 (by decide +kernel) rfl), z_tab 58 (by decide +kernel) rfl, z_tab 4 (by decide +kernel) rfl, by decide +kernel, by decide +kernel, by decide +kernel⟩, z_tab 56 (by decide +kernel) rfl, z_tab 57 (by decide +kernel) rfl⟩
theorem l_RX3_72 : z_LV RX3 72 yX0_set cX0_set 3 (none) 2 := ⟨⟨Or.inl (z_tab 385 (by decide +kernel) rfl), z_tab 301 (by decide +kernel) rfl, z_tab 3 (by decide +kernel) rfl, by decide +kernel, by decide +kernel, by decide +kernel⟩, z_tab 299 (by decide +kernel) rfl, z_tab 300 (by decide +kernel) rfl⟩
theorem l_RX3_76 : z_LV RX3 76 yX3_screenRow cX3_screenRow 2 ((some (.object "PouredScreen$Row"))) 1 := ⟨⟨Or.inl (z_tab 253 (by decide +kernel) rfl), z_tab 256 (by decide +kernel) rfl, z_tab 2 (by decide +kernel) rfl, by decide +kernel, by decide +kernel, by decide +kernel⟩, z_tab 254 (by decide +kernel) rfl, z_tab 255 (by decide +kernel) rfl⟩
theorem l_RX3_79 : z_LV RX3 79 yX2_taken cX2_taken 6 ((some .int)) 0 := ⟨⟨Or.inl (z_tab 314 (by decide +kernel) rfl), z_tab 317 (by decide +kernel) rfl, z_tab 4 (by decide +kernel) rfl, by decide +kernel, by decide +kernel, by decide +kernel⟩, z_tab 315 (by decide +kernel) rfl, z_tab 316 (by decide +kernel) rfl⟩
theorem l_RX3_87 : z_LV RX3 87 yX3_goOn cX3_goOn 2 ((some .boolean)) 0 := ⟨⟨Or.inl (z_tab 224 (by decide +kernel) rfl), z_tab 227 (by decide +kernel) rfl, z_tab 2 (by decide +kernel) rfl, by decide +kernel, by decide +kernel, by decide +kernel⟩, z_tab 226 (by decide +kernel) rfl, z_sel 2 (q := (yX3_goOn, 9)) (by decide +kernel) rfl⟩
theorem l_RX3_91 : z_LS RX3 91 yX4_sizeOf cX4_sizeOf 1 ((some .int)) 1 := ⟨⟨Or.inr ⟨"PouredScreen", z_nst 257 (by decide +kernel) rfl⟩, z_tab 259 (by decide +kernel) rfl, z_tab 1 (by decide +kernel) rfl, by decide +kernel, by decide +kernel, by decide +kernel⟩, z_tab 258 (by decide +kernel) rfl⟩
theorem l_RX3_95 : z_LV RX3 95 yX2_overwrite cX2_overwrite 4 (none) 3 := ⟨⟨Or.inl (z_tab 260 (by decide +kernel) rfl), z_tab 263 (by decide +kernel) rfl, z_tab 4 (by decide +kernel) rfl, by decide +kernel, by decide +kernel, by decide +kernel⟩, z_tab 261 (by decide +kernel) rfl, z_tab 262 (by decide +kernel) rfl⟩
theorem l_RX3_102 : z_LV RX3 102 yX3_lineFeed cX3_lineFeed 2 ((some .boolean)) 0 := ⟨⟨Or.inl (z_tab 228 (by decide +kernel) rfl), z_tab 231 (by decide +kernel) rfl, z_tab 2 (by decide +kernel) rfl, by decide +kernel, by decide +kernel, by decide +kernel⟩, z_tab 229 (by decide +kernel) rfl, z_tab 230 (by decide +kernel) rfl⟩
theorem l_RX3_108 : z_LV RX3 108 yX3_pushTopRow cX3_pushTopRow 2 (none) 0 := ⟨⟨Or.inl (z_tab 232 (by decide +kernel) rfl), z_tab 235 (by decide +kernel) rfl, z_tab 2 (by decide +kernel) rfl, by decide +kernel, by decide +kernel, by decide +kernel⟩, z_tab 234 (by decide +kernel) rfl, z_sel 3 (q := (yX3_pushTopRow, 9)) (by decide +kernel) rfl⟩
theorem l_RX3_111 : z_LV RX3 111 yX3_takeRow cX3_takeRow 2 (none) 1 := ⟨⟨Or.inl (z_tab 245 (by decide +kernel) rfl), z_tab 248 (by decide +kernel) rfl, z_tab 2 (by decide +kernel) rfl, by decide +kernel, by decide +kernel, by decide +kernel⟩, z_tab 247 (by decide +kernel) rfl, z_sel 5 (q := (yX3_takeRow, 9)) (by decide +kernel) rfl⟩
theorem l_RX3_115 : z_LV RX3 115 yX2_unmark cX2_unmark 1 (none) 0 := ⟨⟨Or.inl (z_tab 236 (by decide +kernel) rfl), z_tab 239 (by decide +kernel) rfl, z_tab 4 (by decide +kernel) rfl, by decide +kernel, by decide +kernel, by decide +kernel⟩, z_tab 237 (by decide +kernel) rfl, z_tab 238 (by decide +kernel) rfl⟩
theorem l_RX3_118 : z_LV RX3 118 yX3_carryBlank cX3_carryBlank 5 (none) 2 := ⟨⟨Or.inl (z_tab 240 (by decide +kernel) rfl), z_tab 243 (by decide +kernel) rfl, z_tab 2 (by decide +kernel) rfl, by decide +kernel, by decide +kernel, by decide +kernel⟩, z_tab 242 (by decide +kernel) rfl, z_sel 4 (q := (yX3_carryBlank, 9)) (by decide +kernel) rfl⟩
theorem l_RX3_121 : z_LV RX3 121 yX2_erase cX2_erase 7 (none) 3 := ⟨⟨Or.inl (z_tab 322 (by decide +kernel) rfl), z_tab 268 (by decide +kernel) rfl, z_tab 4 (by decide +kernel) rfl, by decide +kernel, by decide +kernel, by decide +kernel⟩, z_tab 266 (by decide +kernel) rfl, z_tab 267 (by decide +kernel) rfl⟩
theorem l_RX3_124 : z_LV RX3 124 yX2_isBlank cX2_isBlank 1 ((some .boolean)) 0 := ⟨⟨Or.inl (z_tab 343 (by decide +kernel) rfl), z_tab 346 (by decide +kernel) rfl, z_tab 4 (by decide +kernel) rfl, by decide +kernel, by decide +kernel, by decide +kernel⟩, z_tab 344 (by decide +kernel) rfl, z_tab 345 (by decide +kernel) rfl⟩
theorem l_RX3_127 : z_LV RX3 127 yX3_unmarkAbove cX3_unmarkAbove 2 (none) 1 := ⟨⟨Or.inl (z_tab 249 (by decide +kernel) rfl), z_tab 252 (by decide +kernel) rfl, z_tab 2 (by decide +kernel) rfl, by decide +kernel, by decide +kernel, by decide +kernel⟩, z_tab 251 (by decide +kernel) rfl, z_sel 6 (q := (yX3_unmarkAbove, 9)) (by decide +kernel) rfl⟩
theorem l_RX3_136 : z_LV RX3 136 yX2_filled cX2_filled 2 ((some .int)) 0 := ⟨⟨Or.inl (z_tab 414 (by decide +kernel) rfl), z_tab 350 (by decide +kernel) rfl, z_tab 4 (by decide +kernel) rfl, by decide +kernel, by decide +kernel, by decide +kernel⟩, z_tab 348 (by decide +kernel) rfl, z_tab 349 (by decide +kernel) rfl⟩
theorem l_RX3_139 : z_LV RX3 139 yX3_countedRows cX3_countedRows 3 ((some .int)) 0 := ⟨⟨Or.inl (z_tab 471 (by decide +kernel) rfl), z_tab 412 (by decide +kernel) rfl, z_tab 2 (by decide +kernel) rfl, by decide +kernel, by decide +kernel, by decide +kernel⟩, z_tab 410 (by decide +kernel) rfl, z_tab 411 (by decide +kernel) rfl⟩
theorem l_RX3_142 : z_LV RX3 142 yX3_endsLine cX3_endsLine 3 ((some .boolean)) 2 := ⟨⟨Or.inl (z_tab 472 (by decide +kernel) rfl), z_tab 422 (by decide +kernel) rfl, z_tab 2 (by decide +kernel) rfl, by decide +kernel, by decide +kernel, by decide +kernel⟩, z_tab 420 (by decide +kernel) rfl, z_tab 421 (by decide +kernel) rfl⟩
theorem l_RX3_146 : z_LV RX3 146 yX3_linesBefore cX3_linesBefore 5 ((some .int)) 1 := ⟨⟨Or.inl (z_tab 531 (by decide +kernel) rfl), z_tab 534 (by decide +kernel) rfl, z_tab 2 (by decide +kernel) rfl, by decide +kernel, by decide +kernel, by decide +kernel⟩, z_tab 533 (by decide +kernel) rfl, z_sel 14 (q := (yX3_linesBefore, 9)) (by decide +kernel) rfl⟩
theorem l_RX3_149 : z_LV RX3 149 yX3_cellsOfLine cX3_cellsOfLine 4 ((some .int)) 2 := ⟨⟨Or.inl (z_tab 466 (by decide +kernel) rfl), z_tab 430 (by decide +kernel) rfl, z_tab 2 (by decide +kernel) rfl, by decide +kernel, by decide +kernel, by decide +kernel⟩, z_tab 428 (by decide +kernel) rfl, z_tab 429 (by decide +kernel) rfl⟩
theorem l_RX3_153 : z_LV RX3 153 yX2_signsBefore cX2_signsBefore 4 ((some .int)) 1 := ⟨⟨Or.inl (z_tab 467 (by decide +kernel) rfl), z_tab 470 (by decide +kernel) rfl, z_tab 4 (by decide +kernel) rfl, by decide +kernel, by decide +kernel, by decide +kernel⟩, z_tab 468 (by decide +kernel) rfl, z_tab 469 (by decide +kernel) rfl⟩
theorem l_RX3_156 : z_LV RX3 156 yX3_startOf cX3_startOf 3 ((some .int)) 1 := ⟨⟨Or.inl (z_tab 465 (by decide +kernel) rfl), z_tab 460 (by decide +kernel) rfl, z_tab 2 (by decide +kernel) rfl, by decide +kernel, by decide +kernel, by decide +kernel⟩, z_tab 458 (by decide +kernel) rfl, z_tab 459 (by decide +kernel) rfl⟩
theorem l_RL_9 : z_LI RL 9 yX4_init cX4_init 2 (none) 0 := ⟨⟨Or.inl (z_tab 11 (by decide +kernel) rfl), z_tab 13 (by decide +kernel) rfl, z_tab 1 (by decide +kernel) rfl, by decide +kernel, by decide +kernel, by decide +kernel⟩, rfl, z_tab 12 (by decide +kernel) rfl⟩
theorem l_RL_12 : z_LI RL 12 yX5_init cX5_init 2 (none) 0 := ⟨⟨Or.inl (z_tab 593 (by decide +kernel) rfl), z_tab 595 (by decide +kernel) rfl, z_tab 6 (by decide +kernel) rfl, by decide +kernel, by decide +kernel, by decide +kernel⟩, rfl, z_tab 594 (by decide +kernel) rfl⟩
theorem l_RL_13 : z_LV RL 13 yX4_feed cX4_feed 3 ((some .int)) 1 := ⟨⟨Or.inl (z_tab 179 (by decide +kernel) rfl), z_tab 182 (by decide +kernel) rfl, z_tab 1 (by decide +kernel) rfl, by decide +kernel, by decide +kernel, by decide +kernel⟩, z_tab 180 (by decide +kernel) rfl, z_tab 181 (by decide +kernel) rfl⟩
theorem l_RL_17 : z_LV RL 17 yX5_feed cX5_feed 3 ((some .int)) 1 := ⟨⟨Or.inl (z_tab 649 (by decide +kernel) rfl), z_tab 652 (by decide +kernel) rfl, z_tab 6 (by decide +kernel) rfl, by decide +kernel, by decide +kernel, by decide +kernel⟩, z_tab 650 (by decide +kernel) rfl, z_tab 651 (by decide +kernel) rfl⟩
theorem l_RL_18 : z_LV RL 18 yX4_moveTo cX4_moveTo 4 ((some .int)) 2 := ⟨⟨Or.inl (z_tab 290 (by decide +kernel) rfl), z_tab 293 (by decide +kernel) rfl, z_tab 1 (by decide +kernel) rfl, by decide +kernel, by decide +kernel, by decide +kernel⟩, z_tab 291 (by decide +kernel) rfl, z_tab 292 (by decide +kernel) rfl⟩
theorem l_RL_22 : z_LV RL 22 yX5_moveTo cX5_moveTo 4 ((some .int)) 2 := ⟨⟨Or.inl (z_tab 714 (by decide +kernel) rfl), z_tab 717 (by decide +kernel) rfl, z_tab 6 (by decide +kernel) rfl, by decide +kernel, by decide +kernel, by decide +kernel⟩, z_tab 715 (by decide +kernel) rfl, z_tab 716 (by decide +kernel) rfl⟩
theorem l_RL_23 : z_LV RL 23 yX4_setRegion cX4_setRegion 3 ((some .int)) 2 := ⟨⟨Or.inl (z_tab 302 (by decide +kernel) rfl), z_tab 305 (by decide +kernel) rfl, z_tab 1 (by decide +kernel) rfl, by decide +kernel, by decide +kernel, by decide +kernel⟩, z_tab 303 (by decide +kernel) rfl, z_tab 304 (by decide +kernel) rfl⟩
theorem l_RL_26 : z_LV RL 26 yX5_setRegion cX5_setRegion 3 ((some .int)) 2 := ⟨⟨Or.inl (z_tab 730 (by decide +kernel) rfl), z_tab 733 (by decide +kernel) rfl, z_tab 6 (by decide +kernel) rfl, by decide +kernel, by decide +kernel, by decide +kernel⟩, z_tab 731 (by decide +kernel) rfl, z_tab 732 (by decide +kernel) rfl⟩
theorem l_RL_27 : z_LV RL 27 yX4_eraseLine cX4_eraseLine 3 ((some .int)) 1 := ⟨⟨Or.inl (z_tab 306 (by decide +kernel) rfl), z_tab 309 (by decide +kernel) rfl, z_tab 1 (by decide +kernel) rfl, by decide +kernel, by decide +kernel, by decide +kernel⟩, z_tab 307 (by decide +kernel) rfl, z_tab 308 (by decide +kernel) rfl⟩
theorem l_RL_30 : z_LV RL 30 yX5_eraseLine cX5_eraseLine 3 ((some .int)) 1 := ⟨⟨Or.inl (z_tab 734 (by decide +kernel) rfl), z_tab 737 (by decide +kernel) rfl, z_tab 6 (by decide +kernel) rfl, by decide +kernel, by decide +kernel, by decide +kernel⟩, z_tab 735 (by decide +kernel) rfl, z_tab 736 (by decide +kernel) rfl⟩
theorem l_RL_31 : z_LV RL 31 yX4_eraseScreen cX4_eraseScreen 3 ((some .int)) 1 := ⟨⟨Or.inl (z_tab 323 (by decide +kernel) rfl), z_tab 326 (by decide +kernel) rfl, z_tab 1 (by decide +kernel) rfl, by decide +kernel, by decide +kernel, by decide +kernel⟩, z_tab 324 (by decide +kernel) rfl, z_tab 325 (by decide +kernel) rfl⟩
theorem l_RL_34 : z_LV RL 34 yX5_eraseScreen cX5_eraseScreen 5 ((some .int)) 1 := ⟨⟨Or.inl (z_tab 750 (by decide +kernel) rfl), z_tab 753 (by decide +kernel) rfl, z_tab 6 (by decide +kernel) rfl, by decide +kernel, by decide +kernel, by decide +kernel⟩, z_tab 751 (by decide +kernel) rfl, z_tab 752 (by decide +kernel) rfl⟩
theorem l_RL_35 : z_LV RL 35 yX4_insertRows cX4_insertRows 2 ((some .int)) 1 := ⟨⟨Or.inl (z_tab 331 (by decide +kernel) rfl), z_tab 334 (by decide +kernel) rfl, z_tab 1 (by decide +kernel) rfl, by decide +kernel, by decide +kernel, by decide +kernel⟩, z_tab 332 (by decide +kernel) rfl, z_tab 333 (by decide +kernel) rfl⟩
theorem l_RL_38 : z_LV RL 38 yX5_insertRows cX5_insertRows 7 ((some .int)) 1 := ⟨⟨Or.inl (z_tab 754 (by decide +kernel) rfl), z_tab 757 (by decide +kernel) rfl, z_tab 6 (by decide +kernel) rfl, by decide +kernel, by decide +kernel, by decide +kernel⟩, z_tab 755 (by decide +kernel) rfl, z_tab 756 (by decide +kernel) rfl⟩
theorem l_RL_39 : z_LV RL 39 yX4_deleteRows cX4_deleteRows 2 ((some .int)) 1 := ⟨⟨Or.inl (z_tab 351 (by decide +kernel) rfl), z_tab 354 (by decide +kernel) rfl, z_tab 1 (by decide +kernel) rfl, by decide +kernel, by decide +kernel, by decide +kernel⟩, z_tab 352 (by decide +kernel) rfl, z_tab 353 (by decide +kernel) rfl⟩
theorem l_RL_42 : z_LV RL 42 yX5_deleteRows cX5_deleteRows 7 ((some .int)) 1 := ⟨⟨Or.inl (z_tab 766 (by decide +kernel) rfl), z_tab 769 (by decide +kernel) rfl, z_tab 6 (by decide +kernel) rfl, by decide +kernel, by decide +kernel, by decide +kernel⟩, z_tab 767 (by decide +kernel) rfl, z_tab 768 (by decide +kernel) rfl⟩
theorem l_RL_43 : z_LV RL 43 yX4_insertCells cX4_insertCells 4 ((some .int)) 1 := ⟨⟨Or.inl (z_tab 359 (by decide +kernel) rfl), z_tab 362 (by decide +kernel) rfl, z_tab 1 (by decide +kernel) rfl, by decide +kernel, by decide +kernel, by decide +kernel⟩, z_tab 360 (by decide +kernel) rfl, z_tab 361 (by decide +kernel) rfl⟩
theorem l_RL_46 : z_LV RL 46 yX5_insertCells cX5_insertCells 7 ((some .int)) 1 := ⟨⟨Or.inl (z_tab 770 (by decide +kernel) rfl), z_tab 773 (by decide +kernel) rfl, z_tab 6 (by decide +kernel) rfl, by decide +kernel, by decide +kernel, by decide +kernel⟩, z_tab 771 (by decide +kernel) rfl, z_tab 772 (by decide +kernel) rfl⟩
theorem l_RL_47 : z_LV RL 47 yX4_deleteCells cX4_deleteCells 4 ((some .int)) 1 := ⟨⟨Or.inl (z_tab 369 (by decide +kernel) rfl), z_tab 372 (by decide +kernel) rfl, z_tab 1 (by decide +kernel) rfl, by decide +kernel, by decide +kernel, by decide +kernel⟩, z_tab 370 (by decide +kernel) rfl, z_tab 371 (by decide +kernel) rfl⟩
theorem l_RL_50 : z_LV RL 50 yX5_deleteCells cX5_deleteCells 7 ((some .int)) 1 := ⟨⟨Or.inl (z_tab 778 (by decide +kernel) rfl), z_tab 781 (by decide +kernel) rfl, z_tab 6 (by decide +kernel) rfl, by decide +kernel, by decide +kernel, by decide +kernel⟩, z_tab 779 (by decide +kernel) rfl, z_tab 780 (by decide +kernel) rfl⟩
theorem l_RL_51 : z_LV RL 51 yX4_keep cX4_keep 1 ((some .int)) 0 := ⟨⟨Or.inl (z_tab 377 (by decide +kernel) rfl), z_tab 380 (by decide +kernel) rfl, z_tab 1 (by decide +kernel) rfl, by decide +kernel, by decide +kernel, by decide +kernel⟩, z_tab 378 (by decide +kernel) rfl, z_tab 379 (by decide +kernel) rfl⟩
theorem l_RL_55 : z_LV RL 55 yX5_keep cX5_keep 1 ((some .int)) 0 := ⟨⟨Or.inl (z_tab 782 (by decide +kernel) rfl), z_tab 785 (by decide +kernel) rfl, z_tab 6 (by decide +kernel) rfl, by decide +kernel, by decide +kernel, by decide +kernel⟩, z_tab 783 (by decide +kernel) rfl, z_tab 784 (by decide +kernel) rfl⟩
theorem l_RL_56 : z_LV RL 56 yX4_back cX4_back 1 ((some .int)) 0 := ⟨⟨Or.inl (z_tab 386 (by decide +kernel) rfl), z_tab 389 (by decide +kernel) rfl, z_tab 1 (by decide +kernel) rfl, by decide +kernel, by decide +kernel, by decide +kernel⟩, z_tab 387 (by decide +kernel) rfl, z_tab 388 (by decide +kernel) rfl⟩
theorem l_RL_59 : z_LV RL 59 yX5_back cX5_back 1 ((some .int)) 0 := ⟨⟨Or.inl (z_tab 786 (by decide +kernel) rfl), z_tab 789 (by decide +kernel) rfl, z_tab 6 (by decide +kernel) rfl, by decide +kernel, by decide +kernel, by decide +kernel⟩, z_tab 787 (by decide +kernel) rfl, z_tab 788 (by decide +kernel) rfl⟩
theorem l_RL_60 : z_LV RL 60 yX4_resize cX4_resize 4 ((some .int)) 2 := ⟨⟨Or.inl (z_tab 394 (by decide +kernel) rfl), z_tab 397 (by decide +kernel) rfl, z_tab 1 (by decide +kernel) rfl, by decide +kernel, by decide +kernel, by decide +kernel⟩, z_tab 395 (by decide +kernel) rfl, z_tab 396 (by decide +kernel) rfl⟩
theorem l_RL_63 : z_LV RL 63 yX5_resize cX5_resize 6 ((some .int)) 2 := ⟨⟨Or.inl (z_tab 898 (by decide +kernel) rfl), z_tab 901 (by decide +kernel) rfl, z_tab 6 (by decide +kernel) rfl, by decide +kernel, by decide +kernel, by decide +kernel⟩, z_tab 899 (by decide +kernel) rfl, z_tab 900 (by decide +kernel) rfl⟩
theorem l_RL_64 : z_LV RL 64 yX4_cell cX4_cell 3 ((some .int)) 2 := ⟨⟨Or.inl (z_tab 484 (by decide +kernel) rfl), z_tab 487 (by decide +kernel) rfl, z_tab 1 (by decide +kernel) rfl, by decide +kernel, by decide +kernel, by decide +kernel⟩, z_tab 485 (by decide +kernel) rfl, z_tab 486 (by decide +kernel) rfl⟩
theorem l_RL_67 : z_LV RL 67 yX5_cell cX5_cell 4 ((some .int)) 2 := ⟨⟨Or.inl (z_tab 914 (by decide +kernel) rfl), z_tab 917 (by decide +kernel) rfl, z_tab 6 (by decide +kernel) rfl, by decide +kernel, by decide +kernel, by decide +kernel⟩, z_tab 915 (by decide +kernel) rfl, z_tab 916 (by decide +kernel) rfl⟩
theorem l_RL_68 : z_LV RL 68 yX4_row cX4_row 4 ((some .int)) 2 := ⟨⟨Or.inl (z_tab 492 (by decide +kernel) rfl), z_tab 495 (by decide +kernel) rfl, z_tab 1 (by decide +kernel) rfl, by decide +kernel, by decide +kernel, by decide +kernel⟩, z_tab 493 (by decide +kernel) rfl, z_tab 494 (by decide +kernel) rfl⟩
theorem l_RL_71 : z_LV RL 71 yX5_row cX5_row 3 ((some .int)) 2 := ⟨⟨Or.inl (z_tab 918 (by decide +kernel) rfl), z_tab 921 (by decide +kernel) rfl, z_tab 6 (by decide +kernel) rfl, by decide +kernel, by decide +kernel, by decide +kernel⟩, z_tab 919 (by decide +kernel) rfl, z_tab 920 (by decide +kernel) rfl⟩
theorem l_RL_72 : z_LV RL 72 yX4_line cX4_line 5 ((some .int)) 2 := ⟨⟨Or.inl (z_tab 501 (by decide +kernel) rfl), z_tab 504 (by decide +kernel) rfl, z_tab 1 (by decide +kernel) rfl, by decide +kernel, by decide +kernel, by decide +kernel⟩, z_tab 502 (by decide +kernel) rfl, z_tab 503 (by decide +kernel) rfl⟩
theorem l_RL_75 : z_LV RL 75 yX5_line cX5_line 5 ((some .int)) 2 := ⟨⟨Or.inl (z_tab 790 (by decide +kernel) rfl), z_tab 793 (by decide +kernel) rfl, z_tab 6 (by decide +kernel) rfl, by decide +kernel, by decide +kernel, by decide +kernel⟩, z_tab 791 (by decide +kernel) rfl, z_tab 792 (by decide +kernel) rfl⟩
theorem l_RL_76 : z_LV RL 76 yX4_sign cX4_sign 4 ((some .int)) 2 := ⟨⟨Or.inl (z_tab 514 (by decide +kernel) rfl), z_tab 517 (by decide +kernel) rfl, z_tab 1 (by decide +kernel) rfl, by decide +kernel, by decide +kernel, by decide +kernel⟩, z_tab 515 (by decide +kernel) rfl, z_tab 516 (by decide +kernel) rfl⟩
theorem l_RL_79 : z_LV RL 79 yX5_sign cX5_sign 5 ((some .int)) 2 := ⟨⟨Or.inl (z_tab 834 (by decide +kernel) rfl), z_tab 837 (by decide +kernel) rfl, z_tab 6 (by decide +kernel) rfl, by decide +kernel, by decide +kernel, by decide +kernel⟩, z_tab 835 (by decide +kernel) rfl, z_tab 836 (by decide +kernel) rfl⟩
theorem l_RL_80 : z_LV RL 80 yX4_cursor cX4_cursor 4 ((some .int)) 2 := ⟨⟨Or.inl (z_tab 522 (by decide +kernel) rfl), z_tab 525 (by decide +kernel) rfl, z_tab 1 (by decide +kernel) rfl, by decide +kernel, by decide +kernel, by decide +kernel⟩, z_tab 523 (by decide +kernel) rfl, z_tab 524 (by decide +kernel) rfl⟩
theorem l_RL_83 : z_LV RL 83 yX5_cursor cX5_cursor 3 ((some .int)) 2 := ⟨⟨Or.inl (z_tab 842 (by decide +kernel) rfl), z_tab 845 (by decide +kernel) rfl, z_tab 6 (by decide +kernel) rfl, by decide +kernel, by decide +kernel, by decide +kernel⟩, z_tab 843 (by decide +kernel) rfl, z_tab 844 (by decide +kernel) rfl⟩
theorem l_RL_84 : z_LV RL 84 yX4_ifWidth cX4_ifWidth 2 ((some .int)) 1 := ⟨⟨Or.inl (z_tab 536 (by decide +kernel) rfl), z_tab 539 (by decide +kernel) rfl, z_tab 1 (by decide +kernel) rfl, by decide +kernel, by decide +kernel, by decide +kernel⟩, z_tab 537 (by decide +kernel) rfl, z_tab 538 (by decide +kernel) rfl⟩
theorem l_RL_87 : z_LV RL 87 yX5_ifWidth cX5_ifWidth 2 ((some .int)) 1 := ⟨⟨Or.inl (z_tab 866 (by decide +kernel) rfl), z_tab 869 (by decide +kernel) rfl, z_tab 6 (by decide +kernel) rfl, by decide +kernel, by decide +kernel, by decide +kernel⟩, z_tab 867 (by decide +kernel) rfl, z_tab 868 (by decide +kernel) rfl⟩
theorem l_RL_88 : z_LV RL 88 yX4_widthFor cX4_widthFor 3 ((some .int)) 1 := ⟨⟨Or.inl (z_tab 541 (by decide +kernel) rfl), z_tab 544 (by decide +kernel) rfl, z_tab 1 (by decide +kernel) rfl, by decide +kernel, by decide +kernel, by decide +kernel⟩, z_tab 542 (by decide +kernel) rfl, z_tab 543 (by decide +kernel) rfl⟩
theorem l_RL_91 : z_LV RL 91 yX5_widthFor cX5_widthFor 3 ((some .int)) 1 := ⟨⟨Or.inl (z_tab 894 (by decide +kernel) rfl), z_tab 897 (by decide +kernel) rfl, z_tab 6 (by decide +kernel) rfl, by decide +kernel, by decide +kernel, by decide +kernel⟩, z_tab 895 (by decide +kernel) rfl, z_tab 896 (by decide +kernel) rfl⟩
theorem l_RL_92 : z_LV RL 92 yX4_told cX4_told 2 ((some .int)) 1 := ⟨⟨Or.inl (z_tab 545 (by decide +kernel) rfl), z_tab 548 (by decide +kernel) rfl, z_tab 1 (by decide +kernel) rfl, by decide +kernel, by decide +kernel, by decide +kernel⟩, z_tab 546 (by decide +kernel) rfl, z_tab 547 (by decide +kernel) rfl⟩
theorem l_RL_95 : z_LV RL 95 yX5_told cX5_told 2 ((some .int)) 1 := ⟨⟨Or.inl (z_tab 930 (by decide +kernel) rfl), z_tab 933 (by decide +kernel) rfl, z_tab 6 (by decide +kernel) rfl, by decide +kernel, by decide +kernel, by decide +kernel⟩, z_tab 931 (by decide +kernel) rfl, z_tab 932 (by decide +kernel) rfl⟩
theorem l_RL_96 : z_LV RL 96 yX4_undo cX4_undo 1 ((some .int)) 0 := ⟨⟨Or.inl (z_tab 554 (by decide +kernel) rfl), z_tab 557 (by decide +kernel) rfl, z_tab 1 (by decide +kernel) rfl, by decide +kernel, by decide +kernel, by decide +kernel⟩, z_tab 555 (by decide +kernel) rfl, z_tab 556 (by decide +kernel) rfl⟩
theorem l_RL_99 : z_LV RL 99 yX5_undo cX5_undo 2 ((some .int)) 0 := ⟨⟨Or.inl (z_tab 938 (by decide +kernel) rfl), z_tab 941 (by decide +kernel) rfl, z_tab 6 (by decide +kernel) rfl, by decide +kernel, by decide +kernel, by decide +kernel⟩, z_tab 939 (by decide +kernel) rfl, z_tab 940 (by decide +kernel) rfl⟩
theorem l_RL_100 : z_LV RL 100 yX4_digest cX4_digest 4 ((some .long)) 0 := ⟨⟨Or.inl (z_tab 558 (by decide +kernel) rfl), z_tab 561 (by decide +kernel) rfl, z_tab 1 (by decide +kernel) rfl, by decide +kernel, by decide +kernel, by decide +kernel⟩, z_tab 559 (by decide +kernel) rfl, z_tab 560 (by decide +kernel) rfl⟩
theorem l_RL_104 : z_LV RL 104 yX5_digest cX5_digest 5 ((some .long)) 0 := ⟨⟨Or.inl (z_tab 942 (by decide +kernel) rfl), z_tab 945 (by decide +kernel) rfl, z_tab 6 (by decide +kernel) rfl, by decide +kernel, by decide +kernel, by decide +kernel⟩, z_tab 943 (by decide +kernel) rfl, z_tab 944 (by decide +kernel) rfl⟩
theorem l_RX5_32 : z_LV RX5 32 yX5_blanks cX5_blanks 3 (none) 1 := ⟨⟨Or.inl (z_tab 597 (by decide +kernel) rfl), z_tab 600 (by decide +kernel) rfl, z_tab 6 (by decide +kernel) rfl, by decide +kernel, by decide +kernel, by decide +kernel⟩, z_tab 599 (by decide +kernel) rfl, z_sel 19 (q := (yX5_blanks, 13)) (by decide +kernel) rfl⟩
theorem l_RX5_40 : z_LS RX5 40 yX5_at cX5_at 2 ((some .int)) 2 := ⟨⟨Or.inl (z_tab 601 (by decide +kernel) rfl), z_tab 603 (by decide +kernel) rfl, z_tab 6 (by decide +kernel) rfl, by decide +kernel, by decide +kernel, by decide +kernel⟩, z_tab 602 (by decide +kernel) rfl⟩
theorem l_RX5_44 : z_LV RX5 44 yX5_unwraps cX5_unwraps 2 (none) 1 := ⟨⟨Or.inl (z_tab 604 (by decide +kernel) rfl), z_tab 607 (by decide +kernel) rfl, z_tab 6 (by decide +kernel) rfl, by decide +kernel, by decide +kernel, by decide +kernel⟩, z_tab 606 (by decide +kernel) rfl, z_sel 20 (q := (yX5_unwraps, 13)) (by decide +kernel) rfl⟩
theorem l_RX5_47 : z_LS RX5 47 yX5_in cX5_in 3 ((some .boolean)) 3 := ⟨⟨Or.inl (z_tab 653 (by decide +kernel) rfl), z_tab 655 (by decide +kernel) rfl, z_tab 6 (by decide +kernel) rfl, by decide +kernel, by decide +kernel, by decide +kernel⟩, z_tab 654 (by decide +kernel) rfl⟩
theorem l_RX5_51 : z_LV RX5 51 yX5_code cX5_code 3 ((some .int)) 2 := ⟨⟨Or.inl (z_tab 703 (by decide +kernel) rfl), z_tab 706 (by decide +kernel) rfl, z_tab 6 (by decide +kernel) rfl, by decide +kernel, by decide +kernel, by decide +kernel⟩, z_tab 705 (by decide +kernel) rfl, z_sel 32 (q := (yX5_code, 13)) (by decide +kernel) rfl⟩
theorem l_RX5_54 : z_LS RX5 54 yX5_isRight cX5_isRight 1 ((some .boolean)) 1 := ⟨⟨Or.inl (z_tab 707 (by decide +kernel) rfl), z_tab 709 (by decide +kernel) rfl, z_tab 6 (by decide +kernel) rfl, by decide +kernel, by decide +kernel, by decide +kernel⟩, z_tab 708 (by decide +kernel) rfl⟩
theorem l_RX5_58 : z_LV RX5 58 yX5_sets cX5_sets 4 (none) 3 := ⟨⟨Or.inl (z_tab 710 (by decide +kernel) rfl), z_tab 713 (by decide +kernel) rfl, z_tab 6 (by decide +kernel) rfl, by decide +kernel, by decide +kernel, by decide +kernel⟩, z_tab 712 (by decide +kernel) rfl, z_sel 33 (q := (yX5_sets, 13)) (by decide +kernel) rfl⟩
theorem l_RX5_62 : z_LS RX5 62 yX5_isWide cX5_isWide 1 ((some .boolean)) 1 := ⟨⟨Or.inl (z_tab 692 (by decide +kernel) rfl), z_tab 694 (by decide +kernel) rfl, z_tab 6 (by decide +kernel) rfl, by decide +kernel, by decide +kernel, by decide +kernel⟩, z_tab 693 (by decide +kernel) rfl⟩
theorem l_RX5_65 : z_LV RX5 65 yX5_frees cX5_frees 4 (none) 3 := ⟨⟨Or.inl (z_tab 699 (by decide +kernel) rfl), z_tab 702 (by decide +kernel) rfl, z_tab 6 (by decide +kernel) rfl, by decide +kernel, by decide +kernel, by decide +kernel⟩, z_tab 701 (by decide +kernel) rfl, z_sel 31 (q := (yX5_frees, 13)) (by decide +kernel) rfl⟩
theorem l_RX5_68 : z_LV RX5 68 yX5_filled cX5_filled 4 ((some .int)) 1 := ⟨⟨Or.inl (z_tab 742 (by decide +kernel) rfl), z_tab 745 (by decide +kernel) rfl, z_tab 6 (by decide +kernel) rfl, by decide +kernel, by decide +kernel, by decide +kernel⟩, z_tab 744 (by decide +kernel) rfl, z_sel 38 (q := (yX5_filled, 13)) (by decide +kernel) rfl⟩
theorem l_RX5_72 : z_LV RX5 72 yX5_copies cX5_copies 4 (none) 2 := ⟨⟨Or.inl (z_tab 676 (by decide +kernel) rfl), z_tab 679 (by decide +kernel) rfl, z_tab 6 (by decide +kernel) rfl, by decide +kernel, by decide +kernel, by decide +kernel⟩, z_tab 678 (by decide +kernel) rfl, z_sel 26 (q := (yX5_copies, 13)) (by decide +kernel) rfl⟩
theorem l_RX5_76 : z_LV RX5 76 yX5_keepsRow cX5_keepsRow 3 (none) 1 := ⟨⟨Or.inl (z_tab 672 (by decide +kernel) rfl), z_tab 675 (by decide +kernel) rfl, z_tab 6 (by decide +kernel) rfl, by decide +kernel, by decide +kernel, by decide +kernel⟩, z_tab 674 (by decide +kernel) rfl, z_sel 25 (q := (yX5_keepsRow, 13)) (by decide +kernel) rfl⟩
theorem l_RX5_79 : z_LV RX5 79 yX5_unwrapsAhead cX5_unwrapsAhead 2 (none) 1 := ⟨⟨Or.inl (z_tab 680 (by decide +kernel) rfl), z_tab 683 (by decide +kernel) rfl, z_tab 6 (by decide +kernel) rfl, by decide +kernel, by decide +kernel, by decide +kernel⟩, z_tab 682 (by decide +kernel) rfl, z_sel 27 (q := (yX5_unwrapsAhead, 13)) (by decide +kernel) rfl⟩
theorem l_RX5_82 : z_LV RX5 82 yX5_scrolls cX5_scrolls 4 (none) 0 := ⟨⟨Or.inl (z_tab 668 (by decide +kernel) rfl), z_tab 671 (by decide +kernel) rfl, z_tab 6 (by decide +kernel) rfl, by decide +kernel, by decide +kernel, by decide +kernel⟩, z_tab 670 (by decide +kernel) rfl, z_sel 24 (q := (yX5_scrolls, 13)) (by decide +kernel) rfl⟩
theorem l_RX5_85 : z_LV RX5 85 yX5_feedsLine cX5_feedsLine 1 ((some .boolean)) 0 := ⟨⟨Or.inl (z_tab 664 (by decide +kernel) rfl), z_tab 667 (by decide +kernel) rfl, z_tab 6 (by decide +kernel) rfl, by decide +kernel, by decide +kernel, by decide +kernel⟩, z_tab 666 (by decide +kernel) rfl, z_sel 23 (q := (yX5_feedsLine, 13)) (by decide +kernel) rfl⟩
theorem l_RX5_89 : z_LV RX5 89 yX5_goesOn cX5_goesOn 4 (none) 1 := ⟨⟨Or.inl (z_tab 688 (by decide +kernel) rfl), z_tab 691 (by decide +kernel) rfl, z_tab 6 (by decide +kernel) rfl, by decide +kernel, by decide +kernel, by decide +kernel⟩, z_tab 690 (by decide +kernel) rfl, z_sel 29 (q := (yX5_goesOn, 13)) (by decide +kernel) rfl⟩
theorem l_RX5_93 : z_LV RX5 93 yX5_erases cX5_erases 5 (none) 3 := ⟨⟨Or.inl (z_tab 695 (by decide +kernel) rfl), z_tab 698 (by decide +kernel) rfl, z_tab 6 (by decide +kernel) rfl, by decide +kernel, by decide +kernel, by decide +kernel⟩, z_tab 697 (by decide +kernel) rfl, z_sel 30 (q := (yX5_erases, 13)) (by decide +kernel) rfl⟩
theorem l_RX5_96 : z_LV RX5 96 yX5_records cX5_records 2 (none) 0 := ⟨⟨Or.inl (z_tab 656 (by decide +kernel) rfl), z_tab 659 (by decide +kernel) rfl, z_tab 6 (by decide +kernel) rfl, by decide +kernel, by decide +kernel, by decide +kernel⟩, z_tab 658 (by decide +kernel) rfl, z_sel 21 (q := (yX5_records, 13)) (by decide +kernel) rfl⟩
theorem l_RX5_99 : z_LV RX5 99 yX5_moves cX5_moves 4 (none) 1 := ⟨⟨Or.inl (z_tab 660 (by decide +kernel) rfl), z_tab 663 (by decide +kernel) rfl, z_tab 6 (by decide +kernel) rfl, by decide +kernel, by decide +kernel, by decide +kernel⟩, z_tab 662 (by decide +kernel) rfl, z_sel 22 (q := (yX5_moves, 13)) (by decide +kernel) rfl⟩
theorem l_RX5_102 : z_LV RX5 102 yX5_writes cX5_writes 4 (none) 1 := ⟨⟨Or.inl (z_tab 684 (by decide +kernel) rfl), z_tab 687 (by decide +kernel) rfl, z_tab 6 (by decide +kernel) rfl, by decide +kernel, by decide +kernel, by decide +kernel⟩, z_tab 686 (by decide +kernel) rfl, z_sel 28 (q := (yX5_writes, 13)) (by decide +kernel) rfl⟩
theorem l_RX5_105 : z_LV RX5 105 yX5_isRow cX5_isRow 2 ((some .boolean)) 1 := ⟨⟨Or.inl (z_tab 718 (by decide +kernel) rfl), z_tab 721 (by decide +kernel) rfl, z_tab 6 (by decide +kernel) rfl, by decide +kernel, by decide +kernel, by decide +kernel⟩, z_tab 720 (by decide +kernel) rfl, z_sel 34 (q := (yX5_isRow, 13)) (by decide +kernel) rfl⟩
theorem l_RX5_108 : z_LV RX5 108 yX5_isColumn cX5_isColumn 2 ((some .boolean)) 1 := ⟨⟨Or.inl (z_tab 722 (by decide +kernel) rfl), z_tab 725 (by decide +kernel) rfl, z_tab 6 (by decide +kernel) rfl, by decide +kernel, by decide +kernel, by decide +kernel⟩, z_tab 724 (by decide +kernel) rfl, z_sel 35 (q := (yX5_isColumn, 13)) (by decide +kernel) rfl⟩
theorem l_RX5_111 : z_LV RX5 111 yX5_goes cX5_goes 3 (none) 2 := ⟨⟨Or.inl (z_tab 726 (by decide +kernel) rfl), z_tab 729 (by decide +kernel) rfl, z_tab 6 (by decide +kernel) rfl, by decide +kernel, by decide +kernel, by decide +kernel⟩, z_tab 728 (by decide +kernel) rfl, z_sel 36 (q := (yX5_goes, 13)) (by decide +kernel) rfl⟩
theorem l_RX5_114 : z_LV RX5 114 yX5_filledAll cX5_filledAll 3 ((some .int)) 0 := ⟨⟨Or.inl (z_tab 738 (by decide +kernel) rfl), z_tab 741 (by decide +kernel) rfl, z_tab 6 (by decide +kernel) rfl, by decide +kernel, by decide +kernel, by decide +kernel⟩, z_tab 740 (by decide +kernel) rfl, z_sel 37 (q := (yX5_filledAll, 13)) (by decide +kernel) rfl⟩
theorem l_RX5_118 : z_LV RX5 118 yX5_erasesLine cX5_erasesLine 4 (none) 1 := ⟨⟨Or.inl (z_tab 746 (by decide +kernel) rfl), z_tab 749 (by decide +kernel) rfl, z_tab 6 (by decide +kernel) rfl, by decide +kernel, by decide +kernel, by decide +kernel⟩, z_tab 748 (by decide +kernel) rfl, z_sel 39 (q := (yX5_erasesLine, 13)) (by decide +kernel) rfl⟩
theorem l_RX5_121 : z_LV RX5 121 yX5_isInRegion cX5_isInRegion 1 ((some .boolean)) 0 := ⟨⟨Or.inl (z_tab 758 (by decide +kernel) rfl), z_tab 761 (by decide +kernel) rfl, z_tab 6 (by decide +kernel) rfl, by decide +kernel, by decide +kernel, by decide +kernel⟩, z_tab 760 (by decide +kernel) rfl, z_sel 40 (q := (yX5_isInRegion, 13)) (by decide +kernel) rfl⟩
theorem l_RX5_124 : z_LV RX5 124 yX5_filledRows cX5_filledRows 5 ((some .int)) 2 := ⟨⟨Or.inl (z_tab 762 (by decide +kernel) rfl), z_tab 765 (by decide +kernel) rfl, z_tab 6 (by decide +kernel) rfl, by decide +kernel, by decide +kernel, by decide +kernel⟩, z_tab 764 (by decide +kernel) rfl, z_sel 41 (q := (yX5_filledRows, 13)) (by decide +kernel) rfl⟩
theorem l_RX5_127 : z_LV RX5 127 yX5_splits cX5_splits 4 (none) 1 := ⟨⟨Or.inl (z_tab 774 (by decide +kernel) rfl), z_tab 777 (by decide +kernel) rfl, z_tab 6 (by decide +kernel) rfl, by decide +kernel, by decide +kernel, by decide +kernel⟩, z_tab 776 (by decide +kernel) rfl, z_sel 42 (q := (yX5_splits, 13)) (by decide +kernel) rfl⟩
theorem l_RX5_130 : z_LV RX5 130 yX5_slot cX5_slot 2 ((some .int)) 1 := ⟨⟨Or.inl (z_tab 806 (by decide +kernel) rfl), z_tab 809 (by decide +kernel) rfl, z_tab 6 (by decide +kernel) rfl, by decide +kernel, by decide +kernel, by decide +kernel⟩, z_tab 808 (by decide +kernel) rfl, z_sel 46 (q := (yX5_slot, 13)) (by decide +kernel) rfl⟩
theorem l_RX5_133 : z_LV RX5 133 yX5_isIt cX5_isIt 3 ((some .boolean)) 2 := ⟨⟨Or.inl (z_tab 810 (by decide +kernel) rfl), z_tab 813 (by decide +kernel) rfl, z_tab 6 (by decide +kernel) rfl, by decide +kernel, by decide +kernel, by decide +kernel⟩, z_tab 812 (by decide +kernel) rfl, z_sel 47 (q := (yX5_isIt, 13)) (by decide +kernel) rfl⟩
theorem l_RX5_137 : z_LV RX5 137 yX5_lineEnd cX5_lineEnd 4 ((some .int)) 2 := ⟨⟨Or.inl (z_tab 802 (by decide +kernel) rfl), z_tab 805 (by decide +kernel) rfl, z_tab 6 (by decide +kernel) rfl, by decide +kernel, by decide +kernel, by decide +kernel⟩, z_tab 804 (by decide +kernel) rfl, z_sel 45 (q := (yX5_lineEnd, 13)) (by decide +kernel) rfl⟩
theorem l_RX5_140 : z_LV RX5 140 yX5_counted cX5_counted 3 ((some .int)) 0 := ⟨⟨Or.inl (z_tab 794 (by decide +kernel) rfl), z_tab 797 (by decide +kernel) rfl, z_tab 6 (by decide +kernel) rfl, by decide +kernel, by decide +kernel, by decide +kernel⟩, z_tab 796 (by decide +kernel) rfl, z_sel 43 (q := (yX5_counted, 13)) (by decide +kernel) rfl⟩
theorem l_RX5_143 : z_LV RX5 143 yX5_usedCells cX5_usedCells 3 ((some .int)) 1 := ⟨⟨Or.inl (z_tab 826 (by decide +kernel) rfl), z_tab 829 (by decide +kernel) rfl, z_tab 6 (by decide +kernel) rfl, by decide +kernel, by decide +kernel, by decide +kernel⟩, z_tab 828 (by decide +kernel) rfl, z_sel 51 (q := (yX5_usedCells, 13)) (by decide +kernel) rfl⟩
theorem l_RX5_146 : z_LV RX5 146 yX5_cellsOf cX5_cellsOf 3 ((some .int)) 2 := ⟨⟨Or.inl (z_tab 822 (by decide +kernel) rfl), z_tab 825 (by decide +kernel) rfl, z_tab 6 (by decide +kernel) rfl, by decide +kernel, by decide +kernel, by decide +kernel⟩, z_tab 824 (by decide +kernel) rfl, z_sel 50 (q := (yX5_cellsOf, 13)) (by decide +kernel) rfl⟩
theorem l_RX5_149 : z_LV RX5 149 yX5_signsIn cX5_signsIn 5 ((some .int)) 2 := ⟨⟨Or.inl (z_tab 830 (by decide +kernel) rfl), z_tab 833 (by decide +kernel) rfl, z_tab 6 (by decide +kernel) rfl, by decide +kernel, by decide +kernel, by decide +kernel⟩, z_tab 832 (by decide +kernel) rfl, z_sel 52 (q := (yX5_signsIn, 13)) (by decide +kernel) rfl⟩
theorem l_RX5_152 : z_LV RX5 152 yX5_signsOf cX5_signsOf 5 ((some .int)) 2 := ⟨⟨Or.inl (z_tab 818 (by decide +kernel) rfl), z_tab 821 (by decide +kernel) rfl, z_tab 6 (by decide +kernel) rfl, by decide +kernel, by decide +kernel, by decide +kernel⟩, z_tab 820 (by decide +kernel) rfl, z_sel 49 (q := (yX5_signsOf, 13)) (by decide +kernel) rfl⟩
theorem l_RX5_155 : z_LV RX5 155 yX5_lineBegin cX5_lineBegin 5 ((some .int)) 2 := ⟨⟨Or.inl (z_tab 798 (by decide +kernel) rfl), z_tab 801 (by decide +kernel) rfl, z_tab 6 (by decide +kernel) rfl, by decide +kernel, by decide +kernel, by decide +kernel⟩, z_tab 800 (by decide +kernel) rfl, z_sel 44 (q := (yX5_lineBegin, 13)) (by decide +kernel) rfl⟩
theorem l_RX5_158 : z_LV RX5 158 yX5_lineOf cX5_lineOf 6 ((some .int)) 3 := ⟨⟨Or.inl (z_tab 814 (by decide +kernel) rfl), z_tab 817 (by decide +kernel) rfl, z_tab 6 (by decide +kernel) rfl, by decide +kernel, by decide +kernel, by decide +kernel⟩, z_tab 816 (by decide +kernel) rfl, z_sel 48 (q := (yX5_lineOf, 13)) (by decide +kernel) rfl⟩
theorem l_RX5_162 : z_LV RX5 162 yX5_signOf cX5_signOf 9 ((some .int)) 3 := ⟨⟨Or.inl (z_tab 838 (by decide +kernel) rfl), z_tab 841 (by decide +kernel) rfl, z_tab 6 (by decide +kernel) rfl, by decide +kernel, by decide +kernel, by decide +kernel⟩, z_tab 840 (by decide +kernel) rfl, z_sel 53 (q := (yX5_signOf, 13)) (by decide +kernel) rfl⟩
theorem l_RX5_165 : z_LV RX5 165 yX5_lineAt cX5_lineAt 6 ((some .int)) 1 := ⟨⟨Or.inl (z_tab 858 (by decide +kernel) rfl), z_tab 861 (by decide +kernel) rfl, z_tab 6 (by decide +kernel) rfl, by decide +kernel, by decide +kernel, by decide +kernel⟩, z_tab 860 (by decide +kernel) rfl, z_sel 57 (q := (yX5_lineAt, 13)) (by decide +kernel) rfl⟩
theorem l_RX5_168 : z_LV RX5 168 yX5_columnOf cX5_columnOf 2 ((some .int)) 1 := ⟨⟨Or.inl (z_tab 850 (by decide +kernel) rfl), z_tab 853 (by decide +kernel) rfl, z_tab 6 (by decide +kernel) rfl, by decide +kernel, by decide +kernel, by decide +kernel⟩, z_tab 852 (by decide +kernel) rfl, z_sel 55 (q := (yX5_columnOf, 13)) (by decide +kernel) rfl⟩
theorem l_RX5_171 : z_LV RX5 171 yX5_rowOf cX5_rowOf 2 ((some .int)) 1 := ⟨⟨Or.inl (z_tab 854 (by decide +kernel) rfl), z_tab 857 (by decide +kernel) rfl, z_tab 6 (by decide +kernel) rfl, by decide +kernel, by decide +kernel, by decide +kernel⟩, z_tab 856 (by decide +kernel) rfl, z_sel 56 (q := (yX5_rowOf, 13)) (by decide +kernel) rfl⟩
theorem l_RX5_174 : z_LV RX5 174 yX5_markOf cX5_markOf 9 ((some .int)) 2 := ⟨⟨Or.inl (z_tab 862 (by decide +kernel) rfl), z_tab 865 (by decide +kernel) rfl, z_tab 6 (by decide +kernel) rfl, by decide +kernel, by decide +kernel, by decide +kernel⟩, z_tab 864 (by decide +kernel) rfl, z_sel 58 (q := (yX5_markOf, 13)) (by decide +kernel) rfl⟩
theorem l_RX5_177 : z_LV RX5 177 yX5_cursorOf cX5_cursorOf 4 ((some .int)) 2 := ⟨⟨Or.inl (z_tab 846 (by decide +kernel) rfl), z_tab 849 (by decide +kernel) rfl, z_tab 6 (by decide +kernel) rfl, by decide +kernel, by decide +kernel, by decide +kernel⟩, z_tab 848 (by decide +kernel) rfl, z_sel 54 (q := (yX5_cursorOf, 13)) (by decide +kernel) rfl⟩
theorem l_RX5_196 : z_LV RX5 196 yX5_lays cX5_lays 4 (none) 2 := ⟨⟨Or.inl (z_tab 882 (by decide +kernel) rfl), z_tab 885 (by decide +kernel) rfl, z_tab 6 (by decide +kernel) rfl, by decide +kernel, by decide +kernel, by decide +kernel⟩, z_tab 884 (by decide +kernel) rfl, z_sel 62 (q := (yX5_lays, 13)) (by decide +kernel) rfl⟩
theorem l_RX5_199 : z_LV RX5 199 yX5_pours cX5_pours 3 (none) 1 := ⟨⟨Or.inl (z_tab 878 (by decide +kernel) rfl), z_tab 881 (by decide +kernel) rfl, z_tab 6 (by decide +kernel) rfl, by decide +kernel, by decide +kernel, by decide +kernel⟩, z_tab 880 (by decide +kernel) rfl, z_sel 61 (q := (yX5_pours, 13)) (by decide +kernel) rfl⟩
theorem l_RX5_202 : z_LV RX5 202 yX5_meets cX5_meets 4 (none) 2 := ⟨⟨Or.inl (z_tab 886 (by decide +kernel) rfl), z_tab 889 (by decide +kernel) rfl, z_tab 6 (by decide +kernel) rfl, by decide +kernel, by decide +kernel, by decide +kernel⟩, z_tab 888 (by decide +kernel) rfl, z_sel 63 (q := (yX5_meets, 13)) (by decide +kernel) rfl⟩
theorem l_RX5_205 : z_LV RX5 205 yX5_ends cX5_ends 5 (none) 2 := ⟨⟨Or.inl (z_tab 890 (by decide +kernel) rfl), z_tab 893 (by decide +kernel) rfl, z_tab 6 (by decide +kernel) rfl, by decide +kernel, by decide +kernel, by decide +kernel⟩, z_tab 892 (by decide +kernel) rfl, z_sel 64 (q := (yX5_ends, 13)) (by decide +kernel) rfl⟩
theorem l_RX5_208 : z_LV RX5 208 yX5_poursAll cX5_poursAll 10 ((some .int)) 0 := ⟨⟨Or.inl (z_tab 874 (by decide +kernel) rfl), z_tab 877 (by decide +kernel) rfl, z_tab 6 (by decide +kernel) rfl, by decide +kernel, by decide +kernel, by decide +kernel⟩, z_tab 876 (by decide +kernel) rfl, z_sel 60 (q := (yX5_poursAll, 13)) (by decide +kernel) rfl⟩
theorem l_RX5_211 : z_LV RX5 211 yX5_rowsWith cX5_rowsWith 2 ((some .int)) 1 := ⟨⟨Or.inl (z_tab 870 (by decide +kernel) rfl), z_tab 873 (by decide +kernel) rfl, z_tab 6 (by decide +kernel) rfl, by decide +kernel, by decide +kernel, by decide +kernel⟩, z_tab 872 (by decide +kernel) rfl, z_sel 59 (q := (yX5_rowsWith, 13)) (by decide +kernel) rfl⟩
theorem l_RX5_214 : z_LV RX5 214 yX5_marks cX5_marks 3 (none) 0 := ⟨⟨Or.inl (z_tab 902 (by decide +kernel) rfl), z_tab 905 (by decide +kernel) rfl, z_tab 6 (by decide +kernel) rfl, by decide +kernel, by decide +kernel, by decide +kernel⟩, z_tab 904 (by decide +kernel) rfl, z_sel 65 (q := (yX5_marks, 13)) (by decide +kernel) rfl⟩
theorem l_RX5_217 : z_LV RX5 217 yX5_takes cX5_takes 4 (none) 2 := ⟨⟨Or.inl (z_tab 906 (by decide +kernel) rfl), z_tab 909 (by decide +kernel) rfl, z_tab 6 (by decide +kernel) rfl, by decide +kernel, by decide +kernel, by decide +kernel⟩, z_tab 908 (by decide +kernel) rfl, z_sel 66 (q := (yX5_takes, 13)) (by decide +kernel) rfl⟩
theorem l_RX5_220 : z_LV RX5 220 yX5_lands cX5_lands 6 (none) 1 := ⟨⟨Or.inl (z_tab 910 (by decide +kernel) rfl), z_tab 913 (by decide +kernel) rfl, z_tab 6 (by decide +kernel) rfl, by decide +kernel, by decide +kernel, by decide +kernel⟩, z_tab 912 (by decide +kernel) rfl, z_sel 67 (q := (yX5_lands, 13)) (by decide +kernel) rfl⟩
theorem l_RX5_223 : z_LV RX5 223 yX5_signsFilled cX5_signsFilled 4 ((some .int)) 1 := ⟨⟨Or.inl (z_tab 926 (by decide +kernel) rfl), z_tab 929 (by decide +kernel) rfl, z_tab 6 (by decide +kernel) rfl, by decide +kernel, by decide +kernel, by decide +kernel⟩, z_tab 928 (by decide +kernel) rfl, z_sel 69 (q := (yX5_signsFilled, 13)) (by decide +kernel) rfl⟩
theorem l_RX5_226 : z_LV RX5 226 yX5_rowOfSlot cX5_rowOfSlot 3 ((some .int)) 2 := ⟨⟨Or.inl (z_tab 922 (by decide +kernel) rfl), z_tab 925 (by decide +kernel) rfl, z_tab 6 (by decide +kernel) rfl, by decide +kernel, by decide +kernel, by decide +kernel⟩, z_tab 924 (by decide +kernel) rfl, z_sel 68 (q := (yX5_rowOfSlot, 13)) (by decide +kernel) rfl⟩
theorem l_RX5_229 : z_LV RX5 229 yX5_lines cX5_lines 4 ((some .int)) 0 := ⟨⟨Or.inl (z_tab 934 (by decide +kernel) rfl), z_tab 937 (by decide +kernel) rfl, z_tab 6 (by decide +kernel) rfl, by decide +kernel, by decide +kernel, by decide +kernel⟩, z_tab 936 (by decide +kernel) rfl, z_sel 70 (q := (yX5_lines, 13)) (by decide +kernel) rfl⟩
theorem l_RX5_236 : z_LV RX5 236 yX5_told cX5_told 2 ((some .int)) 1 := ⟨⟨Or.inl (z_tab 948 (by decide +kernel) rfl), z_tab 933 (by decide +kernel) rfl, z_tab 6 (by decide +kernel) rfl, by decide +kernel, by decide +kernel, by decide +kernel⟩, z_tab 931 (by decide +kernel) rfl, z_tab 932 (by decide +kernel) rfl⟩
theorem l_RX5_239 : z_LV RX5 239 yX5_cell cX5_cell 4 ((some .int)) 2 := ⟨⟨Or.inl (z_tab 949 (by decide +kernel) rfl), z_tab 917 (by decide +kernel) rfl, z_tab 6 (by decide +kernel) rfl, by decide +kernel, by decide +kernel, by decide +kernel⟩, z_tab 915 (by decide +kernel) rfl, z_tab 916 (by decide +kernel) rfl⟩
theorem l_RX5_242 : z_LV RX5 242 yX5_mixedLines cX5_mixedLines 10 ((some .long)) 1 := ⟨⟨Or.inl (z_tab 950 (by decide +kernel) rfl), z_tab 953 (by decide +kernel) rfl, z_tab 6 (by decide +kernel) rfl, by decide +kernel, by decide +kernel, by decide +kernel⟩, z_tab 952 (by decide +kernel) rfl, z_sel 71 (q := (yX5_mixedLines, 13)) (by decide +kernel) rfl⟩
end
section
theorem e_L_law_0 : z_D 3 M_L_law 0 3 (.new 7) := ⟨by decide +kernel, rfl⟩
theorem e_L_law_3 : z_D 1 M_L_law 3 4 (.dup) := ⟨by decide +kernel, rfl⟩
theorem e_L_law_4 : z_D 3 M_L_law 4 7 (.invokespecial 9) := ⟨by decide +kernel, rfl⟩
theorem e_L_law_7 : z_D 1 M_L_law 7 8 (.astore_n 1) := ⟨by decide +kernel, rfl⟩
theorem e_L_law_8 : z_D 3 M_L_law 8 11 (.new 10) := ⟨by decide +kernel, rfl⟩
theorem e_L_law_11 : z_D 1 M_L_law 11 12 (.dup) := ⟨by decide +kernel, rfl⟩
theorem e_L_law_12 : z_D 3 M_L_law 12 15 (.invokespecial 12) := ⟨by decide +kernel, rfl⟩
theorem e_L_law_15 : z_D 1 M_L_law 15 16 (.astore_n 2) := ⟨by decide +kernel, rfl⟩
theorem e_L_law_16 : z_D 1 M_L_law 16 17 (.iconst 0) := ⟨by decide +kernel, rfl⟩
theorem e_L_law_17 : z_D 1 M_L_law 17 18 (.istore_n 3) := ⟨by decide +kernel, rfl⟩
theorem e_L_law_18 : z_D 1 M_L_law 18 19 (.iload_n 3) := ⟨by decide +kernel, rfl⟩
theorem e_L_law_19 : z_D 1 M_L_law 19 20 (.aload_n 0) := ⟨by decide +kernel, rfl⟩
theorem e_L_law_20 : z_D 1 M_L_law 20 21 (.arraylength) := ⟨by decide +kernel, rfl⟩
theorem e_L_law_21 : z_D 1 M_L_law 21 22 (.iconst 3) := ⟨by decide +kernel, rfl⟩
theorem e_L_law_22 : z_D 1 M_L_law 22 23 (.isub) := ⟨by decide +kernel, rfl⟩
theorem e_L_law_23 : z_J M_L_law 23 26 689 (666) (.if_icmp .gt 666) := ⟨by decide +kernel, rfl, rfl⟩
theorem e_L_law_26 : z_D 1 M_L_law 26 27 (.aload_n 0) := ⟨by decide +kernel, rfl⟩
theorem e_L_law_27 : z_D 1 M_L_law 27 28 (.iload_n 3) := ⟨by decide +kernel, rfl⟩
theorem e_L_law_28 : z_D 1 M_L_law 28 29 (.iaload) := ⟨by decide +kernel, rfl⟩
theorem e_L_law_29 : z_D 2 M_L_law 29 31 (.bipush 31) := ⟨by decide +kernel, rfl⟩
theorem e_L_law_31 : z_D 1 M_L_law 31 32 (.iand) := ⟨by decide +kernel, rfl⟩
theorem e_L_law_32 : z_D 104 M_L_law 32 136 (.tableswitch 651 0 21 #[104, 127, 160, 193, 216, 239, 262, 285, 308, 331, 344, 357, 390, 423, 456, 489, 522, 555, 578, 601, 624, 637]) := ⟨by decide +kernel, rfl⟩
theorem e_L_law_136 : z_D 1 M_L_law 136 137 (.aload_n 1) := ⟨by decide +kernel, rfl⟩
theorem e_L_law_137 : z_D 1 M_L_law 137 138 (.aload_n 0) := ⟨by decide +kernel, rfl⟩
theorem e_L_law_138 : z_D 1 M_L_law 138 139 (.iload_n 3) := ⟨by decide +kernel, rfl⟩
theorem e_L_law_139 : z_D 1 M_L_law 139 140 (.iconst 1) := ⟨by decide +kernel, rfl⟩
theorem e_L_law_140 : z_D 1 M_L_law 140 141 (.iadd) := ⟨by decide +kernel, rfl⟩
theorem e_L_law_141 : z_D 1 M_L_law 141 142 (.iaload) := ⟨by decide +kernel, rfl⟩
theorem e_L_law_142 : z_D 3 M_L_law 142 145 (.invokevirtual 13) := ⟨by decide +kernel, rfl⟩
theorem e_L_law_145 : z_D 1 M_L_law 145 146 (.aload_n 2) := ⟨by decide +kernel, rfl⟩
theorem e_L_law_146 : z_D 1 M_L_law 146 147 (.aload_n 0) := ⟨by decide +kernel, rfl⟩
theorem e_L_law_147 : z_D 1 M_L_law 147 148 (.iload_n 3) := ⟨by decide +kernel, rfl⟩
theorem e_L_law_148 : z_D 1 M_L_law 148 149 (.iconst 1) := ⟨by decide +kernel, rfl⟩
theorem e_L_law_149 : z_D 1 M_L_law 149 150 (.iadd) := ⟨by decide +kernel, rfl⟩
theorem e_L_law_150 : z_D 1 M_L_law 150 151 (.iaload) := ⟨by decide +kernel, rfl⟩
theorem e_L_law_151 : z_D 3 M_L_law 151 154 (.invokevirtual 17) := ⟨by decide +kernel, rfl⟩
theorem e_L_law_154 : z_J M_L_law 154 157 683 (529) (.if_icmp .eq 529) := ⟨by decide +kernel, rfl, rfl⟩
theorem e_L_law_157 : z_D 1 M_L_law 157 158 (.iconst 0) := ⟨by decide +kernel, rfl⟩
theorem e_L_law_158 : z_D 1 M_L_law 158 159 (.ireturn) := ⟨by decide +kernel, rfl⟩
theorem e_L_law_159 : z_D 1 M_L_law 159 160 (.aload_n 1) := ⟨by decide +kernel, rfl⟩
theorem e_L_law_160 : z_D 1 M_L_law 160 161 (.aload_n 0) := ⟨by decide +kernel, rfl⟩
theorem e_L_law_161 : z_D 1 M_L_law 161 162 (.iload_n 3) := ⟨by decide +kernel, rfl⟩
theorem e_L_law_162 : z_D 1 M_L_law 162 163 (.iconst 1) := ⟨by decide +kernel, rfl⟩
theorem e_L_law_163 : z_D 1 M_L_law 163 164 (.iadd) := ⟨by decide +kernel, rfl⟩
theorem e_L_law_164 : z_D 1 M_L_law 164 165 (.iaload) := ⟨by decide +kernel, rfl⟩
theorem e_L_law_165 : z_D 1 M_L_law 165 166 (.aload_n 0) := ⟨by decide +kernel, rfl⟩
theorem e_L_law_166 : z_D 1 M_L_law 166 167 (.iload_n 3) := ⟨by decide +kernel, rfl⟩
theorem e_L_law_167 : z_D 1 M_L_law 167 168 (.iconst 2) := ⟨by decide +kernel, rfl⟩
theorem e_L_law_168 : z_D 1 M_L_law 168 169 (.iadd) := ⟨by decide +kernel, rfl⟩
theorem e_L_law_169 : z_D 1 M_L_law 169 170 (.iaload) := ⟨by decide +kernel, rfl⟩
theorem e_L_law_170 : z_D 3 M_L_law 170 173 (.invokevirtual 18) := ⟨by decide +kernel, rfl⟩
theorem e_L_law_173 : z_D 1 M_L_law 173 174 (.aload_n 2) := ⟨by decide +kernel, rfl⟩
theorem e_L_law_174 : z_D 1 M_L_law 174 175 (.aload_n 0) := ⟨by decide +kernel, rfl⟩
theorem e_L_law_175 : z_D 1 M_L_law 175 176 (.iload_n 3) := ⟨by decide +kernel, rfl⟩
theorem e_L_law_176 : z_D 1 M_L_law 176 177 (.iconst 1) := ⟨by decide +kernel, rfl⟩
theorem e_L_law_177 : z_D 1 M_L_law 177 178 (.iadd) := ⟨by decide +kernel, rfl⟩
theorem e_L_law_178 : z_D 1 M_L_law 178 179 (.iaload) := ⟨by decide +kernel, rfl⟩
theorem e_L_law_179 : z_D 1 M_L_law 179 180 (.aload_n 0) := ⟨by decide +kernel, rfl⟩
theorem e_L_law_180 : z_D 1 M_L_law 180 181 (.iload_n 3) := ⟨by decide +kernel, rfl⟩
theorem e_L_law_181 : z_D 1 M_L_law 181 182 (.iconst 2) := ⟨by decide +kernel, rfl⟩
theorem e_L_law_182 : z_D 1 M_L_law 182 183 (.iadd) := ⟨by decide +kernel, rfl⟩
theorem e_L_law_183 : z_D 1 M_L_law 183 184 (.iaload) := ⟨by decide +kernel, rfl⟩
theorem e_L_law_184 : z_D 3 M_L_law 184 187 (.invokevirtual 22) := ⟨by decide +kernel, rfl⟩
theorem e_L_law_187 : z_J M_L_law 187 190 683 (496) (.if_icmp .eq 496) := ⟨by decide +kernel, rfl, rfl⟩
theorem e_L_law_190 : z_D 1 M_L_law 190 191 (.iconst 0) := ⟨by decide +kernel, rfl⟩
theorem e_L_law_191 : z_D 1 M_L_law 191 192 (.ireturn) := ⟨by decide +kernel, rfl⟩
theorem e_L_law_192 : z_D 1 M_L_law 192 193 (.aload_n 1) := ⟨by decide +kernel, rfl⟩
theorem e_L_law_193 : z_D 1 M_L_law 193 194 (.aload_n 0) := ⟨by decide +kernel, rfl⟩
theorem e_L_law_194 : z_D 1 M_L_law 194 195 (.iload_n 3) := ⟨by decide +kernel, rfl⟩
theorem e_L_law_195 : z_D 1 M_L_law 195 196 (.iconst 1) := ⟨by decide +kernel, rfl⟩
theorem e_L_law_196 : z_D 1 M_L_law 196 197 (.iadd) := ⟨by decide +kernel, rfl⟩
theorem e_L_law_197 : z_D 1 M_L_law 197 198 (.iaload) := ⟨by decide +kernel, rfl⟩
theorem e_L_law_198 : z_D 1 M_L_law 198 199 (.aload_n 0) := ⟨by decide +kernel, rfl⟩
theorem e_L_law_199 : z_D 1 M_L_law 199 200 (.iload_n 3) := ⟨by decide +kernel, rfl⟩
theorem e_L_law_200 : z_D 1 M_L_law 200 201 (.iconst 2) := ⟨by decide +kernel, rfl⟩
theorem e_L_law_201 : z_D 1 M_L_law 201 202 (.iadd) := ⟨by decide +kernel, rfl⟩
theorem e_L_law_202 : z_D 1 M_L_law 202 203 (.iaload) := ⟨by decide +kernel, rfl⟩
theorem e_L_law_203 : z_D 3 M_L_law 203 206 (.invokevirtual 23) := ⟨by decide +kernel, rfl⟩
theorem e_L_law_206 : z_D 1 M_L_law 206 207 (.aload_n 2) := ⟨by decide +kernel, rfl⟩
theorem e_L_law_207 : z_D 1 M_L_law 207 208 (.aload_n 0) := ⟨by decide +kernel, rfl⟩
theorem e_L_law_208 : z_D 1 M_L_law 208 209 (.iload_n 3) := ⟨by decide +kernel, rfl⟩
theorem e_L_law_209 : z_D 1 M_L_law 209 210 (.iconst 1) := ⟨by decide +kernel, rfl⟩
theorem e_L_law_210 : z_D 1 M_L_law 210 211 (.iadd) := ⟨by decide +kernel, rfl⟩
theorem e_L_law_211 : z_D 1 M_L_law 211 212 (.iaload) := ⟨by decide +kernel, rfl⟩
theorem e_L_law_212 : z_D 1 M_L_law 212 213 (.aload_n 0) := ⟨by decide +kernel, rfl⟩
theorem e_L_law_213 : z_D 1 M_L_law 213 214 (.iload_n 3) := ⟨by decide +kernel, rfl⟩
theorem e_L_law_214 : z_D 1 M_L_law 214 215 (.iconst 2) := ⟨by decide +kernel, rfl⟩
theorem e_L_law_215 : z_D 1 M_L_law 215 216 (.iadd) := ⟨by decide +kernel, rfl⟩
theorem e_L_law_216 : z_D 1 M_L_law 216 217 (.iaload) := ⟨by decide +kernel, rfl⟩
theorem e_L_law_217 : z_D 3 M_L_law 217 220 (.invokevirtual 26) := ⟨by decide +kernel, rfl⟩
theorem e_L_law_220 : z_J M_L_law 220 223 683 (463) (.if_icmp .eq 463) := ⟨by decide +kernel, rfl, rfl⟩
theorem e_L_law_223 : z_D 1 M_L_law 223 224 (.iconst 0) := ⟨by decide +kernel, rfl⟩
theorem e_L_law_224 : z_D 1 M_L_law 224 225 (.ireturn) := ⟨by decide +kernel, rfl⟩
theorem e_L_law_225 : z_D 1 M_L_law 225 226 (.aload_n 1) := ⟨by decide +kernel, rfl⟩
theorem e_L_law_226 : z_D 1 M_L_law 226 227 (.aload_n 0) := ⟨by decide +kernel, rfl⟩
theorem e_L_law_227 : z_D 1 M_L_law 227 228 (.iload_n 3) := ⟨by decide +kernel, rfl⟩
theorem e_L_law_228 : z_D 1 M_L_law 228 229 (.iconst 1) := ⟨by decide +kernel, rfl⟩
theorem e_L_law_229 : z_D 1 M_L_law 229 230 (.iadd) := ⟨by decide +kernel, rfl⟩
theorem e_L_law_230 : z_D 1 M_L_law 230 231 (.iaload) := ⟨by decide +kernel, rfl⟩
theorem e_L_law_231 : z_D 3 M_L_law 231 234 (.invokevirtual 27) := ⟨by decide +kernel, rfl⟩
theorem e_L_law_234 : z_D 1 M_L_law 234 235 (.aload_n 2) := ⟨by decide +kernel, rfl⟩
theorem e_L_law_235 : z_D 1 M_L_law 235 236 (.aload_n 0) := ⟨by decide +kernel, rfl⟩
theorem e_L_law_236 : z_D 1 M_L_law 236 237 (.iload_n 3) := ⟨by decide +kernel, rfl⟩
theorem e_L_law_237 : z_D 1 M_L_law 237 238 (.iconst 1) := ⟨by decide +kernel, rfl⟩
theorem e_L_law_238 : z_D 1 M_L_law 238 239 (.iadd) := ⟨by decide +kernel, rfl⟩
theorem e_L_law_239 : z_D 1 M_L_law 239 240 (.iaload) := ⟨by decide +kernel, rfl⟩
theorem e_L_law_240 : z_D 3 M_L_law 240 243 (.invokevirtual 30) := ⟨by decide +kernel, rfl⟩
theorem e_L_law_243 : z_J M_L_law 243 246 683 (440) (.if_icmp .eq 440) := ⟨by decide +kernel, rfl, rfl⟩
theorem e_L_law_246 : z_D 1 M_L_law 246 247 (.iconst 0) := ⟨by decide +kernel, rfl⟩
theorem e_L_law_247 : z_D 1 M_L_law 247 248 (.ireturn) := ⟨by decide +kernel, rfl⟩
theorem e_L_law_248 : z_D 1 M_L_law 248 249 (.aload_n 1) := ⟨by decide +kernel, rfl⟩
theorem e_L_law_249 : z_D 1 M_L_law 249 250 (.aload_n 0) := ⟨by decide +kernel, rfl⟩
theorem e_L_law_250 : z_D 1 M_L_law 250 251 (.iload_n 3) := ⟨by decide +kernel, rfl⟩
theorem e_L_law_251 : z_D 1 M_L_law 251 252 (.iconst 1) := ⟨by decide +kernel, rfl⟩
theorem e_L_law_252 : z_D 1 M_L_law 252 253 (.iadd) := ⟨by decide +kernel, rfl⟩
theorem e_L_law_253 : z_D 1 M_L_law 253 254 (.iaload) := ⟨by decide +kernel, rfl⟩
theorem e_L_law_254 : z_D 3 M_L_law 254 257 (.invokevirtual 31) := ⟨by decide +kernel, rfl⟩
theorem e_L_law_257 : z_D 1 M_L_law 257 258 (.aload_n 2) := ⟨by decide +kernel, rfl⟩
theorem e_L_law_258 : z_D 1 M_L_law 258 259 (.aload_n 0) := ⟨by decide +kernel, rfl⟩
theorem e_L_law_259 : z_D 1 M_L_law 259 260 (.iload_n 3) := ⟨by decide +kernel, rfl⟩
theorem e_L_law_260 : z_D 1 M_L_law 260 261 (.iconst 1) := ⟨by decide +kernel, rfl⟩
theorem e_L_law_261 : z_D 1 M_L_law 261 262 (.iadd) := ⟨by decide +kernel, rfl⟩
theorem e_L_law_262 : z_D 1 M_L_law 262 263 (.iaload) := ⟨by decide +kernel, rfl⟩
theorem e_L_law_263 : z_D 3 M_L_law 263 266 (.invokevirtual 34) := ⟨by decide +kernel, rfl⟩
theorem e_L_law_266 : z_J M_L_law 266 269 683 (417) (.if_icmp .eq 417) := ⟨by decide +kernel, rfl, rfl⟩
theorem e_L_law_269 : z_D 1 M_L_law 269 270 (.iconst 0) := ⟨by decide +kernel, rfl⟩
theorem e_L_law_270 : z_D 1 M_L_law 270 271 (.ireturn) := ⟨by decide +kernel, rfl⟩
theorem e_L_law_271 : z_D 1 M_L_law 271 272 (.aload_n 1) := ⟨by decide +kernel, rfl⟩
theorem e_L_law_272 : z_D 1 M_L_law 272 273 (.aload_n 0) := ⟨by decide +kernel, rfl⟩
theorem e_L_law_273 : z_D 1 M_L_law 273 274 (.iload_n 3) := ⟨by decide +kernel, rfl⟩
theorem e_L_law_274 : z_D 1 M_L_law 274 275 (.iconst 1) := ⟨by decide +kernel, rfl⟩
theorem e_L_law_275 : z_D 1 M_L_law 275 276 (.iadd) := ⟨by decide +kernel, rfl⟩
theorem e_L_law_276 : z_D 1 M_L_law 276 277 (.iaload) := ⟨by decide +kernel, rfl⟩
theorem e_L_law_277 : z_D 3 M_L_law 277 280 (.invokevirtual 35) := ⟨by decide +kernel, rfl⟩
theorem e_L_law_280 : z_D 1 M_L_law 280 281 (.aload_n 2) := ⟨by decide +kernel, rfl⟩
theorem e_L_law_281 : z_D 1 M_L_law 281 282 (.aload_n 0) := ⟨by decide +kernel, rfl⟩
theorem e_L_law_282 : z_D 1 M_L_law 282 283 (.iload_n 3) := ⟨by decide +kernel, rfl⟩
theorem e_L_law_283 : z_D 1 M_L_law 283 284 (.iconst 1) := ⟨by decide +kernel, rfl⟩
theorem e_L_law_284 : z_D 1 M_L_law 284 285 (.iadd) := ⟨by decide +kernel, rfl⟩
theorem e_L_law_285 : z_D 1 M_L_law 285 286 (.iaload) := ⟨by decide +kernel, rfl⟩
theorem e_L_law_286 : z_D 3 M_L_law 286 289 (.invokevirtual 38) := ⟨by decide +kernel, rfl⟩
theorem e_L_law_289 : z_J M_L_law 289 292 683 (394) (.if_icmp .eq 394) := ⟨by decide +kernel, rfl, rfl⟩
theorem e_L_law_292 : z_D 1 M_L_law 292 293 (.iconst 0) := ⟨by decide +kernel, rfl⟩
theorem e_L_law_293 : z_D 1 M_L_law 293 294 (.ireturn) := ⟨by decide +kernel, rfl⟩
theorem e_L_law_294 : z_D 1 M_L_law 294 295 (.aload_n 1) := ⟨by decide +kernel, rfl⟩
theorem e_L_law_295 : z_D 1 M_L_law 295 296 (.aload_n 0) := ⟨by decide +kernel, rfl⟩
theorem e_L_law_296 : z_D 1 M_L_law 296 297 (.iload_n 3) := ⟨by decide +kernel, rfl⟩
theorem e_L_law_297 : z_D 1 M_L_law 297 298 (.iconst 1) := ⟨by decide +kernel, rfl⟩
theorem e_L_law_298 : z_D 1 M_L_law 298 299 (.iadd) := ⟨by decide +kernel, rfl⟩
theorem e_L_law_299 : z_D 1 M_L_law 299 300 (.iaload) := ⟨by decide +kernel, rfl⟩
theorem e_L_law_300 : z_D 3 M_L_law 300 303 (.invokevirtual 39) := ⟨by decide +kernel, rfl⟩
theorem e_L_law_303 : z_D 1 M_L_law 303 304 (.aload_n 2) := ⟨by decide +kernel, rfl⟩
theorem e_L_law_304 : z_D 1 M_L_law 304 305 (.aload_n 0) := ⟨by decide +kernel, rfl⟩
theorem e_L_law_305 : z_D 1 M_L_law 305 306 (.iload_n 3) := ⟨by decide +kernel, rfl⟩
theorem e_L_law_306 : z_D 1 M_L_law 306 307 (.iconst 1) := ⟨by decide +kernel, rfl⟩
theorem e_L_law_307 : z_D 1 M_L_law 307 308 (.iadd) := ⟨by decide +kernel, rfl⟩
theorem e_L_law_308 : z_D 1 M_L_law 308 309 (.iaload) := ⟨by decide +kernel, rfl⟩
theorem e_L_law_309 : z_D 3 M_L_law 309 312 (.invokevirtual 42) := ⟨by decide +kernel, rfl⟩
theorem e_L_law_312 : z_J M_L_law 312 315 683 (371) (.if_icmp .eq 371) := ⟨by decide +kernel, rfl, rfl⟩
theorem e_L_law_315 : z_D 1 M_L_law 315 316 (.iconst 0) := ⟨by decide +kernel, rfl⟩
theorem e_L_law_316 : z_D 1 M_L_law 316 317 (.ireturn) := ⟨by decide +kernel, rfl⟩
theorem e_L_law_317 : z_D 1 M_L_law 317 318 (.aload_n 1) := ⟨by decide +kernel, rfl⟩
theorem e_L_law_318 : z_D 1 M_L_law 318 319 (.aload_n 0) := ⟨by decide +kernel, rfl⟩
theorem e_L_law_319 : z_D 1 M_L_law 319 320 (.iload_n 3) := ⟨by decide +kernel, rfl⟩
theorem e_L_law_320 : z_D 1 M_L_law 320 321 (.iconst 1) := ⟨by decide +kernel, rfl⟩
theorem e_L_law_321 : z_D 1 M_L_law 321 322 (.iadd) := ⟨by decide +kernel, rfl⟩
theorem e_L_law_322 : z_D 1 M_L_law 322 323 (.iaload) := ⟨by decide +kernel, rfl⟩
theorem e_L_law_323 : z_D 3 M_L_law 323 326 (.invokevirtual 43) := ⟨by decide +kernel, rfl⟩
theorem e_L_law_326 : z_D 1 M_L_law 326 327 (.aload_n 2) := ⟨by decide +kernel, rfl⟩
theorem e_L_law_327 : z_D 1 M_L_law 327 328 (.aload_n 0) := ⟨by decide +kernel, rfl⟩
theorem e_L_law_328 : z_D 1 M_L_law 328 329 (.iload_n 3) := ⟨by decide +kernel, rfl⟩
theorem e_L_law_329 : z_D 1 M_L_law 329 330 (.iconst 1) := ⟨by decide +kernel, rfl⟩
theorem e_L_law_330 : z_D 1 M_L_law 330 331 (.iadd) := ⟨by decide +kernel, rfl⟩
theorem e_L_law_331 : z_D 1 M_L_law 331 332 (.iaload) := ⟨by decide +kernel, rfl⟩
theorem e_L_law_332 : z_D 3 M_L_law 332 335 (.invokevirtual 46) := ⟨by decide +kernel, rfl⟩
theorem e_L_law_335 : z_J M_L_law 335 338 683 (348) (.if_icmp .eq 348) := ⟨by decide +kernel, rfl, rfl⟩
theorem e_L_law_338 : z_D 1 M_L_law 338 339 (.iconst 0) := ⟨by decide +kernel, rfl⟩
theorem e_L_law_339 : z_D 1 M_L_law 339 340 (.ireturn) := ⟨by decide +kernel, rfl⟩
theorem e_L_law_340 : z_D 1 M_L_law 340 341 (.aload_n 1) := ⟨by decide +kernel, rfl⟩
theorem e_L_law_341 : z_D 1 M_L_law 341 342 (.aload_n 0) := ⟨by decide +kernel, rfl⟩
theorem e_L_law_342 : z_D 1 M_L_law 342 343 (.iload_n 3) := ⟨by decide +kernel, rfl⟩
theorem e_L_law_343 : z_D 1 M_L_law 343 344 (.iconst 1) := ⟨by decide +kernel, rfl⟩
theorem e_L_law_344 : z_D 1 M_L_law 344 345 (.iadd) := ⟨by decide +kernel, rfl⟩
theorem e_L_law_345 : z_D 1 M_L_law 345 346 (.iaload) := ⟨by decide +kernel, rfl⟩
theorem e_L_law_346 : z_D 3 M_L_law 346 349 (.invokevirtual 47) := ⟨by decide +kernel, rfl⟩
theorem e_L_law_349 : z_D 1 M_L_law 349 350 (.aload_n 2) := ⟨by decide +kernel, rfl⟩
theorem e_L_law_350 : z_D 1 M_L_law 350 351 (.aload_n 0) := ⟨by decide +kernel, rfl⟩
theorem e_L_law_351 : z_D 1 M_L_law 351 352 (.iload_n 3) := ⟨by decide +kernel, rfl⟩
theorem e_L_law_352 : z_D 1 M_L_law 352 353 (.iconst 1) := ⟨by decide +kernel, rfl⟩
theorem e_L_law_353 : z_D 1 M_L_law 353 354 (.iadd) := ⟨by decide +kernel, rfl⟩
theorem e_L_law_354 : z_D 1 M_L_law 354 355 (.iaload) := ⟨by decide +kernel, rfl⟩
theorem e_L_law_355 : z_D 3 M_L_law 355 358 (.invokevirtual 50) := ⟨by decide +kernel, rfl⟩
theorem e_L_law_358 : z_J M_L_law 358 361 683 (325) (.if_icmp .eq 325) := ⟨by decide +kernel, rfl, rfl⟩
theorem e_L_law_361 : z_D 1 M_L_law 361 362 (.iconst 0) := ⟨by decide +kernel, rfl⟩
theorem e_L_law_362 : z_D 1 M_L_law 362 363 (.ireturn) := ⟨by decide +kernel, rfl⟩
theorem e_L_law_363 : z_D 1 M_L_law 363 364 (.aload_n 1) := ⟨by decide +kernel, rfl⟩
theorem e_L_law_364 : z_D 3 M_L_law 364 367 (.invokevirtual 51) := ⟨by decide +kernel, rfl⟩
theorem e_L_law_367 : z_D 1 M_L_law 367 368 (.aload_n 2) := ⟨by decide +kernel, rfl⟩
theorem e_L_law_368 : z_D 3 M_L_law 368 371 (.invokevirtual 55) := ⟨by decide +kernel, rfl⟩
theorem e_L_law_371 : z_J M_L_law 371 374 683 (312) (.if_icmp .eq 312) := ⟨by decide +kernel, rfl, rfl⟩
theorem e_L_law_374 : z_D 1 M_L_law 374 375 (.iconst 0) := ⟨by decide +kernel, rfl⟩
theorem e_L_law_375 : z_D 1 M_L_law 375 376 (.ireturn) := ⟨by decide +kernel, rfl⟩
theorem e_L_law_376 : z_D 1 M_L_law 376 377 (.aload_n 1) := ⟨by decide +kernel, rfl⟩
theorem e_L_law_377 : z_D 3 M_L_law 377 380 (.invokevirtual 56) := ⟨by decide +kernel, rfl⟩
theorem e_L_law_380 : z_D 1 M_L_law 380 381 (.aload_n 2) := ⟨by decide +kernel, rfl⟩
theorem e_L_law_381 : z_D 3 M_L_law 381 384 (.invokevirtual 59) := ⟨by decide +kernel, rfl⟩
theorem e_L_law_384 : z_J M_L_law 384 387 683 (299) (.if_icmp .eq 299) := ⟨by decide +kernel, rfl, rfl⟩
theorem e_L_law_387 : z_D 1 M_L_law 387 388 (.iconst 0) := ⟨by decide +kernel, rfl⟩
theorem e_L_law_388 : z_D 1 M_L_law 388 389 (.ireturn) := ⟨by decide +kernel, rfl⟩
theorem e_L_law_389 : z_D 1 M_L_law 389 390 (.aload_n 1) := ⟨by decide +kernel, rfl⟩
theorem e_L_law_390 : z_D 1 M_L_law 390 391 (.aload_n 0) := ⟨by decide +kernel, rfl⟩
theorem e_L_law_391 : z_D 1 M_L_law 391 392 (.iload_n 3) := ⟨by decide +kernel, rfl⟩
theorem e_L_law_392 : z_D 1 M_L_law 392 393 (.iconst 1) := ⟨by decide +kernel, rfl⟩
theorem e_L_law_393 : z_D 1 M_L_law 393 394 (.iadd) := ⟨by decide +kernel, rfl⟩
theorem e_L_law_394 : z_D 1 M_L_law 394 395 (.iaload) := ⟨by decide +kernel, rfl⟩
theorem e_L_law_395 : z_D 1 M_L_law 395 396 (.aload_n 0) := ⟨by decide +kernel, rfl⟩
theorem e_L_law_396 : z_D 1 M_L_law 396 397 (.iload_n 3) := ⟨by decide +kernel, rfl⟩
theorem e_L_law_397 : z_D 1 M_L_law 397 398 (.iconst 2) := ⟨by decide +kernel, rfl⟩
theorem e_L_law_398 : z_D 1 M_L_law 398 399 (.iadd) := ⟨by decide +kernel, rfl⟩
theorem e_L_law_399 : z_D 1 M_L_law 399 400 (.iaload) := ⟨by decide +kernel, rfl⟩
theorem e_L_law_400 : z_D 3 M_L_law 400 403 (.invokevirtual 60) := ⟨by decide +kernel, rfl⟩
theorem e_L_law_403 : z_D 1 M_L_law 403 404 (.aload_n 2) := ⟨by decide +kernel, rfl⟩
theorem e_L_law_404 : z_D 1 M_L_law 404 405 (.aload_n 0) := ⟨by decide +kernel, rfl⟩
theorem e_L_law_405 : z_D 1 M_L_law 405 406 (.iload_n 3) := ⟨by decide +kernel, rfl⟩
theorem e_L_law_406 : z_D 1 M_L_law 406 407 (.iconst 1) := ⟨by decide +kernel, rfl⟩
theorem e_L_law_407 : z_D 1 M_L_law 407 408 (.iadd) := ⟨by decide +kernel, rfl⟩
theorem e_L_law_408 : z_D 1 M_L_law 408 409 (.iaload) := ⟨by decide +kernel, rfl⟩
theorem e_L_law_409 : z_D 1 M_L_law 409 410 (.aload_n 0) := ⟨by decide +kernel, rfl⟩
theorem e_L_law_410 : z_D 1 M_L_law 410 411 (.iload_n 3) := ⟨by decide +kernel, rfl⟩
theorem e_L_law_411 : z_D 1 M_L_law 411 412 (.iconst 2) := ⟨by decide +kernel, rfl⟩
theorem e_L_law_412 : z_D 1 M_L_law 412 413 (.iadd) := ⟨by decide +kernel, rfl⟩
theorem e_L_law_413 : z_D 1 M_L_law 413 414 (.iaload) := ⟨by decide +kernel, rfl⟩
theorem e_L_law_414 : z_D 3 M_L_law 414 417 (.invokevirtual 63) := ⟨by decide +kernel, rfl⟩
theorem e_L_law_417 : z_J M_L_law 417 420 683 (266) (.if_icmp .eq 266) := ⟨by decide +kernel, rfl, rfl⟩
theorem e_L_law_420 : z_D 1 M_L_law 420 421 (.iconst 0) := ⟨by decide +kernel, rfl⟩
theorem e_L_law_421 : z_D 1 M_L_law 421 422 (.ireturn) := ⟨by decide +kernel, rfl⟩
theorem e_L_law_422 : z_D 1 M_L_law 422 423 (.aload_n 1) := ⟨by decide +kernel, rfl⟩
theorem e_L_law_423 : z_D 1 M_L_law 423 424 (.aload_n 0) := ⟨by decide +kernel, rfl⟩
theorem e_L_law_424 : z_D 1 M_L_law 424 425 (.iload_n 3) := ⟨by decide +kernel, rfl⟩
theorem e_L_law_425 : z_D 1 M_L_law 425 426 (.iconst 1) := ⟨by decide +kernel, rfl⟩
theorem e_L_law_426 : z_D 1 M_L_law 426 427 (.iadd) := ⟨by decide +kernel, rfl⟩
theorem e_L_law_427 : z_D 1 M_L_law 427 428 (.iaload) := ⟨by decide +kernel, rfl⟩
theorem e_L_law_428 : z_D 1 M_L_law 428 429 (.aload_n 0) := ⟨by decide +kernel, rfl⟩
theorem e_L_law_429 : z_D 1 M_L_law 429 430 (.iload_n 3) := ⟨by decide +kernel, rfl⟩
theorem e_L_law_430 : z_D 1 M_L_law 430 431 (.iconst 2) := ⟨by decide +kernel, rfl⟩
theorem e_L_law_431 : z_D 1 M_L_law 431 432 (.iadd) := ⟨by decide +kernel, rfl⟩
theorem e_L_law_432 : z_D 1 M_L_law 432 433 (.iaload) := ⟨by decide +kernel, rfl⟩
theorem e_L_law_433 : z_D 3 M_L_law 433 436 (.invokevirtual 64) := ⟨by decide +kernel, rfl⟩
theorem e_L_law_436 : z_D 1 M_L_law 436 437 (.aload_n 2) := ⟨by decide +kernel, rfl⟩
theorem e_L_law_437 : z_D 1 M_L_law 437 438 (.aload_n 0) := ⟨by decide +kernel, rfl⟩
theorem e_L_law_438 : z_D 1 M_L_law 438 439 (.iload_n 3) := ⟨by decide +kernel, rfl⟩
theorem e_L_law_439 : z_D 1 M_L_law 439 440 (.iconst 1) := ⟨by decide +kernel, rfl⟩
theorem e_L_law_440 : z_D 1 M_L_law 440 441 (.iadd) := ⟨by decide +kernel, rfl⟩
theorem e_L_law_441 : z_D 1 M_L_law 441 442 (.iaload) := ⟨by decide +kernel, rfl⟩
theorem e_L_law_442 : z_D 1 M_L_law 442 443 (.aload_n 0) := ⟨by decide +kernel, rfl⟩
theorem e_L_law_443 : z_D 1 M_L_law 443 444 (.iload_n 3) := ⟨by decide +kernel, rfl⟩
theorem e_L_law_444 : z_D 1 M_L_law 444 445 (.iconst 2) := ⟨by decide +kernel, rfl⟩
theorem e_L_law_445 : z_D 1 M_L_law 445 446 (.iadd) := ⟨by decide +kernel, rfl⟩
theorem e_L_law_446 : z_D 1 M_L_law 446 447 (.iaload) := ⟨by decide +kernel, rfl⟩
theorem e_L_law_447 : z_D 3 M_L_law 447 450 (.invokevirtual 67) := ⟨by decide +kernel, rfl⟩
theorem e_L_law_450 : z_J M_L_law 450 453 683 (233) (.if_icmp .eq 233) := ⟨by decide +kernel, rfl, rfl⟩
theorem e_L_law_453 : z_D 1 M_L_law 453 454 (.iconst 0) := ⟨by decide +kernel, rfl⟩
theorem e_L_law_454 : z_D 1 M_L_law 454 455 (.ireturn) := ⟨by decide +kernel, rfl⟩
theorem e_L_law_455 : z_D 1 M_L_law 455 456 (.aload_n 1) := ⟨by decide +kernel, rfl⟩
theorem e_L_law_456 : z_D 1 M_L_law 456 457 (.aload_n 0) := ⟨by decide +kernel, rfl⟩
theorem e_L_law_457 : z_D 1 M_L_law 457 458 (.iload_n 3) := ⟨by decide +kernel, rfl⟩
theorem e_L_law_458 : z_D 1 M_L_law 458 459 (.iconst 1) := ⟨by decide +kernel, rfl⟩
theorem e_L_law_459 : z_D 1 M_L_law 459 460 (.iadd) := ⟨by decide +kernel, rfl⟩
theorem e_L_law_460 : z_D 1 M_L_law 460 461 (.iaload) := ⟨by decide +kernel, rfl⟩
theorem e_L_law_461 : z_D 1 M_L_law 461 462 (.aload_n 0) := ⟨by decide +kernel, rfl⟩
theorem e_L_law_462 : z_D 1 M_L_law 462 463 (.iload_n 3) := ⟨by decide +kernel, rfl⟩
theorem e_L_law_463 : z_D 1 M_L_law 463 464 (.iconst 2) := ⟨by decide +kernel, rfl⟩
theorem e_L_law_464 : z_D 1 M_L_law 464 465 (.iadd) := ⟨by decide +kernel, rfl⟩
theorem e_L_law_465 : z_D 1 M_L_law 465 466 (.iaload) := ⟨by decide +kernel, rfl⟩
theorem e_L_law_466 : z_D 3 M_L_law 466 469 (.invokevirtual 68) := ⟨by decide +kernel, rfl⟩
theorem e_L_law_469 : z_D 1 M_L_law 469 470 (.aload_n 2) := ⟨by decide +kernel, rfl⟩
theorem e_L_law_470 : z_D 1 M_L_law 470 471 (.aload_n 0) := ⟨by decide +kernel, rfl⟩
theorem e_L_law_471 : z_D 1 M_L_law 471 472 (.iload_n 3) := ⟨by decide +kernel, rfl⟩
theorem e_L_law_472 : z_D 1 M_L_law 472 473 (.iconst 1) := ⟨by decide +kernel, rfl⟩
theorem e_L_law_473 : z_D 1 M_L_law 473 474 (.iadd) := ⟨by decide +kernel, rfl⟩
theorem e_L_law_474 : z_D 1 M_L_law 474 475 (.iaload) := ⟨by decide +kernel, rfl⟩
theorem e_L_law_475 : z_D 1 M_L_law 475 476 (.aload_n 0) := ⟨by decide +kernel, rfl⟩
theorem e_L_law_476 : z_D 1 M_L_law 476 477 (.iload_n 3) := ⟨by decide +kernel, rfl⟩
theorem e_L_law_477 : z_D 1 M_L_law 477 478 (.iconst 2) := ⟨by decide +kernel, rfl⟩
theorem e_L_law_478 : z_D 1 M_L_law 478 479 (.iadd) := ⟨by decide +kernel, rfl⟩
theorem e_L_law_479 : z_D 1 M_L_law 479 480 (.iaload) := ⟨by decide +kernel, rfl⟩
theorem e_L_law_480 : z_D 3 M_L_law 480 483 (.invokevirtual 71) := ⟨by decide +kernel, rfl⟩
theorem e_L_law_483 : z_J M_L_law 483 486 683 (200) (.if_icmp .eq 200) := ⟨by decide +kernel, rfl, rfl⟩
theorem e_L_law_486 : z_D 1 M_L_law 486 487 (.iconst 0) := ⟨by decide +kernel, rfl⟩
theorem e_L_law_487 : z_D 1 M_L_law 487 488 (.ireturn) := ⟨by decide +kernel, rfl⟩
theorem e_L_law_488 : z_D 1 M_L_law 488 489 (.aload_n 1) := ⟨by decide +kernel, rfl⟩
theorem e_L_law_489 : z_D 1 M_L_law 489 490 (.aload_n 0) := ⟨by decide +kernel, rfl⟩
theorem e_L_law_490 : z_D 1 M_L_law 490 491 (.iload_n 3) := ⟨by decide +kernel, rfl⟩
theorem e_L_law_491 : z_D 1 M_L_law 491 492 (.iconst 1) := ⟨by decide +kernel, rfl⟩
theorem e_L_law_492 : z_D 1 M_L_law 492 493 (.iadd) := ⟨by decide +kernel, rfl⟩
theorem e_L_law_493 : z_D 1 M_L_law 493 494 (.iaload) := ⟨by decide +kernel, rfl⟩
theorem e_L_law_494 : z_D 1 M_L_law 494 495 (.aload_n 0) := ⟨by decide +kernel, rfl⟩
theorem e_L_law_495 : z_D 1 M_L_law 495 496 (.iload_n 3) := ⟨by decide +kernel, rfl⟩
theorem e_L_law_496 : z_D 1 M_L_law 496 497 (.iconst 2) := ⟨by decide +kernel, rfl⟩
theorem e_L_law_497 : z_D 1 M_L_law 497 498 (.iadd) := ⟨by decide +kernel, rfl⟩
theorem e_L_law_498 : z_D 1 M_L_law 498 499 (.iaload) := ⟨by decide +kernel, rfl⟩
theorem e_L_law_499 : z_D 3 M_L_law 499 502 (.invokevirtual 72) := ⟨by decide +kernel, rfl⟩
theorem e_L_law_502 : z_D 1 M_L_law 502 503 (.aload_n 2) := ⟨by decide +kernel, rfl⟩
theorem e_L_law_503 : z_D 1 M_L_law 503 504 (.aload_n 0) := ⟨by decide +kernel, rfl⟩
theorem e_L_law_504 : z_D 1 M_L_law 504 505 (.iload_n 3) := ⟨by decide +kernel, rfl⟩
theorem e_L_law_505 : z_D 1 M_L_law 505 506 (.iconst 1) := ⟨by decide +kernel, rfl⟩
theorem e_L_law_506 : z_D 1 M_L_law 506 507 (.iadd) := ⟨by decide +kernel, rfl⟩
theorem e_L_law_507 : z_D 1 M_L_law 507 508 (.iaload) := ⟨by decide +kernel, rfl⟩
theorem e_L_law_508 : z_D 1 M_L_law 508 509 (.aload_n 0) := ⟨by decide +kernel, rfl⟩
theorem e_L_law_509 : z_D 1 M_L_law 509 510 (.iload_n 3) := ⟨by decide +kernel, rfl⟩
theorem e_L_law_510 : z_D 1 M_L_law 510 511 (.iconst 2) := ⟨by decide +kernel, rfl⟩
theorem e_L_law_511 : z_D 1 M_L_law 511 512 (.iadd) := ⟨by decide +kernel, rfl⟩
theorem e_L_law_512 : z_D 1 M_L_law 512 513 (.iaload) := ⟨by decide +kernel, rfl⟩
theorem e_L_law_513 : z_D 3 M_L_law 513 516 (.invokevirtual 75) := ⟨by decide +kernel, rfl⟩
theorem e_L_law_516 : z_J M_L_law 516 519 683 (167) (.if_icmp .eq 167) := ⟨by decide +kernel, rfl, rfl⟩
theorem e_L_law_519 : z_D 1 M_L_law 519 520 (.iconst 0) := ⟨by decide +kernel, rfl⟩
theorem e_L_law_520 : z_D 1 M_L_law 520 521 (.ireturn) := ⟨by decide +kernel, rfl⟩
theorem e_L_law_521 : z_D 1 M_L_law 521 522 (.aload_n 1) := ⟨by decide +kernel, rfl⟩
theorem e_L_law_522 : z_D 1 M_L_law 522 523 (.aload_n 0) := ⟨by decide +kernel, rfl⟩
theorem e_L_law_523 : z_D 1 M_L_law 523 524 (.iload_n 3) := ⟨by decide +kernel, rfl⟩
theorem e_L_law_524 : z_D 1 M_L_law 524 525 (.iconst 1) := ⟨by decide +kernel, rfl⟩
theorem e_L_law_525 : z_D 1 M_L_law 525 526 (.iadd) := ⟨by decide +kernel, rfl⟩
theorem e_L_law_526 : z_D 1 M_L_law 526 527 (.iaload) := ⟨by decide +kernel, rfl⟩
theorem e_L_law_527 : z_D 1 M_L_law 527 528 (.aload_n 0) := ⟨by decide +kernel, rfl⟩
theorem e_L_law_528 : z_D 1 M_L_law 528 529 (.iload_n 3) := ⟨by decide +kernel, rfl⟩
theorem e_L_law_529 : z_D 1 M_L_law 529 530 (.iconst 2) := ⟨by decide +kernel, rfl⟩
theorem e_L_law_530 : z_D 1 M_L_law 530 531 (.iadd) := ⟨by decide +kernel, rfl⟩
theorem e_L_law_531 : z_D 1 M_L_law 531 532 (.iaload) := ⟨by decide +kernel, rfl⟩
theorem e_L_law_532 : z_D 3 M_L_law 532 535 (.invokevirtual 76) := ⟨by decide +kernel, rfl⟩
theorem e_L_law_535 : z_D 1 M_L_law 535 536 (.aload_n 2) := ⟨by decide +kernel, rfl⟩
theorem e_L_law_536 : z_D 1 M_L_law 536 537 (.aload_n 0) := ⟨by decide +kernel, rfl⟩
theorem e_L_law_537 : z_D 1 M_L_law 537 538 (.iload_n 3) := ⟨by decide +kernel, rfl⟩
theorem e_L_law_538 : z_D 1 M_L_law 538 539 (.iconst 1) := ⟨by decide +kernel, rfl⟩
theorem e_L_law_539 : z_D 1 M_L_law 539 540 (.iadd) := ⟨by decide +kernel, rfl⟩
theorem e_L_law_540 : z_D 1 M_L_law 540 541 (.iaload) := ⟨by decide +kernel, rfl⟩
theorem e_L_law_541 : z_D 1 M_L_law 541 542 (.aload_n 0) := ⟨by decide +kernel, rfl⟩
theorem e_L_law_542 : z_D 1 M_L_law 542 543 (.iload_n 3) := ⟨by decide +kernel, rfl⟩
theorem e_L_law_543 : z_D 1 M_L_law 543 544 (.iconst 2) := ⟨by decide +kernel, rfl⟩
theorem e_L_law_544 : z_D 1 M_L_law 544 545 (.iadd) := ⟨by decide +kernel, rfl⟩
theorem e_L_law_545 : z_D 1 M_L_law 545 546 (.iaload) := ⟨by decide +kernel, rfl⟩
theorem e_L_law_546 : z_D 3 M_L_law 546 549 (.invokevirtual 79) := ⟨by decide +kernel, rfl⟩
theorem e_L_law_549 : z_J M_L_law 549 552 683 (134) (.if_icmp .eq 134) := ⟨by decide +kernel, rfl, rfl⟩
theorem e_L_law_552 : z_D 1 M_L_law 552 553 (.iconst 0) := ⟨by decide +kernel, rfl⟩
theorem e_L_law_553 : z_D 1 M_L_law 553 554 (.ireturn) := ⟨by decide +kernel, rfl⟩
theorem e_L_law_554 : z_D 1 M_L_law 554 555 (.aload_n 1) := ⟨by decide +kernel, rfl⟩
theorem e_L_law_555 : z_D 1 M_L_law 555 556 (.aload_n 0) := ⟨by decide +kernel, rfl⟩
theorem e_L_law_556 : z_D 1 M_L_law 556 557 (.iload_n 3) := ⟨by decide +kernel, rfl⟩
theorem e_L_law_557 : z_D 1 M_L_law 557 558 (.iconst 1) := ⟨by decide +kernel, rfl⟩
theorem e_L_law_558 : z_D 1 M_L_law 558 559 (.iadd) := ⟨by decide +kernel, rfl⟩
theorem e_L_law_559 : z_D 1 M_L_law 559 560 (.iaload) := ⟨by decide +kernel, rfl⟩
theorem e_L_law_560 : z_D 1 M_L_law 560 561 (.aload_n 0) := ⟨by decide +kernel, rfl⟩
theorem e_L_law_561 : z_D 1 M_L_law 561 562 (.iload_n 3) := ⟨by decide +kernel, rfl⟩
theorem e_L_law_562 : z_D 1 M_L_law 562 563 (.iconst 2) := ⟨by decide +kernel, rfl⟩
theorem e_L_law_563 : z_D 1 M_L_law 563 564 (.iadd) := ⟨by decide +kernel, rfl⟩
theorem e_L_law_564 : z_D 1 M_L_law 564 565 (.iaload) := ⟨by decide +kernel, rfl⟩
theorem e_L_law_565 : z_D 3 M_L_law 565 568 (.invokevirtual 80) := ⟨by decide +kernel, rfl⟩
theorem e_L_law_568 : z_D 1 M_L_law 568 569 (.aload_n 2) := ⟨by decide +kernel, rfl⟩
theorem e_L_law_569 : z_D 1 M_L_law 569 570 (.aload_n 0) := ⟨by decide +kernel, rfl⟩
theorem e_L_law_570 : z_D 1 M_L_law 570 571 (.iload_n 3) := ⟨by decide +kernel, rfl⟩
theorem e_L_law_571 : z_D 1 M_L_law 571 572 (.iconst 1) := ⟨by decide +kernel, rfl⟩
theorem e_L_law_572 : z_D 1 M_L_law 572 573 (.iadd) := ⟨by decide +kernel, rfl⟩
theorem e_L_law_573 : z_D 1 M_L_law 573 574 (.iaload) := ⟨by decide +kernel, rfl⟩
theorem e_L_law_574 : z_D 1 M_L_law 574 575 (.aload_n 0) := ⟨by decide +kernel, rfl⟩
theorem e_L_law_575 : z_D 1 M_L_law 575 576 (.iload_n 3) := ⟨by decide +kernel, rfl⟩
theorem e_L_law_576 : z_D 1 M_L_law 576 577 (.iconst 2) := ⟨by decide +kernel, rfl⟩
theorem e_L_law_577 : z_D 1 M_L_law 577 578 (.iadd) := ⟨by decide +kernel, rfl⟩
theorem e_L_law_578 : z_D 1 M_L_law 578 579 (.iaload) := ⟨by decide +kernel, rfl⟩
theorem e_L_law_579 : z_D 3 M_L_law 579 582 (.invokevirtual 83) := ⟨by decide +kernel, rfl⟩
theorem e_L_law_582 : z_J M_L_law 582 585 683 (101) (.if_icmp .eq 101) := ⟨by decide +kernel, rfl, rfl⟩
theorem e_L_law_585 : z_D 1 M_L_law 585 586 (.iconst 0) := ⟨by decide +kernel, rfl⟩
theorem e_L_law_586 : z_D 1 M_L_law 586 587 (.ireturn) := ⟨by decide +kernel, rfl⟩
theorem e_L_law_587 : z_D 1 M_L_law 587 588 (.aload_n 1) := ⟨by decide +kernel, rfl⟩
theorem e_L_law_588 : z_D 1 M_L_law 588 589 (.aload_n 0) := ⟨by decide +kernel, rfl⟩
theorem e_L_law_589 : z_D 1 M_L_law 589 590 (.iload_n 3) := ⟨by decide +kernel, rfl⟩
theorem e_L_law_590 : z_D 1 M_L_law 590 591 (.iconst 1) := ⟨by decide +kernel, rfl⟩
theorem e_L_law_591 : z_D 1 M_L_law 591 592 (.iadd) := ⟨by decide +kernel, rfl⟩
theorem e_L_law_592 : z_D 1 M_L_law 592 593 (.iaload) := ⟨by decide +kernel, rfl⟩
theorem e_L_law_593 : z_D 3 M_L_law 593 596 (.invokevirtual 84) := ⟨by decide +kernel, rfl⟩
theorem e_L_law_596 : z_D 1 M_L_law 596 597 (.aload_n 2) := ⟨by decide +kernel, rfl⟩
theorem e_L_law_597 : z_D 1 M_L_law 597 598 (.aload_n 0) := ⟨by decide +kernel, rfl⟩
theorem e_L_law_598 : z_D 1 M_L_law 598 599 (.iload_n 3) := ⟨by decide +kernel, rfl⟩
theorem e_L_law_599 : z_D 1 M_L_law 599 600 (.iconst 1) := ⟨by decide +kernel, rfl⟩
theorem e_L_law_600 : z_D 1 M_L_law 600 601 (.iadd) := ⟨by decide +kernel, rfl⟩
theorem e_L_law_601 : z_D 1 M_L_law 601 602 (.iaload) := ⟨by decide +kernel, rfl⟩
theorem e_L_law_602 : z_D 3 M_L_law 602 605 (.invokevirtual 87) := ⟨by decide +kernel, rfl⟩
theorem e_L_law_605 : z_J M_L_law 605 608 683 (78) (.if_icmp .eq 78) := ⟨by decide +kernel, rfl, rfl⟩
theorem e_L_law_608 : z_D 1 M_L_law 608 609 (.iconst 0) := ⟨by decide +kernel, rfl⟩
theorem e_L_law_609 : z_D 1 M_L_law 609 610 (.ireturn) := ⟨by decide +kernel, rfl⟩
theorem e_L_law_610 : z_D 1 M_L_law 610 611 (.aload_n 1) := ⟨by decide +kernel, rfl⟩
theorem e_L_law_611 : z_D 1 M_L_law 611 612 (.aload_n 0) := ⟨by decide +kernel, rfl⟩
theorem e_L_law_612 : z_D 1 M_L_law 612 613 (.iload_n 3) := ⟨by decide +kernel, rfl⟩
theorem e_L_law_613 : z_D 1 M_L_law 613 614 (.iconst 1) := ⟨by decide +kernel, rfl⟩
theorem e_L_law_614 : z_D 1 M_L_law 614 615 (.iadd) := ⟨by decide +kernel, rfl⟩
theorem e_L_law_615 : z_D 1 M_L_law 615 616 (.iaload) := ⟨by decide +kernel, rfl⟩
theorem e_L_law_616 : z_D 3 M_L_law 616 619 (.invokevirtual 88) := ⟨by decide +kernel, rfl⟩
theorem e_L_law_619 : z_D 1 M_L_law 619 620 (.aload_n 2) := ⟨by decide +kernel, rfl⟩
theorem e_L_law_620 : z_D 1 M_L_law 620 621 (.aload_n 0) := ⟨by decide +kernel, rfl⟩
theorem e_L_law_621 : z_D 1 M_L_law 621 622 (.iload_n 3) := ⟨by decide +kernel, rfl⟩
theorem e_L_law_622 : z_D 1 M_L_law 622 623 (.iconst 1) := ⟨by decide +kernel, rfl⟩
theorem e_L_law_623 : z_D 1 M_L_law 623 624 (.iadd) := ⟨by decide +kernel, rfl⟩
theorem e_L_law_624 : z_D 1 M_L_law 624 625 (.iaload) := ⟨by decide +kernel, rfl⟩
theorem e_L_law_625 : z_D 3 M_L_law 625 628 (.invokevirtual 91) := ⟨by decide +kernel, rfl⟩
theorem e_L_law_628 : z_J M_L_law 628 631 683 (55) (.if_icmp .eq 55) := ⟨by decide +kernel, rfl, rfl⟩
theorem e_L_law_631 : z_D 1 M_L_law 631 632 (.iconst 0) := ⟨by decide +kernel, rfl⟩
theorem e_L_law_632 : z_D 1 M_L_law 632 633 (.ireturn) := ⟨by decide +kernel, rfl⟩
theorem e_L_law_633 : z_D 1 M_L_law 633 634 (.aload_n 1) := ⟨by decide +kernel, rfl⟩
theorem e_L_law_634 : z_D 1 M_L_law 634 635 (.aload_n 0) := ⟨by decide +kernel, rfl⟩
theorem e_L_law_635 : z_D 1 M_L_law 635 636 (.iload_n 3) := ⟨by decide +kernel, rfl⟩
theorem e_L_law_636 : z_D 1 M_L_law 636 637 (.iconst 1) := ⟨by decide +kernel, rfl⟩
theorem e_L_law_637 : z_D 1 M_L_law 637 638 (.iadd) := ⟨by decide +kernel, rfl⟩
theorem e_L_law_638 : z_D 1 M_L_law 638 639 (.iaload) := ⟨by decide +kernel, rfl⟩
theorem e_L_law_639 : z_D 3 M_L_law 639 642 (.invokevirtual 92) := ⟨by decide +kernel, rfl⟩
theorem e_L_law_642 : z_D 1 M_L_law 642 643 (.aload_n 2) := ⟨by decide +kernel, rfl⟩
theorem e_L_law_643 : z_D 1 M_L_law 643 644 (.aload_n 0) := ⟨by decide +kernel, rfl⟩
theorem e_L_law_644 : z_D 1 M_L_law 644 645 (.iload_n 3) := ⟨by decide +kernel, rfl⟩
theorem e_L_law_645 : z_D 1 M_L_law 645 646 (.iconst 1) := ⟨by decide +kernel, rfl⟩
theorem e_L_law_646 : z_D 1 M_L_law 646 647 (.iadd) := ⟨by decide +kernel, rfl⟩
theorem e_L_law_647 : z_D 1 M_L_law 647 648 (.iaload) := ⟨by decide +kernel, rfl⟩
theorem e_L_law_648 : z_D 3 M_L_law 648 651 (.invokevirtual 95) := ⟨by decide +kernel, rfl⟩
theorem e_L_law_651 : z_J M_L_law 651 654 683 (32) (.if_icmp .eq 32) := ⟨by decide +kernel, rfl, rfl⟩
theorem e_L_law_654 : z_D 1 M_L_law 654 655 (.iconst 0) := ⟨by decide +kernel, rfl⟩
theorem e_L_law_655 : z_D 1 M_L_law 655 656 (.ireturn) := ⟨by decide +kernel, rfl⟩
theorem e_L_law_656 : z_D 1 M_L_law 656 657 (.aload_n 1) := ⟨by decide +kernel, rfl⟩
theorem e_L_law_657 : z_D 3 M_L_law 657 660 (.invokevirtual 96) := ⟨by decide +kernel, rfl⟩
theorem e_L_law_660 : z_D 1 M_L_law 660 661 (.aload_n 2) := ⟨by decide +kernel, rfl⟩
theorem e_L_law_661 : z_D 3 M_L_law 661 664 (.invokevirtual 99) := ⟨by decide +kernel, rfl⟩
theorem e_L_law_664 : z_J M_L_law 664 667 683 (19) (.if_icmp .eq 19) := ⟨by decide +kernel, rfl, rfl⟩
theorem e_L_law_667 : z_D 1 M_L_law 667 668 (.iconst 0) := ⟨by decide +kernel, rfl⟩
theorem e_L_law_668 : z_D 1 M_L_law 668 669 (.ireturn) := ⟨by decide +kernel, rfl⟩
theorem e_L_law_669 : z_D 1 M_L_law 669 670 (.aload_n 1) := ⟨by decide +kernel, rfl⟩
theorem e_L_law_670 : z_D 3 M_L_law 670 673 (.invokevirtual 100) := ⟨by decide +kernel, rfl⟩
theorem e_L_law_673 : z_D 1 M_L_law 673 674 (.aload_n 2) := ⟨by decide +kernel, rfl⟩
theorem e_L_law_674 : z_D 3 M_L_law 674 677 (.invokevirtual 104) := ⟨by decide +kernel, rfl⟩
theorem e_L_law_677 : z_D 1 M_L_law 677 678 (.lcmp) := ⟨by decide +kernel, rfl⟩
theorem e_L_law_678 : z_J M_L_law 678 681 683 (5) (.ifCond .eq 5) := ⟨by decide +kernel, rfl, rfl⟩
theorem e_L_law_681 : z_D 1 M_L_law 681 682 (.iconst 0) := ⟨by decide +kernel, rfl⟩
theorem e_L_law_682 : z_D 1 M_L_law 682 683 (.ireturn) := ⟨by decide +kernel, rfl⟩
theorem e_L_law_683 : z_D 3 M_L_law 683 686 (.iinc 3 3) := ⟨by decide +kernel, rfl⟩
theorem e_L_law_686 : z_J M_L_law 686 689 18 (-668) (.goto (-668)) := ⟨by decide +kernel, rfl, rfl⟩
theorem e_L_law_689 : z_D 1 M_L_law 689 690 (.iconst 1) := ⟨by decide +kernel, rfl⟩
theorem e_L_law_690 : z_D 1 M_L_law 690 691 (.ireturn) := ⟨by decide +kernel, rfl⟩
theorem e_X0_init_0 : z_D 1 M_X0_init 0 1 (.aload_n 0) := ⟨by decide +kernel, rfl⟩
theorem e_X0_init_1 : z_D 3 M_X0_init 1 4 (.invokespecial 1) := ⟨by decide +kernel, rfl⟩
theorem e_X0_init_4 : z_D 1 M_X0_init 4 5 (.aload_n 0) := ⟨by decide +kernel, rfl⟩
theorem e_X0_init_5 : z_D 1 M_X0_init 5 6 (.iconst 0) := ⟨by decide +kernel, rfl⟩
theorem e_X0_init_6 : z_D 3 M_X0_init 6 9 (.putfield 7) := ⟨by decide +kernel, rfl⟩
theorem e_X0_init_9 : z_D 1 M_X0_init 9 10 (.aload_n 0) := ⟨by decide +kernel, rfl⟩
theorem e_X0_init_10 : z_D 1 M_X0_init 10 11 (.iconst 0) := ⟨by decide +kernel, rfl⟩
theorem e_X0_init_11 : z_D 3 M_X0_init 11 14 (.putfield 13) := ⟨by decide +kernel, rfl⟩
theorem e_X0_init_14 : z_D 1 M_X0_init 14 15 (.aload_n 0) := ⟨by decide +kernel, rfl⟩
theorem e_X0_init_15 : z_D 1 M_X0_init 15 16 (.iconst 0) := ⟨by decide +kernel, rfl⟩
theorem e_X0_init_16 : z_D 3 M_X0_init 16 19 (.putfield 16) := ⟨by decide +kernel, rfl⟩
theorem e_X0_init_19 : z_D 1 M_X0_init 19 20 (.return_) := ⟨by decide +kernel, rfl⟩
theorem e_X0_set_0 : z_D 1 M_X0_set 0 1 (.aload_n 0) := ⟨by decide +kernel, rfl⟩
theorem e_X0_set_1 : z_D 1 M_X0_set 1 2 (.iload_n 1) := ⟨by decide +kernel, rfl⟩
theorem e_X0_set_2 : z_D 3 M_X0_set 2 5 (.putfield 7) := ⟨by decide +kernel, rfl⟩
theorem e_X0_set_5 : z_D 1 M_X0_set 5 6 (.aload_n 0) := ⟨by decide +kernel, rfl⟩
theorem e_X0_set_6 : z_D 1 M_X0_set 6 7 (.iload_n 2) := ⟨by decide +kernel, rfl⟩
theorem e_X0_set_7 : z_D 3 M_X0_set 7 10 (.putfield 13) := ⟨by decide +kernel, rfl⟩
theorem e_X0_set_10 : z_D 1 M_X0_set 10 11 (.aload_n 0) := ⟨by decide +kernel, rfl⟩
theorem e_X0_set_11 : z_D 1 M_X0_set 11 12 (.iconst 0) := ⟨by decide +kernel, rfl⟩
theorem e_X0_set_12 : z_D 3 M_X0_set 12 15 (.putfield 16) := ⟨by decide +kernel, rfl⟩
theorem e_X0_set_15 : z_D 1 M_X0_set 15 16 (.return_) := ⟨by decide +kernel, rfl⟩
theorem e_X0_copyFrom_0 : z_D 1 M_X0_copyFrom 0 1 (.aload_n 0) := ⟨by decide +kernel, rfl⟩
theorem e_X0_copyFrom_1 : z_D 1 M_X0_copyFrom 1 2 (.aload_n 1) := ⟨by decide +kernel, rfl⟩
theorem e_X0_copyFrom_2 : z_D 3 M_X0_copyFrom 2 5 (.getfield 7) := ⟨by decide +kernel, rfl⟩
theorem e_X0_copyFrom_5 : z_D 3 M_X0_copyFrom 5 8 (.putfield 7) := ⟨by decide +kernel, rfl⟩
theorem e_X0_copyFrom_8 : z_D 1 M_X0_copyFrom 8 9 (.aload_n 0) := ⟨by decide +kernel, rfl⟩
theorem e_X0_copyFrom_9 : z_D 1 M_X0_copyFrom 9 10 (.aload_n 1) := ⟨by decide +kernel, rfl⟩
theorem e_X0_copyFrom_10 : z_D 3 M_X0_copyFrom 10 13 (.getfield 13) := ⟨by decide +kernel, rfl⟩
theorem e_X0_copyFrom_13 : z_D 3 M_X0_copyFrom 13 16 (.putfield 13) := ⟨by decide +kernel, rfl⟩
theorem e_X0_copyFrom_16 : z_D 1 M_X0_copyFrom 16 17 (.aload_n 0) := ⟨by decide +kernel, rfl⟩
theorem e_X0_copyFrom_17 : z_D 1 M_X0_copyFrom 17 18 (.aload_n 1) := ⟨by decide +kernel, rfl⟩
theorem e_X0_copyFrom_18 : z_D 3 M_X0_copyFrom 18 21 (.getfield 16) := ⟨by decide +kernel, rfl⟩
theorem e_X0_copyFrom_21 : z_D 3 M_X0_copyFrom 21 24 (.putfield 16) := ⟨by decide +kernel, rfl⟩
theorem e_X0_copyFrom_24 : z_D 1 M_X0_copyFrom 24 25 (.return_) := ⟨by decide +kernel, rfl⟩
theorem e_X1_init_0 : z_D 1 M_X1_init 0 1 (.aload_n 0) := ⟨by decide +kernel, rfl⟩
theorem e_X1_init_1 : z_D 3 M_X1_init 1 4 (.invokespecial 3) := ⟨by decide +kernel, rfl⟩
theorem e_X1_init_4 : z_D 1 M_X1_init 4 5 (.aload_n 0) := ⟨by decide +kernel, rfl⟩
theorem e_X1_init_5 : z_D 1 M_X1_init 5 6 (.aconst_null) := ⟨by decide +kernel, rfl⟩
theorem e_X1_init_6 : z_D 3 M_X1_init 6 9 (.putfield 9) := ⟨by decide +kernel, rfl⟩
theorem e_X1_init_9 : z_D 1 M_X1_init 9 10 (.aload_n 0) := ⟨by decide +kernel, rfl⟩
theorem e_X1_init_10 : z_D 1 M_X1_init 10 11 (.iconst 0) := ⟨by decide +kernel, rfl⟩
theorem e_X1_init_11 : z_D 3 M_X1_init 11 14 (.putfield 15) := ⟨by decide +kernel, rfl⟩
theorem e_X1_init_14 : z_D 1 M_X1_init 14 15 (.aload_n 0) := ⟨by decide +kernel, rfl⟩
theorem e_X1_init_15 : z_D 1 M_X1_init 15 16 (.iconst 0) := ⟨by decide +kernel, rfl⟩
theorem e_X1_init_16 : z_D 3 M_X1_init 16 19 (.putfield 19) := ⟨by decide +kernel, rfl⟩
theorem e_X1_init_19 : z_D 1 M_X1_init 19 20 (.aload_n 0) := ⟨by decide +kernel, rfl⟩
theorem e_X1_init_20 : z_D 1 M_X1_init 20 21 (.iconst (-1)) := ⟨by decide +kernel, rfl⟩
theorem e_X1_init_21 : z_D 3 M_X1_init 21 24 (.putfield 22) := ⟨by decide +kernel, rfl⟩
theorem e_X1_init_24 : z_D 1 M_X1_init 24 25 (.aload_n 0) := ⟨by decide +kernel, rfl⟩
theorem e_X1_init_25 : z_D 1 M_X1_init 25 26 (.iconst 0) := ⟨by decide +kernel, rfl⟩
theorem e_X1_init_26 : z_D 3 M_X1_init 26 29 (.putfield 25) := ⟨by decide +kernel, rfl⟩
theorem e_X1_init_29 : z_D 1 M_X1_init 29 30 (.aload_n 0) := ⟨by decide +kernel, rfl⟩
theorem e_X1_init_30 : z_D 2 M_X1_init 30 32 (.bipush 10) := ⟨by decide +kernel, rfl⟩
theorem e_X1_init_32 : z_D 3 M_X1_init 32 35 (.putfield 28) := ⟨by decide +kernel, rfl⟩
theorem e_X1_init_35 : z_D 1 M_X1_init 35 36 (.aload_n 0) := ⟨by decide +kernel, rfl⟩
theorem e_X1_init_36 : z_D 2 M_X1_init 36 38 (.bipush 32) := ⟨by decide +kernel, rfl⟩
theorem e_X1_init_38 : z_D 3 M_X1_init 38 41 (.putfield 31) := ⟨by decide +kernel, rfl⟩
theorem e_X1_init_41 : z_D 1 M_X1_init 41 42 (.aload_n 0) := ⟨by decide +kernel, rfl⟩
theorem e_X1_init_42 : z_D 1 M_X1_init 42 43 (.iconst 0) := ⟨by decide +kernel, rfl⟩
theorem e_X1_init_43 : z_D 3 M_X1_init 43 46 (.putfield 34) := ⟨by decide +kernel, rfl⟩
theorem e_X1_init_46 : z_D 1 M_X1_init 46 47 (.aload_n 0) := ⟨by decide +kernel, rfl⟩
theorem e_X1_init_47 : z_D 1 M_X1_init 47 48 (.iconst 0) := ⟨by decide +kernel, rfl⟩
theorem e_X1_init_48 : z_D 3 M_X1_init 48 51 (.putfield 37) := ⟨by decide +kernel, rfl⟩
theorem e_X1_init_51 : z_D 1 M_X1_init 51 52 (.aload_n 0) := ⟨by decide +kernel, rfl⟩
theorem e_X1_init_52 : z_D 1 M_X1_init 52 53 (.iconst 0) := ⟨by decide +kernel, rfl⟩
theorem e_X1_init_53 : z_D 3 M_X1_init 53 56 (.putfield 40) := ⟨by decide +kernel, rfl⟩
theorem e_X1_init_56 : z_D 1 M_X1_init 56 57 (.aload_n 0) := ⟨by decide +kernel, rfl⟩
theorem e_X1_init_57 : z_D 1 M_X1_init 57 58 (.iconst 0) := ⟨by decide +kernel, rfl⟩
theorem e_X1_init_58 : z_D 3 M_X1_init 58 61 (.putfield 43) := ⟨by decide +kernel, rfl⟩
theorem e_X1_init_61 : z_D 1 M_X1_init 61 62 (.aload_n 0) := ⟨by decide +kernel, rfl⟩
theorem e_X1_init_62 : z_D 1 M_X1_init 62 63 (.iconst 0) := ⟨by decide +kernel, rfl⟩
theorem e_X1_init_63 : z_D 3 M_X1_init 63 66 (.putfield 46) := ⟨by decide +kernel, rfl⟩
theorem e_X1_init_66 : z_D 1 M_X1_init 66 67 (.aload_n 0) := ⟨by decide +kernel, rfl⟩
theorem e_X1_init_67 : z_D 1 M_X1_init 67 68 (.iconst 0) := ⟨by decide +kernel, rfl⟩
theorem e_X1_init_68 : z_D 3 M_X1_init 68 71 (.putfield 50) := ⟨by decide +kernel, rfl⟩
theorem e_X1_init_71 : z_D 1 M_X1_init 71 72 (.return_) := ⟨by decide +kernel, rfl⟩
theorem e_X1_begin_0 : z_D 1 M_X1_begin 0 1 (.aload_n 0) := ⟨by decide +kernel, rfl⟩
theorem e_X1_begin_1 : z_D 1 M_X1_begin 1 2 (.aload_n 1) := ⟨by decide +kernel, rfl⟩
theorem e_X1_begin_2 : z_D 3 M_X1_begin 2 5 (.putfield 9) := ⟨by decide +kernel, rfl⟩
theorem e_X1_begin_5 : z_D 1 M_X1_begin 5 6 (.aload_n 0) := ⟨by decide +kernel, rfl⟩
theorem e_X1_begin_6 : z_D 1 M_X1_begin 6 7 (.iload_n 2) := ⟨by decide +kernel, rfl⟩
theorem e_X1_begin_7 : z_D 3 M_X1_begin 7 10 (.putfield 15) := ⟨by decide +kernel, rfl⟩
theorem e_X1_begin_10 : z_D 1 M_X1_begin 10 11 (.aload_n 0) := ⟨by decide +kernel, rfl⟩
theorem e_X1_begin_11 : z_D 1 M_X1_begin 11 12 (.iconst 0) := ⟨by decide +kernel, rfl⟩
theorem e_X1_begin_12 : z_D 3 M_X1_begin 12 15 (.putfield 19) := ⟨by decide +kernel, rfl⟩
theorem e_X1_begin_15 : z_D 1 M_X1_begin 15 16 (.aload_n 0) := ⟨by decide +kernel, rfl⟩
theorem e_X1_begin_16 : z_D 1 M_X1_begin 16 17 (.iload_n 3) := ⟨by decide +kernel, rfl⟩
theorem e_X1_begin_17 : z_D 3 M_X1_begin 17 20 (.putfield 22) := ⟨by decide +kernel, rfl⟩
theorem e_X1_begin_20 : z_D 1 M_X1_begin 20 21 (.aload_n 0) := ⟨by decide +kernel, rfl⟩
theorem e_X1_begin_21 : z_D 1 M_X1_begin 21 22 (.aload_n 1) := ⟨by decide +kernel, rfl⟩
theorem e_X1_begin_22 : z_D 1 M_X1_begin 22 23 (.iload_n 2) := ⟨by decide +kernel, rfl⟩
theorem e_X1_begin_23 : z_D 1 M_X1_begin 23 24 (.iload_n 2) := ⟨by decide +kernel, rfl⟩
theorem e_X1_begin_24 : z_D 1 M_X1_begin 24 25 (.iload_n 3) := ⟨by decide +kernel, rfl⟩
theorem e_X1_begin_25 : z_J M_X1_begin 25 28 32 (7) (.if_icmp .ne 7) := ⟨by decide +kernel, rfl, rfl⟩
theorem e_X1_begin_28 : z_D 1 M_X1_begin 28 29 (.iconst 1) := ⟨by decide +kernel, rfl⟩
theorem e_X1_begin_29 : z_J M_X1_begin 29 32 33 (4) (.goto 4) := ⟨by decide +kernel, rfl, rfl⟩
theorem e_X1_begin_32 : z_D 1 M_X1_begin 32 33 (.iconst 0) := ⟨by decide +kernel, rfl⟩
theorem e_X1_begin_33 : z_D 3 M_X1_begin 33 36 (.invokevirtual 53) := ⟨by decide +kernel, rfl⟩
theorem e_X1_begin_36 : z_D 3 M_X1_begin 36 39 (.putfield 25) := ⟨by decide +kernel, rfl⟩
theorem e_X1_begin_39 : z_D 1 M_X1_begin 39 40 (.aload_n 0) := ⟨by decide +kernel, rfl⟩
theorem e_X1_begin_40 : z_D 2 M_X1_begin 40 42 (.iload 4) := ⟨by decide +kernel, rfl⟩
theorem e_X1_begin_42 : z_D 3 M_X1_begin 42 45 (.putfield 28) := ⟨by decide +kernel, rfl⟩
theorem e_X1_begin_45 : z_D 1 M_X1_begin 45 46 (.aload_n 0) := ⟨by decide +kernel, rfl⟩
theorem e_X1_begin_46 : z_D 1 M_X1_begin 46 47 (.iconst 0) := ⟨by decide +kernel, rfl⟩
theorem e_X1_begin_47 : z_D 3 M_X1_begin 47 50 (.putfield 34) := ⟨by decide +kernel, rfl⟩
theorem e_X1_begin_50 : z_D 1 M_X1_begin 50 51 (.aload_n 0) := ⟨by decide +kernel, rfl⟩
theorem e_X1_begin_51 : z_D 1 M_X1_begin 51 52 (.iconst 0) := ⟨by decide +kernel, rfl⟩
theorem e_X1_begin_52 : z_D 3 M_X1_begin 52 55 (.putfield 37) := ⟨by decide +kernel, rfl⟩
theorem e_X1_begin_55 : z_D 1 M_X1_begin 55 56 (.aload_n 0) := ⟨by decide +kernel, rfl⟩
theorem e_X1_begin_56 : z_D 1 M_X1_begin 56 57 (.iconst 0) := ⟨by decide +kernel, rfl⟩
theorem e_X1_begin_57 : z_D 3 M_X1_begin 57 60 (.putfield 43) := ⟨by decide +kernel, rfl⟩
theorem e_X1_begin_60 : z_D 1 M_X1_begin 60 61 (.return_) := ⟨by decide +kernel, rfl⟩
theorem e_X1_next_0 : z_D 1 M_X1_next 0 1 (.aload_n 0) := ⟨by decide +kernel, rfl⟩
theorem e_X1_next_1 : z_D 3 M_X1_next 1 4 (.getfield 9) := ⟨by decide +kernel, rfl⟩
theorem e_X1_next_4 : z_J M_X1_next 4 7 9 (5) (.ifnonnull 5) := ⟨by decide +kernel, rfl, rfl⟩
theorem e_X1_next_7 : z_D 1 M_X1_next 7 8 (.iconst 0) := ⟨by decide +kernel, rfl⟩
theorem e_X1_next_8 : z_D 1 M_X1_next 8 9 (.ireturn) := ⟨by decide +kernel, rfl⟩
theorem e_X1_next_9 : z_D 1 M_X1_next 9 10 (.aload_n 0) := ⟨by decide +kernel, rfl⟩
theorem e_X1_next_10 : z_D 3 M_X1_next 10 13 (.getfield 19) := ⟨by decide +kernel, rfl⟩
theorem e_X1_next_13 : z_D 1 M_X1_next 13 14 (.aload_n 0) := ⟨by decide +kernel, rfl⟩
theorem e_X1_next_14 : z_D 3 M_X1_next 14 17 (.getfield 25) := ⟨by decide +kernel, rfl⟩
theorem e_X1_next_17 : z_J M_X1_next 17 20 80 (63) (.if_icmp .lt 63) := ⟨by decide +kernel, rfl, rfl⟩
theorem e_X1_next_20 : z_D 1 M_X1_next 20 21 (.aload_n 0) := ⟨by decide +kernel, rfl⟩
theorem e_X1_next_21 : z_D 3 M_X1_next 21 24 (.getfield 15) := ⟨by decide +kernel, rfl⟩
theorem e_X1_next_24 : z_D 1 M_X1_next 24 25 (.aload_n 0) := ⟨by decide +kernel, rfl⟩
theorem e_X1_next_25 : z_D 3 M_X1_next 25 28 (.getfield 22) := ⟨by decide +kernel, rfl⟩
theorem e_X1_next_28 : z_J M_X1_next 28 31 80 (52) (.if_icmp .ge 52) := ⟨by decide +kernel, rfl, rfl⟩
theorem e_X1_next_31 : z_D 1 M_X1_next 31 32 (.aload_n 0) := ⟨by decide +kernel, rfl⟩
theorem e_X1_next_32 : z_D 1 M_X1_next 32 33 (.dup) := ⟨by decide +kernel, rfl⟩
theorem e_X1_next_33 : z_D 3 M_X1_next 33 36 (.getfield 15) := ⟨by decide +kernel, rfl⟩
theorem e_X1_next_36 : z_D 1 M_X1_next 36 37 (.iconst 1) := ⟨by decide +kernel, rfl⟩
theorem e_X1_next_37 : z_D 1 M_X1_next 37 38 (.iadd) := ⟨by decide +kernel, rfl⟩
theorem e_X1_next_38 : z_D 3 M_X1_next 38 41 (.putfield 15) := ⟨by decide +kernel, rfl⟩
theorem e_X1_next_41 : z_D 1 M_X1_next 41 42 (.aload_n 0) := ⟨by decide +kernel, rfl⟩
theorem e_X1_next_42 : z_D 1 M_X1_next 42 43 (.iconst 0) := ⟨by decide +kernel, rfl⟩
theorem e_X1_next_43 : z_D 3 M_X1_next 43 46 (.putfield 19) := ⟨by decide +kernel, rfl⟩
theorem e_X1_next_46 : z_D 1 M_X1_next 46 47 (.aload_n 0) := ⟨by decide +kernel, rfl⟩
theorem e_X1_next_47 : z_D 1 M_X1_next 47 48 (.aload_n 0) := ⟨by decide +kernel, rfl⟩
theorem e_X1_next_48 : z_D 3 M_X1_next 48 51 (.getfield 9) := ⟨by decide +kernel, rfl⟩
theorem e_X1_next_51 : z_D 1 M_X1_next 51 52 (.aload_n 0) := ⟨by decide +kernel, rfl⟩
theorem e_X1_next_52 : z_D 3 M_X1_next 52 55 (.getfield 15) := ⟨by decide +kernel, rfl⟩
theorem e_X1_next_55 : z_D 1 M_X1_next 55 56 (.aload_n 0) := ⟨by decide +kernel, rfl⟩
theorem e_X1_next_56 : z_D 3 M_X1_next 56 59 (.getfield 15) := ⟨by decide +kernel, rfl⟩
theorem e_X1_next_59 : z_D 1 M_X1_next 59 60 (.aload_n 0) := ⟨by decide +kernel, rfl⟩
theorem e_X1_next_60 : z_D 3 M_X1_next 60 63 (.getfield 22) := ⟨by decide +kernel, rfl⟩
theorem e_X1_next_63 : z_J M_X1_next 63 66 70 (7) (.if_icmp .ne 7) := ⟨by decide +kernel, rfl, rfl⟩
theorem e_X1_next_66 : z_D 1 M_X1_next 66 67 (.iconst 1) := ⟨by decide +kernel, rfl⟩
theorem e_X1_next_67 : z_J M_X1_next 67 70 71 (4) (.goto 4) := ⟨by decide +kernel, rfl, rfl⟩
theorem e_X1_next_70 : z_D 1 M_X1_next 70 71 (.iconst 0) := ⟨by decide +kernel, rfl⟩
theorem e_X1_next_71 : z_D 3 M_X1_next 71 74 (.invokevirtual 53) := ⟨by decide +kernel, rfl⟩
theorem e_X1_next_74 : z_D 3 M_X1_next 74 77 (.putfield 25) := ⟨by decide +kernel, rfl⟩
theorem e_X1_next_77 : z_J M_X1_next 77 80 9 (-68) (.goto (-68)) := ⟨by decide +kernel, rfl, rfl⟩
theorem e_X1_next_80 : z_D 1 M_X1_next 80 81 (.aload_n 0) := ⟨by decide +kernel, rfl⟩
theorem e_X1_next_81 : z_D 3 M_X1_next 81 84 (.getfield 19) := ⟨by decide +kernel, rfl⟩
theorem e_X1_next_84 : z_D 1 M_X1_next 84 85 (.aload_n 0) := ⟨by decide +kernel, rfl⟩
theorem e_X1_next_85 : z_D 3 M_X1_next 85 88 (.getfield 25) := ⟨by decide +kernel, rfl⟩
theorem e_X1_next_88 : z_J M_X1_next 88 91 93 (5) (.if_icmp .lt 5) := ⟨by decide +kernel, rfl, rfl⟩
theorem e_X1_next_91 : z_D 1 M_X1_next 91 92 (.iconst 0) := ⟨by decide +kernel, rfl⟩
theorem e_X1_next_92 : z_D 1 M_X1_next 92 93 (.ireturn) := ⟨by decide +kernel, rfl⟩
theorem e_X1_next_93 : z_D 1 M_X1_next 93 94 (.aload_n 0) := ⟨by decide +kernel, rfl⟩
theorem e_X1_next_94 : z_D 1 M_X1_next 94 95 (.aload_n 0) := ⟨by decide +kernel, rfl⟩
theorem e_X1_next_95 : z_D 3 M_X1_next 95 98 (.getfield 9) := ⟨by decide +kernel, rfl⟩
theorem e_X1_next_98 : z_D 1 M_X1_next 98 99 (.aload_n 0) := ⟨by decide +kernel, rfl⟩
theorem e_X1_next_99 : z_D 3 M_X1_next 99 102 (.getfield 15) := ⟨by decide +kernel, rfl⟩
theorem e_X1_next_102 : z_D 3 M_X1_next 102 105 (.invokevirtual 59) := ⟨by decide +kernel, rfl⟩
theorem e_X1_next_105 : z_D 1 M_X1_next 105 106 (.aload_n 0) := ⟨by decide +kernel, rfl⟩
theorem e_X1_next_106 : z_D 3 M_X1_next 106 109 (.getfield 19) := ⟨by decide +kernel, rfl⟩
theorem e_X1_next_109 : z_D 3 M_X1_next 109 112 (.invokevirtual 63) := ⟨by decide +kernel, rfl⟩
theorem e_X1_next_112 : z_D 3 M_X1_next 112 115 (.putfield 31) := ⟨by decide +kernel, rfl⟩
theorem e_X1_next_115 : z_D 1 M_X1_next 115 116 (.aload_n 0) := ⟨by decide +kernel, rfl⟩
theorem e_X1_next_116 : z_D 3 M_X1_next 116 119 (.getfield 31) := ⟨by decide +kernel, rfl⟩
theorem e_X1_next_119 : z_D 3 M_X1_next 119 122 (.invokestatic 69) := ⟨by decide +kernel, rfl⟩
theorem e_X1_next_122 : z_D 1 M_X1_next 122 123 (.istore_n 1) := ⟨by decide +kernel, rfl⟩
theorem e_X1_next_123 : z_D 1 M_X1_next 123 124 (.aload_n 0) := ⟨by decide +kernel, rfl⟩
theorem e_X1_next_124 : z_D 1 M_X1_next 124 125 (.dup) := ⟨by decide +kernel, rfl⟩
theorem e_X1_next_125 : z_D 3 M_X1_next 125 128 (.getfield 19) := ⟨by decide +kernel, rfl⟩
theorem e_X1_next_128 : z_D 1 M_X1_next 128 129 (.iload_n 1) := ⟨by decide +kernel, rfl⟩
theorem e_X1_next_129 : z_D 1 M_X1_next 129 130 (.iadd) := ⟨by decide +kernel, rfl⟩
theorem e_X1_next_130 : z_D 3 M_X1_next 130 133 (.putfield 19) := ⟨by decide +kernel, rfl⟩
theorem e_X1_next_133 : z_D 1 M_X1_next 133 134 (.aload_n 0) := ⟨by decide +kernel, rfl⟩
theorem e_X1_next_134 : z_D 1 M_X1_next 134 135 (.dup) := ⟨by decide +kernel, rfl⟩
theorem e_X1_next_135 : z_D 3 M_X1_next 135 138 (.getfield 34) := ⟨by decide +kernel, rfl⟩
theorem e_X1_next_138 : z_D 1 M_X1_next 138 139 (.iconst 1) := ⟨by decide +kernel, rfl⟩
theorem e_X1_next_139 : z_D 1 M_X1_next 139 140 (.iadd) := ⟨by decide +kernel, rfl⟩
theorem e_X1_next_140 : z_D 3 M_X1_next 140 143 (.putfield 34) := ⟨by decide +kernel, rfl⟩
theorem e_X1_next_143 : z_D 1 M_X1_next 143 144 (.aload_n 0) := ⟨by decide +kernel, rfl⟩
theorem e_X1_next_144 : z_D 1 M_X1_next 144 145 (.aload_n 0) := ⟨by decide +kernel, rfl⟩
theorem e_X1_next_145 : z_D 3 M_X1_next 145 148 (.getfield 43) := ⟨by decide +kernel, rfl⟩
theorem e_X1_next_148 : z_D 1 M_X1_next 148 149 (.iload_n 1) := ⟨by decide +kernel, rfl⟩
theorem e_X1_next_149 : z_D 1 M_X1_next 149 150 (.iadd) := ⟨by decide +kernel, rfl⟩
theorem e_X1_next_150 : z_D 1 M_X1_next 150 151 (.aload_n 0) := ⟨by decide +kernel, rfl⟩
theorem e_X1_next_151 : z_D 3 M_X1_next 151 154 (.getfield 28) := ⟨by decide +kernel, rfl⟩
theorem e_X1_next_154 : z_J M_X1_next 154 157 161 (7) (.if_icmp .le 7) := ⟨by decide +kernel, rfl, rfl⟩
theorem e_X1_next_157 : z_D 1 M_X1_next 157 158 (.iconst 1) := ⟨by decide +kernel, rfl⟩
theorem e_X1_next_158 : z_J M_X1_next 158 161 162 (4) (.goto 4) := ⟨by decide +kernel, rfl, rfl⟩
theorem e_X1_next_161 : z_D 1 M_X1_next 161 162 (.iconst 0) := ⟨by decide +kernel, rfl⟩
theorem e_X1_next_162 : z_D 3 M_X1_next 162 165 (.putfield 46) := ⟨by decide +kernel, rfl⟩
theorem e_X1_next_165 : z_D 1 M_X1_next 165 166 (.aload_n 0) := ⟨by decide +kernel, rfl⟩
theorem e_X1_next_166 : z_D 1 M_X1_next 166 167 (.aload_n 0) := ⟨by decide +kernel, rfl⟩
theorem e_X1_next_167 : z_D 3 M_X1_next 167 170 (.getfield 46) := ⟨by decide +kernel, rfl⟩
theorem e_X1_next_170 : z_J M_X1_next 170 173 188 (18) (.ifCond .eq 18) := ⟨by decide +kernel, rfl, rfl⟩
theorem e_X1_next_173 : z_D 1 M_X1_next 173 174 (.aload_n 0) := ⟨by decide +kernel, rfl⟩
theorem e_X1_next_174 : z_D 3 M_X1_next 174 177 (.getfield 43) := ⟨by decide +kernel, rfl⟩
theorem e_X1_next_177 : z_D 1 M_X1_next 177 178 (.aload_n 0) := ⟨by decide +kernel, rfl⟩
theorem e_X1_next_178 : z_D 3 M_X1_next 178 181 (.getfield 28) := ⟨by decide +kernel, rfl⟩
theorem e_X1_next_181 : z_J M_X1_next 181 184 188 (7) (.if_icmp .ge 7) := ⟨by decide +kernel, rfl, rfl⟩
theorem e_X1_next_184 : z_D 1 M_X1_next 184 185 (.iconst 1) := ⟨by decide +kernel, rfl⟩
theorem e_X1_next_185 : z_J M_X1_next 185 188 189 (4) (.goto 4) := ⟨by decide +kernel, rfl, rfl⟩
theorem e_X1_next_188 : z_D 1 M_X1_next 188 189 (.iconst 0) := ⟨by decide +kernel, rfl⟩
theorem e_X1_next_189 : z_D 3 M_X1_next 189 192 (.putfield 50) := ⟨by decide +kernel, rfl⟩
theorem e_X1_next_192 : z_D 1 M_X1_next 192 193 (.aload_n 0) := ⟨by decide +kernel, rfl⟩
theorem e_X1_next_193 : z_D 1 M_X1_next 193 194 (.dup) := ⟨by decide +kernel, rfl⟩
theorem e_X1_next_194 : z_D 3 M_X1_next 194 197 (.getfield 37) := ⟨by decide +kernel, rfl⟩
theorem e_X1_next_197 : z_D 1 M_X1_next 197 198 (.aload_n 0) := ⟨by decide +kernel, rfl⟩
theorem e_X1_next_198 : z_D 3 M_X1_next 198 201 (.getfield 46) := ⟨by decide +kernel, rfl⟩
theorem e_X1_next_201 : z_J M_X1_next 201 204 208 (7) (.ifCond .eq 7) := ⟨by decide +kernel, rfl, rfl⟩
theorem e_X1_next_204 : z_D 1 M_X1_next 204 205 (.iconst 1) := ⟨by decide +kernel, rfl⟩
theorem e_X1_next_205 : z_J M_X1_next 205 208 209 (4) (.goto 4) := ⟨by decide +kernel, rfl, rfl⟩
theorem e_X1_next_208 : z_D 1 M_X1_next 208 209 (.iconst 0) := ⟨by decide +kernel, rfl⟩
theorem e_X1_next_209 : z_D 1 M_X1_next 209 210 (.iadd) := ⟨by decide +kernel, rfl⟩
theorem e_X1_next_210 : z_D 3 M_X1_next 210 213 (.putfield 37) := ⟨by decide +kernel, rfl⟩
theorem e_X1_next_213 : z_D 1 M_X1_next 213 214 (.aload_n 0) := ⟨by decide +kernel, rfl⟩
theorem e_X1_next_214 : z_D 1 M_X1_next 214 215 (.aload_n 0) := ⟨by decide +kernel, rfl⟩
theorem e_X1_next_215 : z_D 3 M_X1_next 215 218 (.getfield 46) := ⟨by decide +kernel, rfl⟩
theorem e_X1_next_218 : z_J M_X1_next 218 221 225 (7) (.ifCond .eq 7) := ⟨by decide +kernel, rfl, rfl⟩
theorem e_X1_next_221 : z_D 1 M_X1_next 221 222 (.iconst 0) := ⟨by decide +kernel, rfl⟩
theorem e_X1_next_222 : z_J M_X1_next 222 225 229 (7) (.goto 7) := ⟨by decide +kernel, rfl, rfl⟩
theorem e_X1_next_225 : z_D 1 M_X1_next 225 226 (.aload_n 0) := ⟨by decide +kernel, rfl⟩
theorem e_X1_next_226 : z_D 3 M_X1_next 226 229 (.getfield 43) := ⟨by decide +kernel, rfl⟩
theorem e_X1_next_229 : z_D 3 M_X1_next 229 232 (.putfield 40) := ⟨by decide +kernel, rfl⟩
theorem e_X1_next_232 : z_D 1 M_X1_next 232 233 (.aload_n 0) := ⟨by decide +kernel, rfl⟩
theorem e_X1_next_233 : z_D 1 M_X1_next 233 234 (.aload_n 0) := ⟨by decide +kernel, rfl⟩
theorem e_X1_next_234 : z_D 3 M_X1_next 234 237 (.getfield 40) := ⟨by decide +kernel, rfl⟩
theorem e_X1_next_237 : z_D 1 M_X1_next 237 238 (.iload_n 1) := ⟨by decide +kernel, rfl⟩
theorem e_X1_next_238 : z_D 1 M_X1_next 238 239 (.iadd) := ⟨by decide +kernel, rfl⟩
theorem e_X1_next_239 : z_D 3 M_X1_next 239 242 (.putfield 43) := ⟨by decide +kernel, rfl⟩
theorem e_X1_next_242 : z_D 1 M_X1_next 242 243 (.iconst 1) := ⟨by decide +kernel, rfl⟩
theorem e_X1_next_243 : z_D 1 M_X1_next 243 244 (.ireturn) := ⟨by decide +kernel, rfl⟩
theorem e_X1_signOf_0 : z_D 1 M_X1_signOf 0 1 (.aload_n 0) := ⟨by decide +kernel, rfl⟩
theorem e_X1_signOf_1 : z_D 1 M_X1_signOf 1 2 (.aload_n 1) := ⟨by decide +kernel, rfl⟩
theorem e_X1_signOf_2 : z_D 1 M_X1_signOf 2 3 (.iload_n 2) := ⟨by decide +kernel, rfl⟩
theorem e_X1_signOf_3 : z_D 1 M_X1_signOf 3 4 (.iload_n 3) := ⟨by decide +kernel, rfl⟩
theorem e_X1_signOf_4 : z_D 1 M_X1_signOf 4 5 (.aload_n 1) := ⟨by decide +kernel, rfl⟩
theorem e_X1_signOf_5 : z_D 3 M_X1_signOf 5 8 (.getfield 72) := ⟨by decide +kernel, rfl⟩
theorem e_X1_signOf_8 : z_D 3 M_X1_signOf 8 11 (.invokevirtual 73) := ⟨by decide +kernel, rfl⟩
theorem e_X1_signOf_11 : z_D 1 M_X1_signOf 11 12 (.aload_n 0) := ⟨by decide +kernel, rfl⟩
theorem e_X1_signOf_12 : z_D 2 M_X1_signOf 12 14 (.iload 4) := ⟨by decide +kernel, rfl⟩
theorem e_X1_signOf_14 : z_D 3 M_X1_signOf 14 17 (.invokevirtual 77) := ⟨by decide +kernel, rfl⟩
theorem e_X1_signOf_17 : z_J M_X1_signOf 17 20 27 (10) (.ifCond .eq 10) := ⟨by decide +kernel, rfl, rfl⟩
theorem e_X1_signOf_20 : z_D 1 M_X1_signOf 20 21 (.aload_n 0) := ⟨by decide +kernel, rfl⟩
theorem e_X1_signOf_21 : z_D 3 M_X1_signOf 21 24 (.getfield 31) := ⟨by decide +kernel, rfl⟩
theorem e_X1_signOf_24 : z_J M_X1_signOf 24 27 29 (5) (.goto 5) := ⟨by decide +kernel, rfl, rfl⟩
theorem e_X1_signOf_27 : z_D 2 M_X1_signOf 27 29 (.bipush (-9)) := ⟨by decide +kernel, rfl⟩
theorem e_X1_signOf_29 : z_D 1 M_X1_signOf 29 30 (.ireturn) := ⟨by decide +kernel, rfl⟩
theorem e_X1_readUpTo_0 : z_D 1 M_X1_readUpTo 0 1 (.iconst 0) := ⟨by decide +kernel, rfl⟩
theorem e_X1_readUpTo_1 : z_D 1 M_X1_readUpTo 1 2 (.istore_n 2) := ⟨by decide +kernel, rfl⟩
theorem e_X1_readUpTo_2 : z_D 1 M_X1_readUpTo 2 3 (.iload_n 2) := ⟨by decide +kernel, rfl⟩
theorem e_X1_readUpTo_3 : z_D 1 M_X1_readUpTo 3 4 (.iload_n 1) := ⟨by decide +kernel, rfl⟩
end
section
theorem e_X1_readUpTo_4 : z_J M_X1_readUpTo 4 7 22 (18) (.if_icmp .gt 18) := ⟨by decide +kernel, rfl, rfl⟩
theorem e_X1_readUpTo_7 : z_D 1 M_X1_readUpTo 7 8 (.aload_n 0) := ⟨by decide +kernel, rfl⟩
theorem e_X1_readUpTo_8 : z_D 3 M_X1_readUpTo 8 11 (.invokevirtual 81) := ⟨by decide +kernel, rfl⟩
theorem e_X1_readUpTo_11 : z_J M_X1_readUpTo 11 14 16 (5) (.ifCond .ne 5) := ⟨by decide +kernel, rfl, rfl⟩
theorem e_X1_readUpTo_14 : z_D 1 M_X1_readUpTo 14 15 (.iconst 0) := ⟨by decide +kernel, rfl⟩
theorem e_X1_readUpTo_15 : z_D 1 M_X1_readUpTo 15 16 (.ireturn) := ⟨by decide +kernel, rfl⟩
theorem e_X1_readUpTo_16 : z_D 3 M_X1_readUpTo 16 19 (.iinc 2 1) := ⟨by decide +kernel, rfl⟩
theorem e_X1_readUpTo_19 : z_J M_X1_readUpTo 19 22 2 (-17) (.goto (-17)) := ⟨by decide +kernel, rfl, rfl⟩
theorem e_X1_readUpTo_22 : z_D 1 M_X1_readUpTo 22 23 (.iconst 1) := ⟨by decide +kernel, rfl⟩
theorem e_X1_readUpTo_23 : z_D 1 M_X1_readUpTo 23 24 (.ireturn) := ⟨by decide +kernel, rfl⟩
theorem e_X1_rowsBefore_0 : z_D 1 M_X1_rowsBefore 0 1 (.aload_n 1) := ⟨by decide +kernel, rfl⟩
theorem e_X1_rowsBefore_1 : z_D 3 M_X1_rowsBefore 1 4 (.invokevirtual 85) := ⟨by decide +kernel, rfl⟩
theorem e_X1_rowsBefore_4 : z_D 2 M_X1_rowsBefore 4 6 (.istore 4) := ⟨by decide +kernel, rfl⟩
theorem e_X1_rowsBefore_6 : z_D 1 M_X1_rowsBefore 6 7 (.iconst 0) := ⟨by decide +kernel, rfl⟩
theorem e_X1_rowsBefore_7 : z_D 2 M_X1_rowsBefore 7 9 (.istore 5) := ⟨by decide +kernel, rfl⟩
theorem e_X1_rowsBefore_9 : z_D 1 M_X1_rowsBefore 9 10 (.iconst 0) := ⟨by decide +kernel, rfl⟩
theorem e_X1_rowsBefore_10 : z_D 2 M_X1_rowsBefore 10 12 (.istore 6) := ⟨by decide +kernel, rfl⟩
theorem e_X1_rowsBefore_12 : z_D 1 M_X1_rowsBefore 12 13 (.iconst 0) := ⟨by decide +kernel, rfl⟩
theorem e_X1_rowsBefore_13 : z_D 2 M_X1_rowsBefore 13 15 (.istore 7) := ⟨by decide +kernel, rfl⟩
theorem e_X1_rowsBefore_15 : z_D 2 M_X1_rowsBefore 15 17 (.iload 7) := ⟨by decide +kernel, rfl⟩
theorem e_X1_rowsBefore_17 : z_D 1 M_X1_rowsBefore 17 18 (.iload_n 2) := ⟨by decide +kernel, rfl⟩
theorem e_X1_rowsBefore_18 : z_J M_X1_rowsBefore 18 21 89 (71) (.if_icmp .ge 71) := ⟨by decide +kernel, rfl, rfl⟩
theorem e_X1_rowsBefore_21 : z_D 1 M_X1_rowsBefore 21 22 (.aload_n 1) := ⟨by decide +kernel, rfl⟩
theorem e_X1_rowsBefore_22 : z_D 2 M_X1_rowsBefore 22 24 (.iload 7) := ⟨by decide +kernel, rfl⟩
theorem e_X1_rowsBefore_24 : z_D 2 M_X1_rowsBefore 24 26 (.iload 4) := ⟨by decide +kernel, rfl⟩
theorem e_X1_rowsBefore_26 : z_D 3 M_X1_rowsBefore 26 29 (.invokevirtual 89) := ⟨by decide +kernel, rfl⟩
theorem e_X1_rowsBefore_29 : z_J M_X1_rowsBefore 29 32 83 (54) (.ifCond .eq 54) := ⟨by decide +kernel, rfl, rfl⟩
theorem e_X1_rowsBefore_32 : z_D 1 M_X1_rowsBefore 32 33 (.aload_n 0) := ⟨by decide +kernel, rfl⟩
theorem e_X1_rowsBefore_33 : z_D 1 M_X1_rowsBefore 33 34 (.aload_n 1) := ⟨by decide +kernel, rfl⟩
theorem e_X1_rowsBefore_34 : z_D 2 M_X1_rowsBefore 34 36 (.iload 6) := ⟨by decide +kernel, rfl⟩
theorem e_X1_rowsBefore_36 : z_D 2 M_X1_rowsBefore 36 38 (.iload 7) := ⟨by decide +kernel, rfl⟩
theorem e_X1_rowsBefore_38 : z_D 1 M_X1_rowsBefore 38 39 (.iload_n 3) := ⟨by decide +kernel, rfl⟩
theorem e_X1_rowsBefore_39 : z_D 3 M_X1_rowsBefore 39 42 (.invokevirtual 73) := ⟨by decide +kernel, rfl⟩
theorem e_X1_rowsBefore_42 : z_D 1 M_X1_rowsBefore 42 43 (.iconst 0) := ⟨by decide +kernel, rfl⟩
theorem e_X1_rowsBefore_43 : z_D 2 M_X1_rowsBefore 43 45 (.istore 8) := ⟨by decide +kernel, rfl⟩
theorem e_X1_rowsBefore_45 : z_D 2 M_X1_rowsBefore 45 47 (.iload 8) := ⟨by decide +kernel, rfl⟩
theorem e_X1_rowsBefore_47 : z_D 3 M_X1_rowsBefore 47 50 (.sipush 640) := ⟨by decide +kernel, rfl⟩
theorem e_X1_rowsBefore_50 : z_J M_X1_rowsBefore 50 53 66 (16) (.if_icmp .ge 16) := ⟨by decide +kernel, rfl, rfl⟩
theorem e_X1_rowsBefore_53 : z_D 1 M_X1_rowsBefore 53 54 (.aload_n 0) := ⟨by decide +kernel, rfl⟩
theorem e_X1_rowsBefore_54 : z_D 3 M_X1_rowsBefore 54 57 (.invokevirtual 81) := ⟨by decide +kernel, rfl⟩
theorem e_X1_rowsBefore_57 : z_J M_X1_rowsBefore 57 60 66 (9) (.ifCond .eq 9) := ⟨by decide +kernel, rfl, rfl⟩
theorem e_X1_rowsBefore_60 : z_D 3 M_X1_rowsBefore 60 63 (.iinc 8 1) := ⟨by decide +kernel, rfl⟩
theorem e_X1_rowsBefore_63 : z_J M_X1_rowsBefore 63 66 45 (-18) (.goto (-18)) := ⟨by decide +kernel, rfl, rfl⟩
theorem e_X1_rowsBefore_66 : z_D 2 M_X1_rowsBefore 66 68 (.iload 5) := ⟨by decide +kernel, rfl⟩
theorem e_X1_rowsBefore_68 : z_D 1 M_X1_rowsBefore 68 69 (.aload_n 0) := ⟨by decide +kernel, rfl⟩
theorem e_X1_rowsBefore_69 : z_D 3 M_X1_rowsBefore 69 72 (.getfield 37) := ⟨by decide +kernel, rfl⟩
theorem e_X1_rowsBefore_72 : z_D 1 M_X1_rowsBefore 72 73 (.iconst 1) := ⟨by decide +kernel, rfl⟩
theorem e_X1_rowsBefore_73 : z_D 1 M_X1_rowsBefore 73 74 (.iadd) := ⟨by decide +kernel, rfl⟩
theorem e_X1_rowsBefore_74 : z_D 1 M_X1_rowsBefore 74 75 (.iadd) := ⟨by decide +kernel, rfl⟩
theorem e_X1_rowsBefore_75 : z_D 2 M_X1_rowsBefore 75 77 (.istore 5) := ⟨by decide +kernel, rfl⟩
theorem e_X1_rowsBefore_77 : z_D 2 M_X1_rowsBefore 77 79 (.iload 7) := ⟨by decide +kernel, rfl⟩
theorem e_X1_rowsBefore_79 : z_D 1 M_X1_rowsBefore 79 80 (.iconst 1) := ⟨by decide +kernel, rfl⟩
theorem e_X1_rowsBefore_80 : z_D 1 M_X1_rowsBefore 80 81 (.iadd) := ⟨by decide +kernel, rfl⟩
theorem e_X1_rowsBefore_81 : z_D 2 M_X1_rowsBefore 81 83 (.istore 6) := ⟨by decide +kernel, rfl⟩
theorem e_X1_rowsBefore_83 : z_D 3 M_X1_rowsBefore 83 86 (.iinc 7 1) := ⟨by decide +kernel, rfl⟩
theorem e_X1_rowsBefore_86 : z_J M_X1_rowsBefore 86 89 15 (-71) (.goto (-71)) := ⟨by decide +kernel, rfl, rfl⟩
theorem e_X1_rowsBefore_89 : z_D 2 M_X1_rowsBefore 89 91 (.iload 5) := ⟨by decide +kernel, rfl⟩
theorem e_X1_rowsBefore_91 : z_D 1 M_X1_rowsBefore 91 92 (.ireturn) := ⟨by decide +kernel, rfl⟩
theorem e_X1_rowsIn_0 : z_D 1 M_X1_rowsIn 0 1 (.aload_n 0) := ⟨by decide +kernel, rfl⟩
theorem e_X1_rowsIn_1 : z_D 1 M_X1_rowsIn 1 2 (.aload_n 1) := ⟨by decide +kernel, rfl⟩
theorem e_X1_rowsIn_2 : z_D 1 M_X1_rowsIn 2 3 (.aload_n 1) := ⟨by decide +kernel, rfl⟩
theorem e_X1_rowsIn_3 : z_D 3 M_X1_rowsIn 3 6 (.invokevirtual 85) := ⟨by decide +kernel, rfl⟩
theorem e_X1_rowsIn_6 : z_D 1 M_X1_rowsIn 6 7 (.iload_n 2) := ⟨by decide +kernel, rfl⟩
theorem e_X1_rowsIn_7 : z_D 3 M_X1_rowsIn 7 10 (.invokevirtual 93) := ⟨by decide +kernel, rfl⟩
theorem e_X1_rowsIn_10 : z_D 1 M_X1_rowsIn 10 11 (.ireturn) := ⟨by decide +kernel, rfl⟩
theorem e_X1_pour_0 : z_D 1 M_X1_pour 0 1 (.aload_n 0) := ⟨by decide +kernel, rfl⟩
theorem e_X1_pour_1 : z_D 1 M_X1_pour 1 2 (.aload_n 1) := ⟨by decide +kernel, rfl⟩
theorem e_X1_pour_2 : z_D 1 M_X1_pour 2 3 (.iload_n 3) := ⟨by decide +kernel, rfl⟩
theorem e_X1_pour_3 : z_D 3 M_X1_pour 3 6 (.invokevirtual 97) := ⟨by decide +kernel, rfl⟩
theorem e_X1_pour_6 : z_D 2 M_X1_pour 6 8 (.istore 5) := ⟨by decide +kernel, rfl⟩
theorem e_X1_pour_8 : z_D 1 M_X1_pour 8 9 (.iconst 0) := ⟨by decide +kernel, rfl⟩
theorem e_X1_pour_9 : z_D 2 M_X1_pour 9 11 (.iload 5) := ⟨by decide +kernel, rfl⟩
theorem e_X1_pour_11 : z_D 2 M_X1_pour 11 13 (.iload 4) := ⟨by decide +kernel, rfl⟩
theorem e_X1_pour_13 : z_D 1 M_X1_pour 13 14 (.isub) := ⟨by decide +kernel, rfl⟩
theorem e_X1_pour_14 : z_D 3 M_X1_pour 14 17 (.invokestatic 101) := ⟨by decide +kernel, rfl⟩
theorem e_X1_pour_17 : z_D 2 M_X1_pour 17 19 (.istore 6) := ⟨by decide +kernel, rfl⟩
theorem e_X1_pour_19 : z_D 1 M_X1_pour 19 20 (.aload_n 2) := ⟨by decide +kernel, rfl⟩
theorem e_X1_pour_20 : z_D 1 M_X1_pour 20 21 (.iload_n 3) := ⟨by decide +kernel, rfl⟩
theorem e_X1_pour_21 : z_D 2 M_X1_pour 21 23 (.iload 4) := ⟨by decide +kernel, rfl⟩
theorem e_X1_pour_23 : z_D 3 M_X1_pour 23 26 (.invokevirtual 107) := ⟨by decide +kernel, rfl⟩
theorem e_X1_pour_26 : z_D 1 M_X1_pour 26 27 (.aload_n 2) := ⟨by decide +kernel, rfl⟩
theorem e_X1_pour_27 : z_D 2 M_X1_pour 27 29 (.bipush 24) := ⟨by decide +kernel, rfl⟩
theorem e_X1_pour_29 : z_D 2 M_X1_pour 29 31 (.iload 6) := ⟨by decide +kernel, rfl⟩
theorem e_X1_pour_31 : z_D 3 M_X1_pour 31 34 (.invokestatic 111) := ⟨by decide +kernel, rfl⟩
theorem e_X1_pour_34 : z_D 3 M_X1_pour 34 37 (.putfield 114) := ⟨by decide +kernel, rfl⟩
theorem e_X1_pour_37 : z_D 1 M_X1_pour 37 38 (.aload_n 2) := ⟨by decide +kernel, rfl⟩
theorem e_X1_pour_38 : z_D 3 M_X1_pour 38 41 (.getfield 114) := ⟨by decide +kernel, rfl⟩
theorem e_X1_pour_41 : z_D 2 M_X1_pour 41 43 (.iload 6) := ⟨by decide +kernel, rfl⟩
theorem e_X1_pour_43 : z_D 1 M_X1_pour 43 44 (.isub) := ⟨by decide +kernel, rfl⟩
theorem e_X1_pour_44 : z_D 2 M_X1_pour 44 46 (.istore 7) := ⟨by decide +kernel, rfl⟩
theorem e_X1_pour_46 : z_D 1 M_X1_pour 46 47 (.aload_n 0) := ⟨by decide +kernel, rfl⟩
theorem e_X1_pour_47 : z_D 1 M_X1_pour 47 48 (.aload_n 1) := ⟨by decide +kernel, rfl⟩
theorem e_X1_pour_48 : z_D 1 M_X1_pour 48 49 (.aload_n 2) := ⟨by decide +kernel, rfl⟩
theorem e_X1_pour_49 : z_D 2 M_X1_pour 49 51 (.iload 7) := ⟨by decide +kernel, rfl⟩
theorem e_X1_pour_51 : z_D 3 M_X1_pour 51 54 (.invokevirtual 117) := ⟨by decide +kernel, rfl⟩
theorem e_X1_pour_54 : z_D 1 M_X1_pour 54 55 (.aload_n 0) := ⟨by decide +kernel, rfl⟩
theorem e_X1_pour_55 : z_D 1 M_X1_pour 55 56 (.aload_n 1) := ⟨by decide +kernel, rfl⟩
theorem e_X1_pour_56 : z_D 1 M_X1_pour 56 57 (.aload_n 1) := ⟨by decide +kernel, rfl⟩
theorem e_X1_pour_57 : z_D 3 M_X1_pour 57 60 (.getfield 121) := ⟨by decide +kernel, rfl⟩
theorem e_X1_pour_60 : z_D 1 M_X1_pour 60 61 (.aload_n 2) := ⟨by decide +kernel, rfl⟩
theorem e_X1_pour_61 : z_D 1 M_X1_pour 61 62 (.aload_n 2) := ⟨by decide +kernel, rfl⟩
theorem e_X1_pour_62 : z_D 3 M_X1_pour 62 65 (.getfield 121) := ⟨by decide +kernel, rfl⟩
theorem e_X1_pour_65 : z_D 2 M_X1_pour 65 67 (.iload 7) := ⟨by decide +kernel, rfl⟩
theorem e_X1_pour_67 : z_D 3 M_X1_pour 67 70 (.invokevirtual 125) := ⟨by decide +kernel, rfl⟩
theorem e_X1_pour_70 : z_D 1 M_X1_pour 70 71 (.iconst 0) := ⟨by decide +kernel, rfl⟩
theorem e_X1_pour_71 : z_D 2 M_X1_pour 71 73 (.istore 8) := ⟨by decide +kernel, rfl⟩
theorem e_X1_pour_73 : z_D 2 M_X1_pour 73 75 (.iload 8) := ⟨by decide +kernel, rfl⟩
theorem e_X1_pour_75 : z_D 1 M_X1_pour 75 76 (.aload_n 2) := ⟨by decide +kernel, rfl⟩
theorem e_X1_pour_76 : z_D 3 M_X1_pour 76 79 (.getfield 129) := ⟨by decide +kernel, rfl⟩
theorem e_X1_pour_79 : z_J M_X1_pour 79 82 118 (39) (.if_icmp .ge 39) := ⟨by decide +kernel, rfl, rfl⟩
theorem e_X1_pour_82 : z_D 1 M_X1_pour 82 83 (.aload_n 2) := ⟨by decide +kernel, rfl⟩
theorem e_X1_pour_83 : z_D 2 M_X1_pour 83 85 (.iload 8) := ⟨by decide +kernel, rfl⟩
theorem e_X1_pour_85 : z_D 3 M_X1_pour 85 88 (.invokevirtual 132) := ⟨by decide +kernel, rfl⟩
theorem e_X1_pour_88 : z_D 2 M_X1_pour 88 90 (.astore 9) := ⟨by decide +kernel, rfl⟩
theorem e_X1_pour_90 : z_D 1 M_X1_pour 90 91 (.aload_n 0) := ⟨by decide +kernel, rfl⟩
theorem e_X1_pour_91 : z_D 1 M_X1_pour 91 92 (.aload_n 1) := ⟨by decide +kernel, rfl⟩
theorem e_X1_pour_92 : z_D 1 M_X1_pour 92 93 (.aload_n 1) := ⟨by decide +kernel, rfl⟩
theorem e_X1_pour_93 : z_D 2 M_X1_pour 93 95 (.iload 8) := ⟨by decide +kernel, rfl⟩
theorem e_X1_pour_95 : z_D 3 M_X1_pour 95 98 (.invokevirtual 132) := ⟨by decide +kernel, rfl⟩
theorem e_X1_pour_98 : z_D 1 M_X1_pour 98 99 (.aload_n 2) := ⟨by decide +kernel, rfl⟩
theorem e_X1_pour_99 : z_D 2 M_X1_pour 99 101 (.aload 9) := ⟨by decide +kernel, rfl⟩
theorem e_X1_pour_101 : z_D 2 M_X1_pour 101 103 (.iload 7) := ⟨by decide +kernel, rfl⟩
theorem e_X1_pour_103 : z_D 3 M_X1_pour 103 106 (.invokevirtual 125) := ⟨by decide +kernel, rfl⟩
theorem e_X1_pour_106 : z_D 2 M_X1_pour 106 108 (.aload 9) := ⟨by decide +kernel, rfl⟩
theorem e_X1_pour_108 : z_D 1 M_X1_pour 108 109 (.iconst 0) := ⟨by decide +kernel, rfl⟩
theorem e_X1_pour_109 : z_D 3 M_X1_pour 109 112 (.putfield 136) := ⟨by decide +kernel, rfl⟩
theorem e_X1_pour_112 : z_D 3 M_X1_pour 112 115 (.iinc 8 1) := ⟨by decide +kernel, rfl⟩
theorem e_X1_pour_115 : z_J M_X1_pour 115 118 73 (-42) (.goto (-42)) := ⟨by decide +kernel, rfl, rfl⟩
theorem e_X1_pour_118 : z_D 2 M_X1_pour 118 120 (.iload 5) := ⟨by decide +kernel, rfl⟩
theorem e_X1_pour_120 : z_D 1 M_X1_pour 120 121 (.ireturn) := ⟨by decide +kernel, rfl⟩
theorem e_X1_pourLines_0 : z_D 1 M_X1_pourLines 0 1 (.aload_n 1) := ⟨by decide +kernel, rfl⟩
theorem e_X1_pourLines_1 : z_D 3 M_X1_pourLines 1 4 (.invokevirtual 85) := ⟨by decide +kernel, rfl⟩
theorem e_X1_pourLines_4 : z_D 2 M_X1_pourLines 4 6 (.istore 4) := ⟨by decide +kernel, rfl⟩
theorem e_X1_pourLines_6 : z_D 1 M_X1_pourLines 6 7 (.iload_n 3) := ⟨by decide +kernel, rfl⟩
theorem e_X1_pourLines_7 : z_D 2 M_X1_pourLines 7 9 (.istore 5) := ⟨by decide +kernel, rfl⟩
theorem e_X1_pourLines_9 : z_D 1 M_X1_pourLines 9 10 (.iconst 0) := ⟨by decide +kernel, rfl⟩
theorem e_X1_pourLines_10 : z_D 2 M_X1_pourLines 10 12 (.istore 6) := ⟨by decide +kernel, rfl⟩
theorem e_X1_pourLines_12 : z_D 1 M_X1_pourLines 12 13 (.iconst 0) := ⟨by decide +kernel, rfl⟩
theorem e_X1_pourLines_13 : z_D 2 M_X1_pourLines 13 15 (.istore 7) := ⟨by decide +kernel, rfl⟩
theorem e_X1_pourLines_15 : z_D 2 M_X1_pourLines 15 17 (.iload 7) := ⟨by decide +kernel, rfl⟩
theorem e_X1_pourLines_17 : z_D 2 M_X1_pourLines 17 19 (.iload 4) := ⟨by decide +kernel, rfl⟩
theorem e_X1_pourLines_19 : z_J M_X1_pourLines 19 22 76 (57) (.if_icmp .ge 57) := ⟨by decide +kernel, rfl, rfl⟩
theorem e_X1_pourLines_22 : z_D 1 M_X1_pourLines 22 23 (.aload_n 1) := ⟨by decide +kernel, rfl⟩
theorem e_X1_pourLines_23 : z_D 2 M_X1_pourLines 23 25 (.iload 7) := ⟨by decide +kernel, rfl⟩
theorem e_X1_pourLines_25 : z_D 2 M_X1_pourLines 25 27 (.iload 4) := ⟨by decide +kernel, rfl⟩
theorem e_X1_pourLines_27 : z_D 3 M_X1_pourLines 27 30 (.invokevirtual 89) := ⟨by decide +kernel, rfl⟩
theorem e_X1_pourLines_30 : z_J M_X1_pourLines 30 33 70 (40) (.ifCond .eq 40) := ⟨by decide +kernel, rfl, rfl⟩
theorem e_X1_pourLines_33 : z_D 1 M_X1_pourLines 33 34 (.aload_n 0) := ⟨by decide +kernel, rfl⟩
theorem e_X1_pourLines_34 : z_D 1 M_X1_pourLines 34 35 (.aload_n 1) := ⟨by decide +kernel, rfl⟩
theorem e_X1_pourLines_35 : z_D 2 M_X1_pourLines 35 37 (.iload 6) := ⟨by decide +kernel, rfl⟩
theorem e_X1_pourLines_37 : z_D 2 M_X1_pourLines 37 39 (.iload 7) := ⟨by decide +kernel, rfl⟩
theorem e_X1_pourLines_39 : z_D 1 M_X1_pourLines 39 40 (.aload_n 2) := ⟨by decide +kernel, rfl⟩
theorem e_X1_pourLines_40 : z_D 3 M_X1_pourLines 40 43 (.getfield 72) := ⟨by decide +kernel, rfl⟩
theorem e_X1_pourLines_43 : z_D 3 M_X1_pourLines 43 46 (.invokevirtual 73) := ⟨by decide +kernel, rfl⟩
theorem e_X1_pourLines_46 : z_D 1 M_X1_pourLines 46 47 (.aload_n 0) := ⟨by decide +kernel, rfl⟩
theorem e_X1_pourLines_47 : z_D 1 M_X1_pourLines 47 48 (.aload_n 2) := ⟨by decide +kernel, rfl⟩
theorem e_X1_pourLines_48 : z_D 2 M_X1_pourLines 48 50 (.iload 5) := ⟨by decide +kernel, rfl⟩
theorem e_X1_pourLines_50 : z_D 3 M_X1_pourLines 50 53 (.invokevirtual 141) := ⟨by decide +kernel, rfl⟩
theorem e_X1_pourLines_53 : z_D 2 M_X1_pourLines 53 55 (.iload 5) := ⟨by decide +kernel, rfl⟩
theorem e_X1_pourLines_55 : z_D 1 M_X1_pourLines 55 56 (.aload_n 0) := ⟨by decide +kernel, rfl⟩
theorem e_X1_pourLines_56 : z_D 3 M_X1_pourLines 56 59 (.getfield 37) := ⟨by decide +kernel, rfl⟩
theorem e_X1_pourLines_59 : z_D 1 M_X1_pourLines 59 60 (.iconst 1) := ⟨by decide +kernel, rfl⟩
theorem e_X1_pourLines_60 : z_D 1 M_X1_pourLines 60 61 (.iadd) := ⟨by decide +kernel, rfl⟩
theorem e_X1_pourLines_61 : z_D 1 M_X1_pourLines 61 62 (.iadd) := ⟨by decide +kernel, rfl⟩
theorem e_X1_pourLines_62 : z_D 2 M_X1_pourLines 62 64 (.istore 5) := ⟨by decide +kernel, rfl⟩
theorem e_X1_pourLines_64 : z_D 2 M_X1_pourLines 64 66 (.iload 7) := ⟨by decide +kernel, rfl⟩
theorem e_X1_pourLines_66 : z_D 1 M_X1_pourLines 66 67 (.iconst 1) := ⟨by decide +kernel, rfl⟩
theorem e_X1_pourLines_67 : z_D 1 M_X1_pourLines 67 68 (.iadd) := ⟨by decide +kernel, rfl⟩
theorem e_X1_pourLines_68 : z_D 2 M_X1_pourLines 68 70 (.istore 6) := ⟨by decide +kernel, rfl⟩
theorem e_X1_pourLines_70 : z_D 3 M_X1_pourLines 70 73 (.iinc 7 1) := ⟨by decide +kernel, rfl⟩
theorem e_X1_pourLines_73 : z_J M_X1_pourLines 73 76 15 (-58) (.goto (-58)) := ⟨by decide +kernel, rfl, rfl⟩
theorem e_X1_pourLines_76 : z_D 1 M_X1_pourLines 76 77 (.return_) := ⟨by decide +kernel, rfl⟩
theorem e_X1_pourLine_0 : z_D 1 M_X1_pourLine 0 1 (.iconst 0) := ⟨by decide +kernel, rfl⟩
theorem e_X1_pourLine_1 : z_D 1 M_X1_pourLine 1 2 (.istore_n 3) := ⟨by decide +kernel, rfl⟩
theorem e_X1_pourLine_2 : z_D 1 M_X1_pourLine 2 3 (.iload_n 3) := ⟨by decide +kernel, rfl⟩
theorem e_X1_pourLine_3 : z_D 3 M_X1_pourLine 3 6 (.sipush 640) := ⟨by decide +kernel, rfl⟩
theorem e_X1_pourLine_6 : z_J M_X1_pourLine 6 9 99 (93) (.if_icmp .ge 93) := ⟨by decide +kernel, rfl, rfl⟩
theorem e_X1_pourLine_9 : z_D 1 M_X1_pourLine 9 10 (.aload_n 0) := ⟨by decide +kernel, rfl⟩
theorem e_X1_pourLine_10 : z_D 3 M_X1_pourLine 10 13 (.invokevirtual 81) := ⟨by decide +kernel, rfl⟩
theorem e_X1_pourLine_13 : z_J M_X1_pourLine 13 16 99 (86) (.ifCond .eq 86) := ⟨by decide +kernel, rfl, rfl⟩
theorem e_X1_pourLine_16 : z_D 1 M_X1_pourLine 16 17 (.aload_n 0) := ⟨by decide +kernel, rfl⟩
theorem e_X1_pourLine_17 : z_D 3 M_X1_pourLine 17 20 (.getfield 46) := ⟨by decide +kernel, rfl⟩
theorem e_X1_pourLine_20 : z_J M_X1_pourLine 20 23 63 (43) (.ifCond .eq 43) := ⟨by decide +kernel, rfl, rfl⟩
theorem e_X1_pourLine_23 : z_D 1 M_X1_pourLine 23 24 (.iload_n 2) := ⟨by decide +kernel, rfl⟩
theorem e_X1_pourLine_24 : z_D 1 M_X1_pourLine 24 25 (.aload_n 0) := ⟨by decide +kernel, rfl⟩
theorem e_X1_pourLine_25 : z_D 3 M_X1_pourLine 25 28 (.getfield 37) := ⟨by decide +kernel, rfl⟩
theorem e_X1_pourLine_28 : z_D 1 M_X1_pourLine 28 29 (.iadd) := ⟨by decide +kernel, rfl⟩
theorem e_X1_pourLine_29 : z_D 1 M_X1_pourLine 29 30 (.iconst 1) := ⟨by decide +kernel, rfl⟩
theorem e_X1_pourLine_30 : z_D 1 M_X1_pourLine 30 31 (.isub) := ⟨by decide +kernel, rfl⟩
theorem e_X1_pourLine_31 : z_J M_X1_pourLine 31 34 63 (32) (.ifCond .lt 32) := ⟨by decide +kernel, rfl, rfl⟩
theorem e_X1_pourLine_34 : z_D 1 M_X1_pourLine 34 35 (.aload_n 1) := ⟨by decide +kernel, rfl⟩
theorem e_X1_pourLine_35 : z_D 1 M_X1_pourLine 35 36 (.iload_n 2) := ⟨by decide +kernel, rfl⟩
theorem e_X1_pourLine_36 : z_D 1 M_X1_pourLine 36 37 (.aload_n 0) := ⟨by decide +kernel, rfl⟩
theorem e_X1_pourLine_37 : z_D 3 M_X1_pourLine 37 40 (.getfield 37) := ⟨by decide +kernel, rfl⟩
theorem e_X1_pourLine_40 : z_D 1 M_X1_pourLine 40 41 (.iadd) := ⟨by decide +kernel, rfl⟩
theorem e_X1_pourLine_41 : z_D 1 M_X1_pourLine 41 42 (.iconst 1) := ⟨by decide +kernel, rfl⟩
theorem e_X1_pourLine_42 : z_D 1 M_X1_pourLine 42 43 (.isub) := ⟨by decide +kernel, rfl⟩
theorem e_X1_pourLine_43 : z_D 3 M_X1_pourLine 43 46 (.invokevirtual 59) := ⟨by decide +kernel, rfl⟩
theorem e_X1_pourLine_46 : z_D 2 M_X1_pourLine 46 48 (.astore 4) := ⟨by decide +kernel, rfl⟩
theorem e_X1_pourLine_48 : z_D 2 M_X1_pourLine 48 50 (.aload 4) := ⟨by decide +kernel, rfl⟩
theorem e_X1_pourLine_50 : z_D 1 M_X1_pourLine 50 51 (.iconst 1) := ⟨by decide +kernel, rfl⟩
theorem e_X1_pourLine_51 : z_D 3 M_X1_pourLine 51 54 (.putfield 145) := ⟨by decide +kernel, rfl⟩
theorem e_X1_pourLine_54 : z_D 2 M_X1_pourLine 54 56 (.aload 4) := ⟨by decide +kernel, rfl⟩
theorem e_X1_pourLine_56 : z_D 1 M_X1_pourLine 56 57 (.aload_n 0) := ⟨by decide +kernel, rfl⟩
theorem e_X1_pourLine_57 : z_D 3 M_X1_pourLine 57 60 (.getfield 50) := ⟨by decide +kernel, rfl⟩
theorem e_X1_pourLine_60 : z_D 3 M_X1_pourLine 60 63 (.putfield 148) := ⟨by decide +kernel, rfl⟩
theorem e_X1_pourLine_63 : z_D 1 M_X1_pourLine 63 64 (.iload_n 2) := ⟨by decide +kernel, rfl⟩
theorem e_X1_pourLine_64 : z_D 1 M_X1_pourLine 64 65 (.aload_n 0) := ⟨by decide +kernel, rfl⟩
theorem e_X1_pourLine_65 : z_D 3 M_X1_pourLine 65 68 (.getfield 37) := ⟨by decide +kernel, rfl⟩
theorem e_X1_pourLine_68 : z_D 1 M_X1_pourLine 68 69 (.iadd) := ⟨by decide +kernel, rfl⟩
theorem e_X1_pourLine_69 : z_J M_X1_pourLine 69 72 93 (24) (.ifCond .lt 24) := ⟨by decide +kernel, rfl, rfl⟩
theorem e_X1_pourLine_72 : z_D 1 M_X1_pourLine 72 73 (.aload_n 1) := ⟨by decide +kernel, rfl⟩
theorem e_X1_pourLine_73 : z_D 1 M_X1_pourLine 73 74 (.iload_n 2) := ⟨by decide +kernel, rfl⟩
theorem e_X1_pourLine_74 : z_D 1 M_X1_pourLine 74 75 (.aload_n 0) := ⟨by decide +kernel, rfl⟩
theorem e_X1_pourLine_75 : z_D 3 M_X1_pourLine 75 78 (.getfield 37) := ⟨by decide +kernel, rfl⟩
theorem e_X1_pourLine_78 : z_D 1 M_X1_pourLine 78 79 (.iadd) := ⟨by decide +kernel, rfl⟩
theorem e_X1_pourLine_79 : z_D 3 M_X1_pourLine 79 82 (.invokevirtual 59) := ⟨by decide +kernel, rfl⟩
theorem e_X1_pourLine_82 : z_D 1 M_X1_pourLine 82 83 (.aload_n 0) := ⟨by decide +kernel, rfl⟩
theorem e_X1_pourLine_83 : z_D 3 M_X1_pourLine 83 86 (.getfield 40) := ⟨by decide +kernel, rfl⟩
theorem e_X1_pourLine_86 : z_D 1 M_X1_pourLine 86 87 (.aload_n 0) := ⟨by decide +kernel, rfl⟩
theorem e_X1_pourLine_87 : z_D 3 M_X1_pourLine 87 90 (.getfield 31) := ⟨by decide +kernel, rfl⟩
theorem e_X1_pourLine_90 : z_D 3 M_X1_pourLine 90 93 (.invokevirtual 151) := ⟨by decide +kernel, rfl⟩
theorem e_X1_pourLine_93 : z_D 3 M_X1_pourLine 93 96 (.iinc 3 1) := ⟨by decide +kernel, rfl⟩
theorem e_X1_pourLine_96 : z_J M_X1_pourLine 96 99 2 (-94) (.goto (-94)) := ⟨by decide +kernel, rfl, rfl⟩
theorem e_X1_pourLine_99 : z_D 1 M_X1_pourLine 99 100 (.return_) := ⟨by decide +kernel, rfl⟩
theorem e_X1_follow_0 : z_D 1 M_X1_follow 0 1 (.aload_n 1) := ⟨by decide +kernel, rfl⟩
theorem e_X1_follow_1 : z_D 1 M_X1_follow 1 2 (.aload_n 1) := ⟨by decide +kernel, rfl⟩
theorem e_X1_follow_2 : z_D 3 M_X1_follow 2 5 (.getfield 114) := ⟨by decide +kernel, rfl⟩
theorem e_X1_follow_5 : z_D 1 M_X1_follow 5 6 (.aload_n 2) := ⟨by decide +kernel, rfl⟩
theorem e_X1_follow_6 : z_D 3 M_X1_follow 6 9 (.getfield 154) := ⟨by decide +kernel, rfl⟩
theorem e_X1_follow_9 : z_D 1 M_X1_follow 9 10 (.iadd) := ⟨by decide +kernel, rfl⟩
theorem e_X1_follow_10 : z_D 3 M_X1_follow 10 13 (.invokevirtual 155) := ⟨by decide +kernel, rfl⟩
theorem e_X1_follow_13 : z_D 2 M_X1_follow 13 15 (.istore 6) := ⟨by decide +kernel, rfl⟩
theorem e_X1_follow_15 : z_D 1 M_X1_follow 15 16 (.aload_n 1) := ⟨by decide +kernel, rfl⟩
theorem e_X1_follow_16 : z_D 1 M_X1_follow 16 17 (.aload_n 2) := ⟨by decide +kernel, rfl⟩
theorem e_X1_follow_17 : z_D 3 M_X1_follow 17 20 (.invokevirtual 158) := ⟨by decide +kernel, rfl⟩
theorem e_X1_follow_20 : z_D 2 M_X1_follow 20 22 (.istore 7) := ⟨by decide +kernel, rfl⟩
theorem e_X1_follow_22 : z_D 2 M_X1_follow 22 24 (.iload 5) := ⟨by decide +kernel, rfl⟩
theorem e_X1_follow_24 : z_D 1 M_X1_follow 24 25 (.aload_n 0) := ⟨by decide +kernel, rfl⟩
theorem e_X1_follow_25 : z_D 1 M_X1_follow 25 26 (.aload_n 1) := ⟨by decide +kernel, rfl⟩
theorem e_X1_follow_26 : z_D 2 M_X1_follow 26 28 (.iload 6) := ⟨by decide +kernel, rfl⟩
theorem e_X1_follow_28 : z_D 1 M_X1_follow 28 29 (.aload_n 3) := ⟨by decide +kernel, rfl⟩
theorem e_X1_follow_29 : z_D 3 M_X1_follow 29 32 (.getfield 72) := ⟨by decide +kernel, rfl⟩
theorem e_X1_follow_32 : z_D 3 M_X1_follow 32 35 (.invokevirtual 93) := ⟨by decide +kernel, rfl⟩
theorem e_X1_follow_35 : z_D 1 M_X1_follow 35 36 (.iadd) := ⟨by decide +kernel, rfl⟩
theorem e_X1_follow_36 : z_D 2 M_X1_follow 36 38 (.istore 8) := ⟨by decide +kernel, rfl⟩
theorem e_X1_follow_38 : z_D 1 M_X1_follow 38 39 (.aload_n 0) := ⟨by decide +kernel, rfl⟩
theorem e_X1_follow_39 : z_D 1 M_X1_follow 39 40 (.aload_n 1) := ⟨by decide +kernel, rfl⟩
theorem e_X1_follow_40 : z_D 2 M_X1_follow 40 42 (.iload 6) := ⟨by decide +kernel, rfl⟩
theorem e_X1_follow_42 : z_D 1 M_X1_follow 42 43 (.aload_n 1) := ⟨by decide +kernel, rfl⟩
theorem e_X1_follow_43 : z_D 2 M_X1_follow 43 45 (.iload 6) := ⟨by decide +kernel, rfl⟩
theorem e_X1_follow_45 : z_D 3 M_X1_follow 45 48 (.invokevirtual 162) := ⟨by decide +kernel, rfl⟩
theorem e_X1_follow_48 : z_D 1 M_X1_follow 48 49 (.aload_n 3) := ⟨by decide +kernel, rfl⟩
theorem e_X1_follow_49 : z_D 3 M_X1_follow 49 52 (.getfield 72) := ⟨by decide +kernel, rfl⟩
theorem e_X1_follow_52 : z_D 3 M_X1_follow 52 55 (.invokevirtual 73) := ⟨by decide +kernel, rfl⟩
theorem e_X1_follow_55 : z_D 1 M_X1_follow 55 56 (.aload_n 0) := ⟨by decide +kernel, rfl⟩
theorem e_X1_follow_56 : z_D 2 M_X1_follow 56 58 (.iload 7) := ⟨by decide +kernel, rfl⟩
theorem e_X1_follow_58 : z_D 3 M_X1_follow 58 61 (.invokevirtual 77) := ⟨by decide +kernel, rfl⟩
theorem e_X1_follow_61 : z_D 2 M_X1_follow 61 63 (.istore 9) := ⟨by decide +kernel, rfl⟩
theorem e_X1_follow_63 : z_D 2 M_X1_follow 63 65 (.iload 8) := ⟨by decide +kernel, rfl⟩
theorem e_X1_follow_65 : z_D 1 M_X1_follow 65 66 (.aload_n 0) := ⟨by decide +kernel, rfl⟩
theorem e_X1_follow_66 : z_D 3 M_X1_follow 66 69 (.getfield 37) := ⟨by decide +kernel, rfl⟩
theorem e_X1_follow_69 : z_D 1 M_X1_follow 69 70 (.iadd) := ⟨by decide +kernel, rfl⟩
theorem e_X1_follow_70 : z_D 2 M_X1_follow 70 72 (.istore 8) := ⟨by decide +kernel, rfl⟩
theorem e_X1_follow_72 : z_D 2 M_X1_follow 72 74 (.iload 8) := ⟨by decide +kernel, rfl⟩
theorem e_X1_follow_74 : z_D 1 M_X1_follow 74 75 (.aload_n 3) := ⟨by decide +kernel, rfl⟩
theorem e_X1_follow_75 : z_D 3 M_X1_follow 75 78 (.getfield 114) := ⟨by decide +kernel, rfl⟩
theorem e_X1_follow_78 : z_J M_X1_follow 78 81 89 (11) (.if_icmp .ge 11) := ⟨by decide +kernel, rfl, rfl⟩
theorem e_X1_follow_81 : z_D 2 M_X1_follow 81 83 (.aload 4) := ⟨by decide +kernel, rfl⟩
theorem e_X1_follow_83 : z_D 1 M_X1_follow 83 84 (.iconst 0) := ⟨by decide +kernel, rfl⟩
theorem e_X1_follow_84 : z_D 1 M_X1_follow 84 85 (.iconst 0) := ⟨by decide +kernel, rfl⟩
theorem e_X1_follow_85 : z_D 3 M_X1_follow 85 88 (.invokevirtual 165) := ⟨by decide +kernel, rfl⟩
theorem e_X1_follow_88 : z_D 1 M_X1_follow 88 89 (.return_) := ⟨by decide +kernel, rfl⟩
theorem e_X1_follow_89 : z_D 2 M_X1_follow 89 91 (.iload 9) := ⟨by decide +kernel, rfl⟩
theorem e_X1_follow_91 : z_J M_X1_follow 91 94 101 (10) (.ifCond .eq 10) := ⟨by decide +kernel, rfl, rfl⟩
theorem e_X1_follow_94 : z_D 1 M_X1_follow 94 95 (.aload_n 0) := ⟨by decide +kernel, rfl⟩
theorem e_X1_follow_95 : z_D 3 M_X1_follow 95 98 (.getfield 40) := ⟨by decide +kernel, rfl⟩
theorem e_X1_follow_98 : z_J M_X1_follow 98 101 113 (15) (.goto 15) := ⟨by decide +kernel, rfl, rfl⟩
theorem e_X1_follow_101 : z_D 1 M_X1_follow 101 102 (.aload_n 0) := ⟨by decide +kernel, rfl⟩
theorem e_X1_follow_102 : z_D 3 M_X1_follow 102 105 (.getfield 43) := ⟨by decide +kernel, rfl⟩
theorem e_X1_follow_105 : z_D 2 M_X1_follow 105 107 (.iload 7) := ⟨by decide +kernel, rfl⟩
theorem e_X1_follow_107 : z_D 1 M_X1_follow 107 108 (.iadd) := ⟨by decide +kernel, rfl⟩
theorem e_X1_follow_108 : z_D 1 M_X1_follow 108 109 (.aload_n 0) := ⟨by decide +kernel, rfl⟩
theorem e_X1_follow_109 : z_D 3 M_X1_follow 109 112 (.getfield 34) := ⟨by decide +kernel, rfl⟩
theorem e_X1_follow_112 : z_D 1 M_X1_follow 112 113 (.isub) := ⟨by decide +kernel, rfl⟩
theorem e_X1_follow_113 : z_D 2 M_X1_follow 113 115 (.istore 10) := ⟨by decide +kernel, rfl⟩
theorem e_X1_follow_115 : z_D 2 M_X1_follow 115 117 (.aload 4) := ⟨by decide +kernel, rfl⟩
theorem e_X1_follow_117 : z_D 2 M_X1_follow 117 119 (.iload 8) := ⟨by decide +kernel, rfl⟩
theorem e_X1_follow_119 : z_D 1 M_X1_follow 119 120 (.aload_n 3) := ⟨by decide +kernel, rfl⟩
theorem e_X1_follow_120 : z_D 3 M_X1_follow 120 123 (.getfield 114) := ⟨by decide +kernel, rfl⟩
theorem e_X1_follow_123 : z_D 1 M_X1_follow 123 124 (.isub) := ⟨by decide +kernel, rfl⟩
theorem e_X1_follow_124 : z_D 1 M_X1_follow 124 125 (.aload_n 3) := ⟨by decide +kernel, rfl⟩
theorem e_X1_follow_125 : z_D 3 M_X1_follow 125 128 (.getfield 72) := ⟨by decide +kernel, rfl⟩
theorem e_X1_follow_128 : z_D 1 M_X1_follow 128 129 (.iconst 1) := ⟨by decide +kernel, rfl⟩
theorem e_X1_follow_129 : z_D 1 M_X1_follow 129 130 (.isub) := ⟨by decide +kernel, rfl⟩
theorem e_X1_follow_130 : z_D 2 M_X1_follow 130 132 (.iload 10) := ⟨by decide +kernel, rfl⟩
theorem e_X1_follow_132 : z_D 3 M_X1_follow 132 135 (.invokestatic 111) := ⟨by decide +kernel, rfl⟩
theorem e_X1_follow_135 : z_D 3 M_X1_follow 135 138 (.invokevirtual 165) := ⟨by decide +kernel, rfl⟩
theorem e_X1_follow_138 : z_D 2 M_X1_follow 138 140 (.aload 4) := ⟨by decide +kernel, rfl⟩
theorem e_X1_follow_140 : z_D 2 M_X1_follow 140 142 (.iload 9) := ⟨by decide +kernel, rfl⟩
theorem e_X1_follow_142 : z_J M_X1_follow 142 145 176 (34) (.ifCond .ne 34) := ⟨by decide +kernel, rfl, rfl⟩
theorem e_X1_follow_145 : z_D 2 M_X1_follow 145 147 (.iload 7) := ⟨by decide +kernel, rfl⟩
theorem e_X1_follow_147 : z_D 1 M_X1_follow 147 148 (.aload_n 0) := ⟨by decide +kernel, rfl⟩
theorem e_X1_follow_148 : z_D 3 M_X1_follow 148 151 (.getfield 34) := ⟨by decide +kernel, rfl⟩
theorem e_X1_follow_151 : z_J M_X1_follow 151 154 176 (25) (.if_icmp .ne 25) := ⟨by decide +kernel, rfl, rfl⟩
theorem e_X1_follow_154 : z_D 1 M_X1_follow 154 155 (.aload_n 0) := ⟨by decide +kernel, rfl⟩
theorem e_X1_follow_155 : z_D 3 M_X1_follow 155 158 (.getfield 34) := ⟨by decide +kernel, rfl⟩
theorem e_X1_follow_158 : z_J M_X1_follow 158 161 176 (18) (.ifCond .le 18) := ⟨by decide +kernel, rfl, rfl⟩
theorem e_X1_follow_161 : z_D 1 M_X1_follow 161 162 (.aload_n 0) := ⟨by decide +kernel, rfl⟩
theorem e_X1_follow_162 : z_D 3 M_X1_follow 162 165 (.getfield 43) := ⟨by decide +kernel, rfl⟩
theorem e_X1_follow_165 : z_D 1 M_X1_follow 165 166 (.aload_n 3) := ⟨by decide +kernel, rfl⟩
theorem e_X1_follow_166 : z_D 3 M_X1_follow 166 169 (.getfield 72) := ⟨by decide +kernel, rfl⟩
theorem e_X1_follow_169 : z_J M_X1_follow 169 172 176 (7) (.if_icmp .ne 7) := ⟨by decide +kernel, rfl, rfl⟩
theorem e_X1_follow_172 : z_D 1 M_X1_follow 172 173 (.iconst 1) := ⟨by decide +kernel, rfl⟩
theorem e_X1_follow_173 : z_J M_X1_follow 173 176 177 (4) (.goto 4) := ⟨by decide +kernel, rfl, rfl⟩
theorem e_X1_follow_176 : z_D 1 M_X1_follow 176 177 (.iconst 0) := ⟨by decide +kernel, rfl⟩
theorem e_X1_follow_177 : z_D 3 M_X1_follow 177 180 (.putfield 136) := ⟨by decide +kernel, rfl⟩
theorem e_X1_follow_180 : z_D 1 M_X1_follow 180 181 (.return_) := ⟨by decide +kernel, rfl⟩
theorem e_X2_init_0 : z_D 1 M_X2_init 0 1 (.aload_n 0) := ⟨by decide +kernel, rfl⟩
theorem e_X2_init_1 : z_D 3 M_X2_init 1 4 (.invokespecial 3) := ⟨by decide +kernel, rfl⟩
theorem e_X2_init_4 : z_D 1 M_X2_init 4 5 (.aload_n 0) := ⟨by decide +kernel, rfl⟩
theorem e_X2_init_5 : z_D 2 M_X2_init 5 7 (.bipush 20) := ⟨by decide +kernel, rfl⟩
theorem e_X2_init_7 : z_D 2 M_X2_init 7 9 (.newarray .int) := ⟨by decide +kernel, rfl⟩
theorem e_X2_init_9 : z_D 3 M_X2_init 9 12 (.putfield 9) := ⟨by decide +kernel, rfl⟩
theorem e_X2_init_12 : z_D 1 M_X2_init 12 13 (.aload_n 0) := ⟨by decide +kernel, rfl⟩
theorem e_X2_init_13 : z_D 3 M_X2_init 13 16 (.invokevirtual 15) := ⟨by decide +kernel, rfl⟩
theorem e_X2_init_16 : z_D 1 M_X2_init 16 17 (.return_) := ⟨by decide +kernel, rfl⟩
theorem e_X2_at_0 : z_D 1 M_X2_at 0 1 (.iload_n 1) := ⟨by decide +kernel, rfl⟩
theorem e_X2_at_1 : z_J M_X2_at 1 4 22 (21) (.ifCond .lt 21) := ⟨by decide +kernel, rfl, rfl⟩
theorem e_X2_at_4 : z_D 1 M_X2_at 4 5 (.iload_n 1) := ⟨by decide +kernel, rfl⟩
theorem e_X2_at_5 : z_D 1 M_X2_at 5 6 (.aload_n 0) := ⟨by decide +kernel, rfl⟩
theorem e_X2_at_6 : z_D 3 M_X2_at 6 9 (.getfield 9) := ⟨by decide +kernel, rfl⟩
theorem e_X2_at_9 : z_D 1 M_X2_at 9 10 (.arraylength) := ⟨by decide +kernel, rfl⟩
theorem e_X2_at_10 : z_J M_X2_at 10 13 22 (12) (.if_icmp .ge 12) := ⟨by decide +kernel, rfl, rfl⟩
theorem e_X2_at_13 : z_D 1 M_X2_at 13 14 (.aload_n 0) := ⟨by decide +kernel, rfl⟩
theorem e_X2_at_14 : z_D 3 M_X2_at 14 17 (.getfield 9) := ⟨by decide +kernel, rfl⟩
theorem e_X2_at_17 : z_D 1 M_X2_at 17 18 (.iload_n 1) := ⟨by decide +kernel, rfl⟩
theorem e_X2_at_18 : z_D 1 M_X2_at 18 19 (.iaload) := ⟨by decide +kernel, rfl⟩
theorem e_X2_at_19 : z_J M_X2_at 19 22 24 (5) (.goto 5) := ⟨by decide +kernel, rfl, rfl⟩
theorem e_X2_at_22 : z_D 2 M_X2_at 22 24 (.bipush 32) := ⟨by decide +kernel, rfl⟩
theorem e_X2_at_24 : z_D 1 M_X2_at 24 25 (.ireturn) := ⟨by decide +kernel, rfl⟩
theorem e_X2_set_0 : z_D 1 M_X2_set 0 1 (.iload_n 1) := ⟨by decide +kernel, rfl⟩
theorem e_X2_set_1 : z_J M_X2_set 1 4 20 (19) (.ifCond .lt 19) := ⟨by decide +kernel, rfl, rfl⟩
theorem e_X2_set_4 : z_D 1 M_X2_set 4 5 (.iload_n 1) := ⟨by decide +kernel, rfl⟩
theorem e_X2_set_5 : z_D 1 M_X2_set 5 6 (.aload_n 0) := ⟨by decide +kernel, rfl⟩
theorem e_X2_set_6 : z_D 3 M_X2_set 6 9 (.getfield 9) := ⟨by decide +kernel, rfl⟩
theorem e_X2_set_9 : z_D 1 M_X2_set 9 10 (.arraylength) := ⟨by decide +kernel, rfl⟩
theorem e_X2_set_10 : z_J M_X2_set 10 13 20 (10) (.if_icmp .ge 10) := ⟨by decide +kernel, rfl, rfl⟩
theorem e_X2_set_13 : z_D 1 M_X2_set 13 14 (.aload_n 0) := ⟨by decide +kernel, rfl⟩
theorem e_X2_set_14 : z_D 3 M_X2_set 14 17 (.getfield 9) := ⟨by decide +kernel, rfl⟩
theorem e_X2_set_17 : z_D 1 M_X2_set 17 18 (.iload_n 1) := ⟨by decide +kernel, rfl⟩
theorem e_X2_set_18 : z_D 1 M_X2_set 18 19 (.iload_n 2) := ⟨by decide +kernel, rfl⟩
theorem e_X2_set_19 : z_D 1 M_X2_set 19 20 (.iastore) := ⟨by decide +kernel, rfl⟩
theorem e_X2_set_20 : z_D 1 M_X2_set 20 21 (.return_) := ⟨by decide +kernel, rfl⟩
theorem e_X2_clear_0 : z_D 1 M_X2_clear 0 1 (.iconst 0) := ⟨by decide +kernel, rfl⟩
theorem e_X2_clear_1 : z_D 1 M_X2_clear 1 2 (.istore_n 1) := ⟨by decide +kernel, rfl⟩
theorem e_X2_clear_2 : z_D 1 M_X2_clear 2 3 (.iload_n 1) := ⟨by decide +kernel, rfl⟩
theorem e_X2_clear_3 : z_D 1 M_X2_clear 3 4 (.aload_n 0) := ⟨by decide +kernel, rfl⟩
theorem e_X2_clear_4 : z_D 3 M_X2_clear 4 7 (.getfield 9) := ⟨by decide +kernel, rfl⟩
theorem e_X2_clear_7 : z_D 1 M_X2_clear 7 8 (.arraylength) := ⟨by decide +kernel, rfl⟩
theorem e_X2_clear_8 : z_J M_X2_clear 8 11 25 (17) (.if_icmp .ge 17) := ⟨by decide +kernel, rfl, rfl⟩
theorem e_X2_clear_11 : z_D 1 M_X2_clear 11 12 (.aload_n 0) := ⟨by decide +kernel, rfl⟩
theorem e_X2_clear_12 : z_D 3 M_X2_clear 12 15 (.getfield 9) := ⟨by decide +kernel, rfl⟩
theorem e_X2_clear_15 : z_D 1 M_X2_clear 15 16 (.iload_n 1) := ⟨by decide +kernel, rfl⟩
theorem e_X2_clear_16 : z_D 2 M_X2_clear 16 18 (.bipush 32) := ⟨by decide +kernel, rfl⟩
theorem e_X2_clear_18 : z_D 1 M_X2_clear 18 19 (.iastore) := ⟨by decide +kernel, rfl⟩
theorem e_X2_clear_19 : z_D 3 M_X2_clear 19 22 (.iinc 1 1) := ⟨by decide +kernel, rfl⟩
theorem e_X2_clear_22 : z_J M_X2_clear 22 25 2 (-20) (.goto (-20)) := ⟨by decide +kernel, rfl, rfl⟩
theorem e_X2_clear_25 : z_D 1 M_X2_clear 25 26 (.aload_n 0) := ⟨by decide +kernel, rfl⟩
theorem e_X2_clear_26 : z_D 1 M_X2_clear 26 27 (.iconst 0) := ⟨by decide +kernel, rfl⟩
theorem e_X2_clear_27 : z_D 3 M_X2_clear 27 30 (.putfield 18) := ⟨by decide +kernel, rfl⟩
theorem e_X2_clear_30 : z_D 1 M_X2_clear 30 31 (.aload_n 0) := ⟨by decide +kernel, rfl⟩
theorem e_X2_clear_31 : z_D 1 M_X2_clear 31 32 (.iconst 0) := ⟨by decide +kernel, rfl⟩
theorem e_X2_clear_32 : z_D 3 M_X2_clear 32 35 (.putfield 22) := ⟨by decide +kernel, rfl⟩
theorem e_X2_clear_35 : z_D 1 M_X2_clear 35 36 (.return_) := ⟨by decide +kernel, rfl⟩
theorem e_X2_unmark_0 : z_D 1 M_X2_unmark 0 1 (.aload_n 0) := ⟨by decide +kernel, rfl⟩
theorem e_X2_unmark_1 : z_D 1 M_X2_unmark 1 2 (.iconst 0) := ⟨by decide +kernel, rfl⟩
theorem e_X2_unmark_2 : z_D 3 M_X2_unmark 2 5 (.putfield 18) := ⟨by decide +kernel, rfl⟩
theorem e_X2_unmark_5 : z_D 1 M_X2_unmark 5 6 (.aload_n 0) := ⟨by decide +kernel, rfl⟩
theorem e_X2_unmark_6 : z_D 1 M_X2_unmark 6 7 (.iconst 0) := ⟨by decide +kernel, rfl⟩
theorem e_X2_unmark_7 : z_D 3 M_X2_unmark 7 10 (.putfield 22) := ⟨by decide +kernel, rfl⟩
theorem e_X2_unmark_10 : z_D 1 M_X2_unmark 10 11 (.return_) := ⟨by decide +kernel, rfl⟩
theorem e_X2_copyFrom_0 : z_D 1 M_X2_copyFrom 0 1 (.aload_n 1) := ⟨by decide +kernel, rfl⟩
theorem e_X2_copyFrom_1 : z_D 3 M_X2_copyFrom 1 4 (.getfield 9) := ⟨by decide +kernel, rfl⟩
theorem e_X2_copyFrom_4 : z_D 1 M_X2_copyFrom 4 5 (.iconst 0) := ⟨by decide +kernel, rfl⟩
theorem e_X2_copyFrom_5 : z_D 1 M_X2_copyFrom 5 6 (.aload_n 0) := ⟨by decide +kernel, rfl⟩
theorem e_X2_copyFrom_6 : z_D 3 M_X2_copyFrom 6 9 (.getfield 9) := ⟨by decide +kernel, rfl⟩
theorem e_X2_copyFrom_9 : z_D 1 M_X2_copyFrom 9 10 (.iconst 0) := ⟨by decide +kernel, rfl⟩
theorem e_X2_copyFrom_10 : z_D 2 M_X2_copyFrom 10 12 (.bipush 20) := ⟨by decide +kernel, rfl⟩
theorem e_X2_copyFrom_12 : z_D 3 M_X2_copyFrom 12 15 (.invokestatic 25) := ⟨by decide +kernel, rfl⟩
theorem e_X2_copyFrom_15 : z_D 1 M_X2_copyFrom 15 16 (.aload_n 0) := ⟨by decide +kernel, rfl⟩
theorem e_X2_copyFrom_16 : z_D 1 M_X2_copyFrom 16 17 (.aload_n 1) := ⟨by decide +kernel, rfl⟩
theorem e_X2_copyFrom_17 : z_D 3 M_X2_copyFrom 17 20 (.getfield 18) := ⟨by decide +kernel, rfl⟩
theorem e_X2_copyFrom_20 : z_D 3 M_X2_copyFrom 20 23 (.putfield 18) := ⟨by decide +kernel, rfl⟩
theorem e_X2_copyFrom_23 : z_D 1 M_X2_copyFrom 23 24 (.aload_n 0) := ⟨by decide +kernel, rfl⟩
theorem e_X2_copyFrom_24 : z_D 1 M_X2_copyFrom 24 25 (.aload_n 1) := ⟨by decide +kernel, rfl⟩
theorem e_X2_copyFrom_25 : z_D 3 M_X2_copyFrom 25 28 (.getfield 22) := ⟨by decide +kernel, rfl⟩
theorem e_X2_copyFrom_28 : z_D 3 M_X2_copyFrom 28 31 (.putfield 22) := ⟨by decide +kernel, rfl⟩
theorem e_X2_copyFrom_31 : z_D 1 M_X2_copyFrom 31 32 (.return_) := ⟨by decide +kernel, rfl⟩
theorem e_X2_taken_0 : z_D 1 M_X2_taken 0 1 (.iconst 0) := ⟨by decide +kernel, rfl⟩
theorem e_X2_taken_1 : z_D 1 M_X2_taken 1 2 (.istore_n 1) := ⟨by decide +kernel, rfl⟩
theorem e_X2_taken_2 : z_D 1 M_X2_taken 2 3 (.aload_n 0) := ⟨by decide +kernel, rfl⟩
theorem e_X2_taken_3 : z_D 3 M_X2_taken 3 6 (.getfield 9) := ⟨by decide +kernel, rfl⟩
theorem e_X2_taken_6 : z_D 1 M_X2_taken 6 7 (.astore_n 2) := ⟨by decide +kernel, rfl⟩
theorem e_X2_taken_7 : z_D 1 M_X2_taken 7 8 (.aload_n 2) := ⟨by decide +kernel, rfl⟩
theorem e_X2_taken_8 : z_D 1 M_X2_taken 8 9 (.arraylength) := ⟨by decide +kernel, rfl⟩
theorem e_X2_taken_9 : z_D 1 M_X2_taken 9 10 (.istore_n 3) := ⟨by decide +kernel, rfl⟩
theorem e_X2_taken_10 : z_D 1 M_X2_taken 10 11 (.iconst 0) := ⟨by decide +kernel, rfl⟩
theorem e_X2_taken_11 : z_D 2 M_X2_taken 11 13 (.istore 4) := ⟨by decide +kernel, rfl⟩
theorem e_X2_taken_13 : z_D 2 M_X2_taken 13 15 (.iload 4) := ⟨by decide +kernel, rfl⟩
theorem e_X2_taken_15 : z_D 1 M_X2_taken 15 16 (.iload_n 3) := ⟨by decide +kernel, rfl⟩
theorem e_X2_taken_16 : z_J M_X2_taken 16 19 46 (30) (.if_icmp .ge 30) := ⟨by decide +kernel, rfl, rfl⟩
theorem e_X2_taken_19 : z_D 1 M_X2_taken 19 20 (.aload_n 2) := ⟨by decide +kernel, rfl⟩
theorem e_X2_taken_20 : z_D 2 M_X2_taken 20 22 (.iload 4) := ⟨by decide +kernel, rfl⟩
theorem e_X2_taken_22 : z_D 1 M_X2_taken 22 23 (.iaload) := ⟨by decide +kernel, rfl⟩
theorem e_X2_taken_23 : z_D 2 M_X2_taken 23 25 (.istore 5) := ⟨by decide +kernel, rfl⟩
theorem e_X2_taken_25 : z_D 1 M_X2_taken 25 26 (.iload_n 1) := ⟨by decide +kernel, rfl⟩
theorem e_X2_taken_26 : z_D 2 M_X2_taken 26 28 (.iload 5) := ⟨by decide +kernel, rfl⟩
theorem e_X2_taken_28 : z_D 2 M_X2_taken 28 30 (.bipush 32) := ⟨by decide +kernel, rfl⟩
theorem e_X2_taken_30 : z_J M_X2_taken 30 33 37 (7) (.if_icmp .ne 7) := ⟨by decide +kernel, rfl, rfl⟩
theorem e_X2_taken_33 : z_D 1 M_X2_taken 33 34 (.iconst 0) := ⟨by decide +kernel, rfl⟩
theorem e_X2_taken_34 : z_J M_X2_taken 34 37 38 (4) (.goto 4) := ⟨by decide +kernel, rfl, rfl⟩
theorem e_X2_taken_37 : z_D 1 M_X2_taken 37 38 (.iconst 1) := ⟨by decide +kernel, rfl⟩
theorem e_X2_taken_38 : z_D 1 M_X2_taken 38 39 (.iadd) := ⟨by decide +kernel, rfl⟩
theorem e_X2_taken_39 : z_D 1 M_X2_taken 39 40 (.istore_n 1) := ⟨by decide +kernel, rfl⟩
theorem e_X2_taken_40 : z_D 3 M_X2_taken 40 43 (.iinc 4 1) := ⟨by decide +kernel, rfl⟩
theorem e_X2_taken_43 : z_J M_X2_taken 43 46 13 (-30) (.goto (-30)) := ⟨by decide +kernel, rfl, rfl⟩
theorem e_X2_taken_46 : z_D 1 M_X2_taken 46 47 (.iload_n 1) := ⟨by decide +kernel, rfl⟩
theorem e_X2_taken_47 : z_D 1 M_X2_taken 47 48 (.ireturn) := ⟨by decide +kernel, rfl⟩
theorem e_X2_filled_0 : z_D 1 M_X2_filled 0 1 (.aload_n 0) := ⟨by decide +kernel, rfl⟩
theorem e_X2_filled_1 : z_D 3 M_X2_filled 1 4 (.getfield 9) := ⟨by decide +kernel, rfl⟩
theorem e_X2_filled_4 : z_D 1 M_X2_filled 4 5 (.arraylength) := ⟨by decide +kernel, rfl⟩
theorem e_X2_filled_5 : z_D 1 M_X2_filled 5 6 (.iconst 1) := ⟨by decide +kernel, rfl⟩
theorem e_X2_filled_6 : z_D 1 M_X2_filled 6 7 (.isub) := ⟨by decide +kernel, rfl⟩
theorem e_X2_filled_7 : z_D 1 M_X2_filled 7 8 (.istore_n 1) := ⟨by decide +kernel, rfl⟩
theorem e_X2_filled_8 : z_D 1 M_X2_filled 8 9 (.iload_n 1) := ⟨by decide +kernel, rfl⟩
theorem e_X2_filled_9 : z_J M_X2_filled 9 12 33 (24) (.ifCond .lt 24) := ⟨by decide +kernel, rfl, rfl⟩
theorem e_X2_filled_12 : z_D 1 M_X2_filled 12 13 (.aload_n 0) := ⟨by decide +kernel, rfl⟩
theorem e_X2_filled_13 : z_D 3 M_X2_filled 13 16 (.getfield 9) := ⟨by decide +kernel, rfl⟩
theorem e_X2_filled_16 : z_D 1 M_X2_filled 16 17 (.iload_n 1) := ⟨by decide +kernel, rfl⟩
theorem e_X2_filled_17 : z_D 1 M_X2_filled 17 18 (.iaload) := ⟨by decide +kernel, rfl⟩
theorem e_X2_filled_18 : z_D 2 M_X2_filled 18 20 (.bipush 32) := ⟨by decide +kernel, rfl⟩
theorem e_X2_filled_20 : z_J M_X2_filled 20 23 27 (7) (.if_icmp .eq 7) := ⟨by decide +kernel, rfl, rfl⟩
theorem e_X2_filled_23 : z_D 1 M_X2_filled 23 24 (.iload_n 1) := ⟨by decide +kernel, rfl⟩
theorem e_X2_filled_24 : z_D 1 M_X2_filled 24 25 (.iconst 1) := ⟨by decide +kernel, rfl⟩
theorem e_X2_filled_25 : z_D 1 M_X2_filled 25 26 (.iadd) := ⟨by decide +kernel, rfl⟩
theorem e_X2_filled_26 : z_D 1 M_X2_filled 26 27 (.ireturn) := ⟨by decide +kernel, rfl⟩
theorem e_X2_filled_27 : z_D 3 M_X2_filled 27 30 (.iinc 1 (-1)) := ⟨by decide +kernel, rfl⟩
theorem e_X2_filled_30 : z_J M_X2_filled 30 33 8 (-22) (.goto (-22)) := ⟨by decide +kernel, rfl, rfl⟩
theorem e_X2_filled_33 : z_D 1 M_X2_filled 33 34 (.iconst 0) := ⟨by decide +kernel, rfl⟩
theorem e_X2_filled_34 : z_D 1 M_X2_filled 34 35 (.ireturn) := ⟨by decide +kernel, rfl⟩
theorem e_X2_isBlank_0 : z_D 1 M_X2_isBlank 0 1 (.aload_n 0) := ⟨by decide +kernel, rfl⟩
theorem e_X2_isBlank_1 : z_D 3 M_X2_isBlank 1 4 (.invokevirtual 31) := ⟨by decide +kernel, rfl⟩
theorem e_X2_isBlank_4 : z_J M_X2_isBlank 4 7 11 (7) (.ifCond .ne 7) := ⟨by decide +kernel, rfl, rfl⟩
theorem e_X2_isBlank_7 : z_D 1 M_X2_isBlank 7 8 (.iconst 1) := ⟨by decide +kernel, rfl⟩
theorem e_X2_isBlank_8 : z_J M_X2_isBlank 8 11 12 (4) (.goto 4) := ⟨by decide +kernel, rfl, rfl⟩
theorem e_X2_isBlank_11 : z_D 1 M_X2_isBlank 11 12 (.iconst 0) := ⟨by decide +kernel, rfl⟩
theorem e_X2_isBlank_12 : z_D 1 M_X2_isBlank 12 13 (.ireturn) := ⟨by decide +kernel, rfl⟩
theorem e_X2_signs_0 : z_D 1 M_X2_signs 0 1 (.iconst 0) := ⟨by decide +kernel, rfl⟩
theorem e_X2_signs_1 : z_D 1 M_X2_signs 1 2 (.istore_n 1) := ⟨by decide +kernel, rfl⟩
theorem e_X2_signs_2 : z_D 1 M_X2_signs 2 3 (.aload_n 0) := ⟨by decide +kernel, rfl⟩
theorem e_X2_signs_3 : z_D 3 M_X2_signs 3 6 (.getfield 9) := ⟨by decide +kernel, rfl⟩
theorem e_X2_signs_6 : z_D 1 M_X2_signs 6 7 (.astore_n 2) := ⟨by decide +kernel, rfl⟩
theorem e_X2_signs_7 : z_D 1 M_X2_signs 7 8 (.aload_n 2) := ⟨by decide +kernel, rfl⟩
theorem e_X2_signs_8 : z_D 1 M_X2_signs 8 9 (.arraylength) := ⟨by decide +kernel, rfl⟩
theorem e_X2_signs_9 : z_D 1 M_X2_signs 9 10 (.istore_n 3) := ⟨by decide +kernel, rfl⟩
theorem e_X2_signs_10 : z_D 1 M_X2_signs 10 11 (.iconst 0) := ⟨by decide +kernel, rfl⟩
theorem e_X2_signs_11 : z_D 2 M_X2_signs 11 13 (.istore 4) := ⟨by decide +kernel, rfl⟩
theorem e_X2_signs_13 : z_D 2 M_X2_signs 13 15 (.iload 4) := ⟨by decide +kernel, rfl⟩
theorem e_X2_signs_15 : z_D 1 M_X2_signs 15 16 (.iload_n 3) := ⟨by decide +kernel, rfl⟩
theorem e_X2_signs_16 : z_J M_X2_signs 16 19 46 (30) (.if_icmp .ge 30) := ⟨by decide +kernel, rfl, rfl⟩
theorem e_X2_signs_19 : z_D 1 M_X2_signs 19 20 (.aload_n 2) := ⟨by decide +kernel, rfl⟩
theorem e_X2_signs_20 : z_D 2 M_X2_signs 20 22 (.iload 4) := ⟨by decide +kernel, rfl⟩
theorem e_X2_signs_22 : z_D 1 M_X2_signs 22 23 (.iaload) := ⟨by decide +kernel, rfl⟩
theorem e_X2_signs_23 : z_D 2 M_X2_signs 23 25 (.istore 5) := ⟨by decide +kernel, rfl⟩
theorem e_X2_signs_25 : z_D 1 M_X2_signs 25 26 (.iload_n 1) := ⟨by decide +kernel, rfl⟩
theorem e_X2_signs_26 : z_D 2 M_X2_signs 26 28 (.iload 5) := ⟨by decide +kernel, rfl⟩
theorem e_X2_signs_28 : z_D 2 M_X2_signs 28 30 (.bipush 33) := ⟨by decide +kernel, rfl⟩
theorem e_X2_signs_30 : z_J M_X2_signs 30 33 37 (7) (.if_icmp .lt 7) := ⟨by decide +kernel, rfl, rfl⟩
theorem e_X2_signs_33 : z_D 1 M_X2_signs 33 34 (.iconst 1) := ⟨by decide +kernel, rfl⟩
theorem e_X2_signs_34 : z_J M_X2_signs 34 37 38 (4) (.goto 4) := ⟨by decide +kernel, rfl, rfl⟩
theorem e_X2_signs_37 : z_D 1 M_X2_signs 37 38 (.iconst 0) := ⟨by decide +kernel, rfl⟩
theorem e_X2_signs_38 : z_D 1 M_X2_signs 38 39 (.iadd) := ⟨by decide +kernel, rfl⟩
theorem e_X2_signs_39 : z_D 1 M_X2_signs 39 40 (.istore_n 1) := ⟨by decide +kernel, rfl⟩
theorem e_X2_signs_40 : z_D 3 M_X2_signs 40 43 (.iinc 4 1) := ⟨by decide +kernel, rfl⟩
theorem e_X2_signs_43 : z_J M_X2_signs 43 46 13 (-30) (.goto (-30)) := ⟨by decide +kernel, rfl, rfl⟩
theorem e_X2_signs_46 : z_D 1 M_X2_signs 46 47 (.iload_n 1) := ⟨by decide +kernel, rfl⟩
theorem e_X2_signs_47 : z_D 1 M_X2_signs 47 48 (.ireturn) := ⟨by decide +kernel, rfl⟩
theorem e_X2_signsBefore_0 : z_D 1 M_X2_signsBefore 0 1 (.iconst 0) := ⟨by decide +kernel, rfl⟩
theorem e_X2_signsBefore_1 : z_D 1 M_X2_signsBefore 1 2 (.istore_n 2) := ⟨by decide +kernel, rfl⟩
theorem e_X2_signsBefore_2 : z_D 1 M_X2_signsBefore 2 3 (.iconst 0) := ⟨by decide +kernel, rfl⟩
theorem e_X2_signsBefore_3 : z_D 1 M_X2_signsBefore 3 4 (.istore_n 3) := ⟨by decide +kernel, rfl⟩
theorem e_X2_signsBefore_4 : z_D 1 M_X2_signsBefore 4 5 (.iload_n 3) := ⟨by decide +kernel, rfl⟩
theorem e_X2_signsBefore_5 : z_D 1 M_X2_signsBefore 5 6 (.iload_n 1) := ⟨by decide +kernel, rfl⟩
theorem e_X2_signsBefore_6 : z_J M_X2_signsBefore 6 9 43 (37) (.if_icmp .ge 37) := ⟨by decide +kernel, rfl, rfl⟩
theorem e_X2_signsBefore_9 : z_D 1 M_X2_signsBefore 9 10 (.iload_n 3) := ⟨by decide +kernel, rfl⟩
theorem e_X2_signsBefore_10 : z_D 1 M_X2_signsBefore 10 11 (.aload_n 0) := ⟨by decide +kernel, rfl⟩
theorem e_X2_signsBefore_11 : z_D 3 M_X2_signsBefore 11 14 (.getfield 9) := ⟨by decide +kernel, rfl⟩
theorem e_X2_signsBefore_14 : z_D 1 M_X2_signsBefore 14 15 (.arraylength) := ⟨by decide +kernel, rfl⟩
theorem e_X2_signsBefore_15 : z_J M_X2_signsBefore 15 18 43 (28) (.if_icmp .ge 28) := ⟨by decide +kernel, rfl, rfl⟩
theorem e_X2_signsBefore_18 : z_D 1 M_X2_signsBefore 18 19 (.iload_n 2) := ⟨by decide +kernel, rfl⟩
theorem e_X2_signsBefore_19 : z_D 1 M_X2_signsBefore 19 20 (.aload_n 0) := ⟨by decide +kernel, rfl⟩
theorem e_X2_signsBefore_20 : z_D 3 M_X2_signsBefore 20 23 (.getfield 9) := ⟨by decide +kernel, rfl⟩
theorem e_X2_signsBefore_23 : z_D 1 M_X2_signsBefore 23 24 (.iload_n 3) := ⟨by decide +kernel, rfl⟩
theorem e_X2_signsBefore_24 : z_D 1 M_X2_signsBefore 24 25 (.iaload) := ⟨by decide +kernel, rfl⟩
theorem e_X2_signsBefore_25 : z_D 2 M_X2_signsBefore 25 27 (.bipush 32) := ⟨by decide +kernel, rfl⟩
theorem e_X2_signsBefore_27 : z_J M_X2_signsBefore 27 30 34 (7) (.if_icmp .lt 7) := ⟨by decide +kernel, rfl, rfl⟩
theorem e_X2_signsBefore_30 : z_D 1 M_X2_signsBefore 30 31 (.iconst 1) := ⟨by decide +kernel, rfl⟩
theorem e_X2_signsBefore_31 : z_J M_X2_signsBefore 31 34 35 (4) (.goto 4) := ⟨by decide +kernel, rfl, rfl⟩
theorem e_X2_signsBefore_34 : z_D 1 M_X2_signsBefore 34 35 (.iconst 0) := ⟨by decide +kernel, rfl⟩
theorem e_X2_signsBefore_35 : z_D 1 M_X2_signsBefore 35 36 (.iadd) := ⟨by decide +kernel, rfl⟩
theorem e_X2_signsBefore_36 : z_D 1 M_X2_signsBefore 36 37 (.istore_n 2) := ⟨by decide +kernel, rfl⟩
theorem e_X2_signsBefore_37 : z_D 3 M_X2_signsBefore 37 40 (.iinc 3 1) := ⟨by decide +kernel, rfl⟩
theorem e_X2_signsBefore_40 : z_J M_X2_signsBefore 40 43 4 (-36) (.goto (-36)) := ⟨by decide +kernel, rfl, rfl⟩
theorem e_X2_signsBefore_43 : z_D 1 M_X2_signsBefore 43 44 (.iload_n 2) := ⟨by decide +kernel, rfl⟩
theorem e_X2_signsBefore_44 : z_D 1 M_X2_signsBefore 44 45 (.ireturn) := ⟨by decide +kernel, rfl⟩
theorem e_X2_erase_0 : z_D 1 M_X2_erase 0 1 (.aload_n 0) := ⟨by decide +kernel, rfl⟩
theorem e_X2_erase_1 : z_D 1 M_X2_erase 1 2 (.iload_n 1) := ⟨by decide +kernel, rfl⟩
theorem e_X2_erase_2 : z_D 3 M_X2_erase 2 5 (.invokevirtual 35) := ⟨by decide +kernel, rfl⟩
theorem e_X2_erase_5 : z_J M_X2_erase 5 8 14 (9) (.ifCond .ge 9) := ⟨by decide +kernel, rfl, rfl⟩
theorem e_X2_erase_8 : z_D 1 M_X2_erase 8 9 (.iload_n 1) := ⟨by decide +kernel, rfl⟩
theorem e_X2_erase_9 : z_D 1 M_X2_erase 9 10 (.iconst 1) := ⟨by decide +kernel, rfl⟩
theorem e_X2_erase_10 : z_D 1 M_X2_erase 10 11 (.isub) := ⟨by decide +kernel, rfl⟩
theorem e_X2_erase_11 : z_J M_X2_erase 11 14 15 (4) (.goto 4) := ⟨by decide +kernel, rfl, rfl⟩
theorem e_X2_erase_14 : z_D 1 M_X2_erase 14 15 (.iload_n 1) := ⟨by decide +kernel, rfl⟩
theorem e_X2_erase_15 : z_D 2 M_X2_erase 15 17 (.istore 4) := ⟨by decide +kernel, rfl⟩
theorem e_X2_erase_17 : z_D 1 M_X2_erase 17 18 (.aload_n 0) := ⟨by decide +kernel, rfl⟩
theorem e_X2_erase_18 : z_D 1 M_X2_erase 18 19 (.iload_n 2) := ⟨by decide +kernel, rfl⟩
theorem e_X2_erase_19 : z_D 1 M_X2_erase 19 20 (.iconst 1) := ⟨by decide +kernel, rfl⟩
theorem e_X2_erase_20 : z_D 1 M_X2_erase 20 21 (.iadd) := ⟨by decide +kernel, rfl⟩
theorem e_X2_erase_21 : z_D 3 M_X2_erase 21 24 (.invokevirtual 35) := ⟨by decide +kernel, rfl⟩
theorem e_X2_erase_24 : z_J M_X2_erase 24 27 33 (9) (.ifCond .ge 9) := ⟨by decide +kernel, rfl, rfl⟩
theorem e_X2_erase_27 : z_D 1 M_X2_erase 27 28 (.iload_n 2) := ⟨by decide +kernel, rfl⟩
theorem e_X2_erase_28 : z_D 1 M_X2_erase 28 29 (.iconst 1) := ⟨by decide +kernel, rfl⟩
theorem e_X2_erase_29 : z_D 1 M_X2_erase 29 30 (.iadd) := ⟨by decide +kernel, rfl⟩
theorem e_X2_erase_30 : z_J M_X2_erase 30 33 34 (4) (.goto 4) := ⟨by decide +kernel, rfl, rfl⟩
theorem e_X2_erase_33 : z_D 1 M_X2_erase 33 34 (.iload_n 2) := ⟨by decide +kernel, rfl⟩
theorem e_X2_erase_34 : z_D 2 M_X2_erase 34 36 (.istore 5) := ⟨by decide +kernel, rfl⟩
theorem e_X2_erase_36 : z_D 2 M_X2_erase 36 38 (.iload 4) := ⟨by decide +kernel, rfl⟩
theorem e_X2_erase_38 : z_D 2 M_X2_erase 38 40 (.istore 6) := ⟨by decide +kernel, rfl⟩
theorem e_X2_erase_40 : z_D 2 M_X2_erase 40 42 (.iload 6) := ⟨by decide +kernel, rfl⟩
theorem e_X2_erase_42 : z_D 2 M_X2_erase 42 44 (.iload 5) := ⟨by decide +kernel, rfl⟩
theorem e_X2_erase_44 : z_J M_X2_erase 44 47 61 (17) (.if_icmp .gt 17) := ⟨by decide +kernel, rfl, rfl⟩
theorem e_X2_erase_47 : z_D 1 M_X2_erase 47 48 (.aload_n 0) := ⟨by decide +kernel, rfl⟩
theorem e_X2_erase_48 : z_D 2 M_X2_erase 48 50 (.iload 6) := ⟨by decide +kernel, rfl⟩
theorem e_X2_erase_50 : z_D 2 M_X2_erase 50 52 (.bipush 32) := ⟨by decide +kernel, rfl⟩
theorem e_X2_erase_52 : z_D 3 M_X2_erase 52 55 (.invokevirtual 39) := ⟨by decide +kernel, rfl⟩
theorem e_X2_erase_55 : z_D 3 M_X2_erase 55 58 (.iinc 6 1) := ⟨by decide +kernel, rfl⟩
theorem e_X2_erase_58 : z_J M_X2_erase 58 61 40 (-18) (.goto (-18)) := ⟨by decide +kernel, rfl, rfl⟩
theorem e_X2_erase_61 : z_D 2 M_X2_erase 61 63 (.iload 5) := ⟨by decide +kernel, rfl⟩
theorem e_X2_erase_63 : z_D 1 M_X2_erase 63 64 (.iload_n 3) := ⟨by decide +kernel, rfl⟩
theorem e_X2_erase_64 : z_D 1 M_X2_erase 64 65 (.iconst 1) := ⟨by decide +kernel, rfl⟩
theorem e_X2_erase_65 : z_D 1 M_X2_erase 65 66 (.isub) := ⟨by decide +kernel, rfl⟩
theorem e_X2_erase_66 : z_J M_X2_erase 66 69 73 (7) (.if_icmp .ne 7) := ⟨by decide +kernel, rfl, rfl⟩
theorem e_X2_erase_69 : z_D 1 M_X2_erase 69 70 (.aload_n 0) := ⟨by decide +kernel, rfl⟩
theorem e_X2_erase_70 : z_D 3 M_X2_erase 70 73 (.invokevirtual 43) := ⟨by decide +kernel, rfl⟩
theorem e_X2_erase_73 : z_D 1 M_X2_erase 73 74 (.return_) := ⟨by decide +kernel, rfl⟩
theorem e_X2_put_0 : z_D 1 M_X2_put 0 1 (.aload_n 0) := ⟨by decide +kernel, rfl⟩
theorem e_X2_put_1 : z_D 1 M_X2_put 1 2 (.iload_n 1) := ⟨by decide +kernel, rfl⟩
theorem e_X2_put_2 : z_D 1 M_X2_put 2 3 (.iload_n 2) := ⟨by decide +kernel, rfl⟩
theorem e_X2_put_3 : z_D 3 M_X2_put 3 6 (.invokevirtual 39) := ⟨by decide +kernel, rfl⟩
theorem e_X2_put_6 : z_D 1 M_X2_put 6 7 (.iload_n 2) := ⟨by decide +kernel, rfl⟩
theorem e_X2_put_7 : z_D 3 M_X2_put 7 10 (.invokestatic 46) := ⟨by decide +kernel, rfl⟩
theorem e_X2_put_10 : z_D 1 M_X2_put 10 11 (.iconst 2) := ⟨by decide +kernel, rfl⟩
theorem e_X2_put_11 : z_J M_X2_put 11 14 23 (12) (.if_icmp .ne 12) := ⟨by decide +kernel, rfl, rfl⟩
theorem e_X2_put_14 : z_D 1 M_X2_put 14 15 (.aload_n 0) := ⟨by decide +kernel, rfl⟩
theorem e_X2_put_15 : z_D 1 M_X2_put 15 16 (.iload_n 1) := ⟨by decide +kernel, rfl⟩
theorem e_X2_put_16 : z_D 1 M_X2_put 16 17 (.iconst 1) := ⟨by decide +kernel, rfl⟩
theorem e_X2_put_17 : z_D 1 M_X2_put 17 18 (.iadd) := ⟨by decide +kernel, rfl⟩
theorem e_X2_put_18 : z_D 1 M_X2_put 18 19 (.iload_n 2) := ⟨by decide +kernel, rfl⟩
theorem e_X2_put_19 : z_D 1 M_X2_put 19 20 (.ineg) := ⟨by decide +kernel, rfl⟩
theorem e_X2_put_20 : z_D 3 M_X2_put 20 23 (.invokevirtual 39) := ⟨by decide +kernel, rfl⟩
theorem e_X2_put_23 : z_D 1 M_X2_put 23 24 (.return_) := ⟨by decide +kernel, rfl⟩
theorem e_X2_overwrite_0 : z_D 1 M_X2_overwrite 0 1 (.aload_n 0) := ⟨by decide +kernel, rfl⟩
theorem e_X2_overwrite_1 : z_D 1 M_X2_overwrite 1 2 (.iload_n 1) := ⟨by decide +kernel, rfl⟩
theorem e_X2_overwrite_2 : z_D 1 M_X2_overwrite 2 3 (.iload_n 1) := ⟨by decide +kernel, rfl⟩
theorem e_X2_overwrite_3 : z_D 1 M_X2_overwrite 3 4 (.iload_n 2) := ⟨by decide +kernel, rfl⟩
theorem e_X2_overwrite_4 : z_D 3 M_X2_overwrite 4 7 (.invokestatic 46) := ⟨by decide +kernel, rfl⟩
theorem e_X2_overwrite_7 : z_D 1 M_X2_overwrite 7 8 (.iadd) := ⟨by decide +kernel, rfl⟩
theorem e_X2_overwrite_8 : z_D 1 M_X2_overwrite 8 9 (.iconst 1) := ⟨by decide +kernel, rfl⟩
theorem e_X2_overwrite_9 : z_D 1 M_X2_overwrite 9 10 (.isub) := ⟨by decide +kernel, rfl⟩
theorem e_X2_overwrite_10 : z_D 1 M_X2_overwrite 10 11 (.iload_n 3) := ⟨by decide +kernel, rfl⟩
theorem e_X2_overwrite_11 : z_D 3 M_X2_overwrite 11 14 (.invokevirtual 49) := ⟨by decide +kernel, rfl⟩
theorem e_X2_overwrite_14 : z_D 1 M_X2_overwrite 14 15 (.aload_n 0) := ⟨by decide +kernel, rfl⟩
theorem e_X2_overwrite_15 : z_D 1 M_X2_overwrite 15 16 (.iload_n 1) := ⟨by decide +kernel, rfl⟩
theorem e_X2_overwrite_16 : z_D 1 M_X2_overwrite 16 17 (.iload_n 2) := ⟨by decide +kernel, rfl⟩
theorem e_X2_overwrite_17 : z_D 3 M_X2_overwrite 17 20 (.invokevirtual 53) := ⟨by decide +kernel, rfl⟩
theorem e_X2_overwrite_20 : z_D 1 M_X2_overwrite 20 21 (.return_) := ⟨by decide +kernel, rfl⟩
theorem e_X2_openCells_0 : z_D 1 M_X2_openCells 0 1 (.aload_n 0) := ⟨by decide +kernel, rfl⟩
theorem e_X2_openCells_1 : z_D 1 M_X2_openCells 1 2 (.iload_n 1) := ⟨by decide +kernel, rfl⟩
theorem e_X2_openCells_2 : z_D 3 M_X2_openCells 2 5 (.invokevirtual 35) := ⟨by decide +kernel, rfl⟩
theorem e_X2_openCells_5 : z_J M_X2_openCells 5 8 24 (19) (.ifCond .ge 19) := ⟨by decide +kernel, rfl, rfl⟩
theorem e_X2_openCells_8 : z_D 1 M_X2_openCells 8 9 (.aload_n 0) := ⟨by decide +kernel, rfl⟩
theorem e_X2_openCells_9 : z_D 1 M_X2_openCells 9 10 (.iload_n 1) := ⟨by decide +kernel, rfl⟩
theorem e_X2_openCells_10 : z_D 1 M_X2_openCells 10 11 (.iconst 1) := ⟨by decide +kernel, rfl⟩
theorem e_X2_openCells_11 : z_D 1 M_X2_openCells 11 12 (.isub) := ⟨by decide +kernel, rfl⟩
theorem e_X2_openCells_12 : z_D 2 M_X2_openCells 12 14 (.bipush 32) := ⟨by decide +kernel, rfl⟩
theorem e_X2_openCells_14 : z_D 3 M_X2_openCells 14 17 (.invokevirtual 39) := ⟨by decide +kernel, rfl⟩
theorem e_X2_openCells_17 : z_D 1 M_X2_openCells 17 18 (.aload_n 0) := ⟨by decide +kernel, rfl⟩
theorem e_X2_openCells_18 : z_D 1 M_X2_openCells 18 19 (.iload_n 1) := ⟨by decide +kernel, rfl⟩
theorem e_X2_openCells_19 : z_D 2 M_X2_openCells 19 21 (.bipush 32) := ⟨by decide +kernel, rfl⟩
theorem e_X2_openCells_21 : z_D 3 M_X2_openCells 21 24 (.invokevirtual 39) := ⟨by decide +kernel, rfl⟩
theorem e_X2_openCells_24 : z_D 1 M_X2_openCells 24 25 (.iload_n 3) := ⟨by decide +kernel, rfl⟩
theorem e_X2_openCells_25 : z_D 1 M_X2_openCells 25 26 (.iconst 1) := ⟨by decide +kernel, rfl⟩
theorem e_X2_openCells_26 : z_D 1 M_X2_openCells 26 27 (.isub) := ⟨by decide +kernel, rfl⟩
theorem e_X2_openCells_27 : z_D 2 M_X2_openCells 27 29 (.istore 4) := ⟨by decide +kernel, rfl⟩
theorem e_X2_openCells_29 : z_D 2 M_X2_openCells 29 31 (.iload 4) := ⟨by decide +kernel, rfl⟩
theorem e_X2_openCells_31 : z_D 1 M_X2_openCells 31 32 (.iload_n 1) := ⟨by decide +kernel, rfl⟩
theorem e_X2_openCells_32 : z_D 1 M_X2_openCells 32 33 (.iload_n 2) := ⟨by decide +kernel, rfl⟩
theorem e_X2_openCells_33 : z_D 1 M_X2_openCells 33 34 (.iadd) := ⟨by decide +kernel, rfl⟩
theorem e_X2_openCells_34 : z_J M_X2_openCells 34 37 57 (23) (.if_icmp .lt 23) := ⟨by decide +kernel, rfl, rfl⟩
theorem e_X2_openCells_37 : z_D 1 M_X2_openCells 37 38 (.aload_n 0) := ⟨by decide +kernel, rfl⟩
theorem e_X2_openCells_38 : z_D 2 M_X2_openCells 38 40 (.iload 4) := ⟨by decide +kernel, rfl⟩
theorem e_X2_openCells_40 : z_D 1 M_X2_openCells 40 41 (.aload_n 0) := ⟨by decide +kernel, rfl⟩
theorem e_X2_openCells_41 : z_D 2 M_X2_openCells 41 43 (.iload 4) := ⟨by decide +kernel, rfl⟩
theorem e_X2_openCells_43 : z_D 1 M_X2_openCells 43 44 (.iload_n 2) := ⟨by decide +kernel, rfl⟩
theorem e_X2_openCells_44 : z_D 1 M_X2_openCells 44 45 (.isub) := ⟨by decide +kernel, rfl⟩
theorem e_X2_openCells_45 : z_D 3 M_X2_openCells 45 48 (.invokevirtual 35) := ⟨by decide +kernel, rfl⟩
theorem e_X2_openCells_48 : z_D 3 M_X2_openCells 48 51 (.invokevirtual 39) := ⟨by decide +kernel, rfl⟩
theorem e_X2_openCells_51 : z_D 3 M_X2_openCells 51 54 (.iinc 4 (-1)) := ⟨by decide +kernel, rfl⟩
theorem e_X2_openCells_54 : z_J M_X2_openCells 54 57 29 (-25) (.goto (-25)) := ⟨by decide +kernel, rfl, rfl⟩
theorem e_X2_openCells_57 : z_D 1 M_X2_openCells 57 58 (.iload_n 1) := ⟨by decide +kernel, rfl⟩
theorem e_X2_openCells_58 : z_D 2 M_X2_openCells 58 60 (.istore 4) := ⟨by decide +kernel, rfl⟩
theorem e_X2_openCells_60 : z_D 2 M_X2_openCells 60 62 (.iload 4) := ⟨by decide +kernel, rfl⟩
theorem e_X2_openCells_62 : z_D 1 M_X2_openCells 62 63 (.iload_n 1) := ⟨by decide +kernel, rfl⟩
theorem e_X2_openCells_63 : z_D 1 M_X2_openCells 63 64 (.iload_n 2) := ⟨by decide +kernel, rfl⟩
theorem e_X2_openCells_64 : z_D 1 M_X2_openCells 64 65 (.iadd) := ⟨by decide +kernel, rfl⟩
theorem e_X2_openCells_65 : z_J M_X2_openCells 65 68 82 (17) (.if_icmp .ge 17) := ⟨by decide +kernel, rfl, rfl⟩
theorem e_X2_openCells_68 : z_D 1 M_X2_openCells 68 69 (.aload_n 0) := ⟨by decide +kernel, rfl⟩
theorem e_X2_openCells_69 : z_D 2 M_X2_openCells 69 71 (.iload 4) := ⟨by decide +kernel, rfl⟩
theorem e_X2_openCells_71 : z_D 2 M_X2_openCells 71 73 (.bipush 32) := ⟨by decide +kernel, rfl⟩
theorem e_X2_openCells_73 : z_D 3 M_X2_openCells 73 76 (.invokevirtual 39) := ⟨by decide +kernel, rfl⟩
theorem e_X2_openCells_76 : z_D 3 M_X2_openCells 76 79 (.iinc 4 1) := ⟨by decide +kernel, rfl⟩
theorem e_X2_openCells_79 : z_J M_X2_openCells 79 82 60 (-19) (.goto (-19)) := ⟨by decide +kernel, rfl, rfl⟩
theorem e_X2_openCells_82 : z_D 1 M_X2_openCells 82 83 (.aload_n 0) := ⟨by decide +kernel, rfl⟩
theorem e_X2_openCells_83 : z_D 1 M_X2_openCells 83 84 (.iload_n 3) := ⟨by decide +kernel, rfl⟩
theorem e_X2_openCells_84 : z_D 1 M_X2_openCells 84 85 (.iconst 1) := ⟨by decide +kernel, rfl⟩
theorem e_X2_openCells_85 : z_D 1 M_X2_openCells 85 86 (.isub) := ⟨by decide +kernel, rfl⟩
theorem e_X2_openCells_86 : z_D 3 M_X2_openCells 86 89 (.invokevirtual 35) := ⟨by decide +kernel, rfl⟩
theorem e_X2_openCells_89 : z_D 3 M_X2_openCells 89 92 (.invokestatic 46) := ⟨by decide +kernel, rfl⟩
theorem e_X2_openCells_92 : z_D 1 M_X2_openCells 92 93 (.iconst 2) := ⟨by decide +kernel, rfl⟩
theorem e_X2_openCells_93 : z_J M_X2_openCells 93 96 105 (12) (.if_icmp .ne 12) := ⟨by decide +kernel, rfl, rfl⟩
theorem e_X2_openCells_96 : z_D 1 M_X2_openCells 96 97 (.aload_n 0) := ⟨by decide +kernel, rfl⟩
theorem e_X2_openCells_97 : z_D 1 M_X2_openCells 97 98 (.iload_n 3) := ⟨by decide +kernel, rfl⟩
theorem e_X2_openCells_98 : z_D 1 M_X2_openCells 98 99 (.iconst 1) := ⟨by decide +kernel, rfl⟩
theorem e_X2_openCells_99 : z_D 1 M_X2_openCells 99 100 (.isub) := ⟨by decide +kernel, rfl⟩
theorem e_X2_openCells_100 : z_D 2 M_X2_openCells 100 102 (.bipush 32) := ⟨by decide +kernel, rfl⟩
theorem e_X2_openCells_102 : z_D 3 M_X2_openCells 102 105 (.invokevirtual 39) := ⟨by decide +kernel, rfl⟩
theorem e_X2_openCells_105 : z_D 1 M_X2_openCells 105 106 (.aload_n 0) := ⟨by decide +kernel, rfl⟩
theorem e_X2_openCells_106 : z_D 3 M_X2_openCells 106 109 (.invokevirtual 43) := ⟨by decide +kernel, rfl⟩
theorem e_X2_openCells_109 : z_D 1 M_X2_openCells 109 110 (.return_) := ⟨by decide +kernel, rfl⟩
theorem e_X2_closeCells_0 : z_D 1 M_X2_closeCells 0 1 (.aload_n 0) := ⟨by decide +kernel, rfl⟩
theorem e_X2_closeCells_1 : z_D 1 M_X2_closeCells 1 2 (.iload_n 1) := ⟨by decide +kernel, rfl⟩
theorem e_X2_closeCells_2 : z_D 1 M_X2_closeCells 2 3 (.iload_n 1) := ⟨by decide +kernel, rfl⟩
theorem e_X2_closeCells_3 : z_D 1 M_X2_closeCells 3 4 (.iload_n 2) := ⟨by decide +kernel, rfl⟩
theorem e_X2_closeCells_4 : z_D 1 M_X2_closeCells 4 5 (.iadd) := ⟨by decide +kernel, rfl⟩
theorem e_X2_closeCells_5 : z_D 1 M_X2_closeCells 5 6 (.iconst 1) := ⟨by decide +kernel, rfl⟩
theorem e_X2_closeCells_6 : z_D 1 M_X2_closeCells 6 7 (.isub) := ⟨by decide +kernel, rfl⟩
theorem e_X2_closeCells_7 : z_D 1 M_X2_closeCells 7 8 (.iload_n 3) := ⟨by decide +kernel, rfl⟩
theorem e_X2_closeCells_8 : z_D 3 M_X2_closeCells 8 11 (.invokevirtual 49) := ⟨by decide +kernel, rfl⟩
theorem e_X2_closeCells_11 : z_D 1 M_X2_closeCells 11 12 (.iload_n 1) := ⟨by decide +kernel, rfl⟩
theorem e_X2_closeCells_12 : z_D 2 M_X2_closeCells 12 14 (.istore 4) := ⟨by decide +kernel, rfl⟩
theorem e_X2_closeCells_14 : z_D 2 M_X2_closeCells 14 16 (.iload 4) := ⟨by decide +kernel, rfl⟩
theorem e_X2_closeCells_16 : z_D 1 M_X2_closeCells 16 17 (.iload_n 3) := ⟨by decide +kernel, rfl⟩
theorem e_X2_closeCells_17 : z_J M_X2_closeCells 17 20 53 (36) (.if_icmp .ge 36) := ⟨by decide +kernel, rfl, rfl⟩
theorem e_X2_closeCells_20 : z_D 1 M_X2_closeCells 20 21 (.aload_n 0) := ⟨by decide +kernel, rfl⟩
theorem e_X2_closeCells_21 : z_D 2 M_X2_closeCells 21 23 (.iload 4) := ⟨by decide +kernel, rfl⟩
theorem e_X2_closeCells_23 : z_D 2 M_X2_closeCells 23 25 (.iload 4) := ⟨by decide +kernel, rfl⟩
theorem e_X2_closeCells_25 : z_D 1 M_X2_closeCells 25 26 (.iload_n 2) := ⟨by decide +kernel, rfl⟩
theorem e_X2_closeCells_26 : z_D 1 M_X2_closeCells 26 27 (.iadd) := ⟨by decide +kernel, rfl⟩
theorem e_X2_closeCells_27 : z_D 1 M_X2_closeCells 27 28 (.iload_n 3) := ⟨by decide +kernel, rfl⟩
theorem e_X2_closeCells_28 : z_J M_X2_closeCells 28 31 42 (14) (.if_icmp .ge 14) := ⟨by decide +kernel, rfl, rfl⟩
theorem e_X2_closeCells_31 : z_D 1 M_X2_closeCells 31 32 (.aload_n 0) := ⟨by decide +kernel, rfl⟩
theorem e_X2_closeCells_32 : z_D 2 M_X2_closeCells 32 34 (.iload 4) := ⟨by decide +kernel, rfl⟩
theorem e_X2_closeCells_34 : z_D 1 M_X2_closeCells 34 35 (.iload_n 2) := ⟨by decide +kernel, rfl⟩
theorem e_X2_closeCells_35 : z_D 1 M_X2_closeCells 35 36 (.iadd) := ⟨by decide +kernel, rfl⟩
theorem e_X2_closeCells_36 : z_D 3 M_X2_closeCells 36 39 (.invokevirtual 35) := ⟨by decide +kernel, rfl⟩
theorem e_X2_closeCells_39 : z_J M_X2_closeCells 39 42 44 (5) (.goto 5) := ⟨by decide +kernel, rfl, rfl⟩
theorem e_X2_closeCells_42 : z_D 2 M_X2_closeCells 42 44 (.bipush 32) := ⟨by decide +kernel, rfl⟩
theorem e_X2_closeCells_44 : z_D 3 M_X2_closeCells 44 47 (.invokevirtual 39) := ⟨by decide +kernel, rfl⟩
theorem e_X2_closeCells_47 : z_D 3 M_X2_closeCells 47 50 (.iinc 4 1) := ⟨by decide +kernel, rfl⟩
theorem e_X2_closeCells_50 : z_J M_X2_closeCells 50 53 14 (-36) (.goto (-36)) := ⟨by decide +kernel, rfl, rfl⟩
theorem e_X2_closeCells_53 : z_D 1 M_X2_closeCells 53 54 (.aload_n 0) := ⟨by decide +kernel, rfl⟩
theorem e_X2_closeCells_54 : z_D 3 M_X2_closeCells 54 57 (.invokevirtual 43) := ⟨by decide +kernel, rfl⟩
theorem e_X2_closeCells_57 : z_D 1 M_X2_closeCells 57 58 (.return_) := ⟨by decide +kernel, rfl⟩
theorem e_X3_init_0 : z_D 1 M_X3_init 0 1 (.aload_n 0) := ⟨by decide +kernel, rfl⟩
theorem e_X3_init_1 : z_D 3 M_X3_init 1 4 (.invokespecial 3) := ⟨by decide +kernel, rfl⟩
theorem e_X3_init_4 : z_D 1 M_X3_init 4 5 (.aload_n 0) := ⟨by decide +kernel, rfl⟩
theorem e_X3_init_5 : z_D 2 M_X3_init 5 7 (.bipush 32) := ⟨by decide +kernel, rfl⟩
theorem e_X3_init_7 : z_D 3 M_X3_init 7 10 (.anewarray 9) := ⟨by decide +kernel, rfl⟩
theorem e_X3_init_10 : z_D 3 M_X3_init 10 13 (.putfield 11) := ⟨by decide +kernel, rfl⟩
theorem e_X3_init_13 : z_D 1 M_X3_init 13 14 (.aload_n 0) := ⟨by decide +kernel, rfl⟩
theorem e_X3_init_14 : z_D 3 M_X3_init 14 17 (.new 17) := ⟨by decide +kernel, rfl⟩
theorem e_X3_init_17 : z_D 1 M_X3_init 17 18 (.dup) := ⟨by decide +kernel, rfl⟩
theorem e_X3_init_18 : z_D 3 M_X3_init 18 21 (.invokespecial 19) := ⟨by decide +kernel, rfl⟩
theorem e_X3_init_21 : z_D 3 M_X3_init 21 24 (.putfield 20) := ⟨by decide +kernel, rfl⟩
theorem e_X3_init_24 : z_D 1 M_X3_init 24 25 (.aload_n 0) := ⟨by decide +kernel, rfl⟩
theorem e_X3_init_25 : z_D 1 M_X3_init 25 26 (.iconst 3) := ⟨by decide +kernel, rfl⟩
theorem e_X3_init_26 : z_D 3 M_X3_init 26 29 (.anewarray 17) := ⟨by decide +kernel, rfl⟩
theorem e_X3_init_29 : z_D 3 M_X3_init 29 32 (.putfield 24) := ⟨by decide +kernel, rfl⟩
end
section
theorem e_X3_init_32 : z_D 1 M_X3_init 32 33 (.aload_n 0) := ⟨by decide +kernel, rfl⟩
theorem e_X3_init_33 : z_D 1 M_X3_init 33 34 (.iconst 0) := ⟨by decide +kernel, rfl⟩
theorem e_X3_init_34 : z_D 3 M_X3_init 34 37 (.putfield 28) := ⟨by decide +kernel, rfl⟩
theorem e_X3_init_37 : z_D 1 M_X3_init 37 38 (.aload_n 0) := ⟨by decide +kernel, rfl⟩
theorem e_X3_init_38 : z_D 1 M_X3_init 38 39 (.iconst 0) := ⟨by decide +kernel, rfl⟩
theorem e_X3_init_39 : z_D 3 M_X3_init 39 42 (.putfield 32) := ⟨by decide +kernel, rfl⟩
theorem e_X3_init_42 : z_D 1 M_X3_init 42 43 (.aload_n 0) := ⟨by decide +kernel, rfl⟩
theorem e_X3_init_43 : z_D 2 M_X3_init 43 45 (.bipush 10) := ⟨by decide +kernel, rfl⟩
theorem e_X3_init_45 : z_D 3 M_X3_init 45 48 (.putfield 35) := ⟨by decide +kernel, rfl⟩
theorem e_X3_init_48 : z_D 1 M_X3_init 48 49 (.aload_n 0) := ⟨by decide +kernel, rfl⟩
theorem e_X3_init_49 : z_D 1 M_X3_init 49 50 (.iconst 4) := ⟨by decide +kernel, rfl⟩
theorem e_X3_init_50 : z_D 3 M_X3_init 50 53 (.putfield 38) := ⟨by decide +kernel, rfl⟩
theorem e_X3_init_53 : z_D 1 M_X3_init 53 54 (.aload_n 0) := ⟨by decide +kernel, rfl⟩
theorem e_X3_init_54 : z_D 1 M_X3_init 54 55 (.iconst 0) := ⟨by decide +kernel, rfl⟩
theorem e_X3_init_55 : z_D 3 M_X3_init 55 58 (.putfield 41) := ⟨by decide +kernel, rfl⟩
theorem e_X3_init_58 : z_D 1 M_X3_init 58 59 (.aload_n 0) := ⟨by decide +kernel, rfl⟩
theorem e_X3_init_59 : z_D 1 M_X3_init 59 60 (.iconst 3) := ⟨by decide +kernel, rfl⟩
theorem e_X3_init_60 : z_D 3 M_X3_init 60 63 (.putfield 44) := ⟨by decide +kernel, rfl⟩
theorem e_X3_init_63 : z_D 1 M_X3_init 63 64 (.iconst 0) := ⟨by decide +kernel, rfl⟩
theorem e_X3_init_64 : z_D 1 M_X3_init 64 65 (.istore_n 1) := ⟨by decide +kernel, rfl⟩
theorem e_X3_init_65 : z_D 1 M_X3_init 65 66 (.iload_n 1) := ⟨by decide +kernel, rfl⟩
theorem e_X3_init_66 : z_D 2 M_X3_init 66 68 (.bipush 32) := ⟨by decide +kernel, rfl⟩
theorem e_X3_init_68 : z_J M_X3_init 68 71 90 (22) (.if_icmp .ge 22) := ⟨by decide +kernel, rfl, rfl⟩
theorem e_X3_init_71 : z_D 1 M_X3_init 71 72 (.aload_n 0) := ⟨by decide +kernel, rfl⟩
theorem e_X3_init_72 : z_D 3 M_X3_init 72 75 (.getfield 11) := ⟨by decide +kernel, rfl⟩
theorem e_X3_init_75 : z_D 1 M_X3_init 75 76 (.iload_n 1) := ⟨by decide +kernel, rfl⟩
theorem e_X3_init_76 : z_D 3 M_X3_init 76 79 (.new 9) := ⟨by decide +kernel, rfl⟩
theorem e_X3_init_79 : z_D 1 M_X3_init 79 80 (.dup) := ⟨by decide +kernel, rfl⟩
theorem e_X3_init_80 : z_D 3 M_X3_init 80 83 (.invokespecial 47) := ⟨by decide +kernel, rfl⟩
theorem e_X3_init_83 : z_D 1 M_X3_init 83 84 (.aastore) := ⟨by decide +kernel, rfl⟩
theorem e_X3_init_84 : z_D 3 M_X3_init 84 87 (.iinc 1 1) := ⟨by decide +kernel, rfl⟩
theorem e_X3_init_87 : z_J M_X3_init 87 90 65 (-22) (.goto (-22)) := ⟨by decide +kernel, rfl, rfl⟩
theorem e_X3_init_90 : z_D 1 M_X3_init 90 91 (.iconst 0) := ⟨by decide +kernel, rfl⟩
theorem e_X3_init_91 : z_D 1 M_X3_init 91 92 (.istore_n 1) := ⟨by decide +kernel, rfl⟩
theorem e_X3_init_92 : z_D 1 M_X3_init 92 93 (.iload_n 1) := ⟨by decide +kernel, rfl⟩
theorem e_X3_init_93 : z_D 1 M_X3_init 93 94 (.iconst 3) := ⟨by decide +kernel, rfl⟩
theorem e_X3_init_94 : z_J M_X3_init 94 97 116 (22) (.if_icmp .ge 22) := ⟨by decide +kernel, rfl, rfl⟩
theorem e_X3_init_97 : z_D 1 M_X3_init 97 98 (.aload_n 0) := ⟨by decide +kernel, rfl⟩
theorem e_X3_init_98 : z_D 3 M_X3_init 98 101 (.getfield 24) := ⟨by decide +kernel, rfl⟩
theorem e_X3_init_101 : z_D 1 M_X3_init 101 102 (.iload_n 1) := ⟨by decide +kernel, rfl⟩
theorem e_X3_init_102 : z_D 3 M_X3_init 102 105 (.new 17) := ⟨by decide +kernel, rfl⟩
theorem e_X3_init_105 : z_D 1 M_X3_init 105 106 (.dup) := ⟨by decide +kernel, rfl⟩
theorem e_X3_init_106 : z_D 3 M_X3_init 106 109 (.invokespecial 19) := ⟨by decide +kernel, rfl⟩
theorem e_X3_init_109 : z_D 1 M_X3_init 109 110 (.aastore) := ⟨by decide +kernel, rfl⟩
theorem e_X3_init_110 : z_D 3 M_X3_init 110 113 (.iinc 1 1) := ⟨by decide +kernel, rfl⟩
theorem e_X3_init_113 : z_J M_X3_init 113 116 92 (-21) (.goto (-21)) := ⟨by decide +kernel, rfl, rfl⟩
theorem e_X3_init_116 : z_D 1 M_X3_init 116 117 (.return_) := ⟨by decide +kernel, rfl⟩
theorem e_X3_copyFrom_0 : z_D 1 M_X3_copyFrom 0 1 (.aload_n 0) := ⟨by decide +kernel, rfl⟩
theorem e_X3_copyFrom_1 : z_D 1 M_X3_copyFrom 1 2 (.aload_n 1) := ⟨by decide +kernel, rfl⟩
theorem e_X3_copyFrom_2 : z_D 3 M_X3_copyFrom 2 5 (.getfield 32) := ⟨by decide +kernel, rfl⟩
theorem e_X3_copyFrom_5 : z_D 3 M_X3_copyFrom 5 8 (.putfield 32) := ⟨by decide +kernel, rfl⟩
theorem e_X3_copyFrom_8 : z_D 1 M_X3_copyFrom 8 9 (.aload_n 0) := ⟨by decide +kernel, rfl⟩
theorem e_X3_copyFrom_9 : z_D 1 M_X3_copyFrom 9 10 (.aload_n 1) := ⟨by decide +kernel, rfl⟩
theorem e_X3_copyFrom_10 : z_D 3 M_X3_copyFrom 10 13 (.getfield 35) := ⟨by decide +kernel, rfl⟩
theorem e_X3_copyFrom_13 : z_D 3 M_X3_copyFrom 13 16 (.putfield 35) := ⟨by decide +kernel, rfl⟩
theorem e_X3_copyFrom_16 : z_D 1 M_X3_copyFrom 16 17 (.aload_n 0) := ⟨by decide +kernel, rfl⟩
theorem e_X3_copyFrom_17 : z_D 1 M_X3_copyFrom 17 18 (.aload_n 1) := ⟨by decide +kernel, rfl⟩
theorem e_X3_copyFrom_18 : z_D 3 M_X3_copyFrom 18 21 (.getfield 38) := ⟨by decide +kernel, rfl⟩
theorem e_X3_copyFrom_21 : z_D 3 M_X3_copyFrom 21 24 (.putfield 38) := ⟨by decide +kernel, rfl⟩
theorem e_X3_copyFrom_24 : z_D 1 M_X3_copyFrom 24 25 (.aload_n 0) := ⟨by decide +kernel, rfl⟩
theorem e_X3_copyFrom_25 : z_D 1 M_X3_copyFrom 25 26 (.aload_n 1) := ⟨by decide +kernel, rfl⟩
theorem e_X3_copyFrom_26 : z_D 3 M_X3_copyFrom 26 29 (.getfield 41) := ⟨by decide +kernel, rfl⟩
theorem e_X3_copyFrom_29 : z_D 3 M_X3_copyFrom 29 32 (.putfield 41) := ⟨by decide +kernel, rfl⟩
theorem e_X3_copyFrom_32 : z_D 1 M_X3_copyFrom 32 33 (.aload_n 0) := ⟨by decide +kernel, rfl⟩
theorem e_X3_copyFrom_33 : z_D 1 M_X3_copyFrom 33 34 (.aload_n 1) := ⟨by decide +kernel, rfl⟩
theorem e_X3_copyFrom_34 : z_D 3 M_X3_copyFrom 34 37 (.getfield 44) := ⟨by decide +kernel, rfl⟩
theorem e_X3_copyFrom_37 : z_D 3 M_X3_copyFrom 37 40 (.putfield 44) := ⟨by decide +kernel, rfl⟩
theorem e_X3_copyFrom_40 : z_D 1 M_X3_copyFrom 40 41 (.aload_n 0) := ⟨by decide +kernel, rfl⟩
theorem e_X3_copyFrom_41 : z_D 1 M_X3_copyFrom 41 42 (.aload_n 1) := ⟨by decide +kernel, rfl⟩
theorem e_X3_copyFrom_42 : z_D 3 M_X3_copyFrom 42 45 (.getfield 28) := ⟨by decide +kernel, rfl⟩
theorem e_X3_copyFrom_45 : z_D 3 M_X3_copyFrom 45 48 (.putfield 28) := ⟨by decide +kernel, rfl⟩
theorem e_X3_copyFrom_48 : z_D 1 M_X3_copyFrom 48 49 (.aload_n 0) := ⟨by decide +kernel, rfl⟩
theorem e_X3_copyFrom_49 : z_D 3 M_X3_copyFrom 49 52 (.getfield 20) := ⟨by decide +kernel, rfl⟩
theorem e_X3_copyFrom_52 : z_D 1 M_X3_copyFrom 52 53 (.aload_n 1) := ⟨by decide +kernel, rfl⟩
theorem e_X3_copyFrom_53 : z_D 3 M_X3_copyFrom 53 56 (.getfield 20) := ⟨by decide +kernel, rfl⟩
theorem e_X3_copyFrom_56 : z_D 3 M_X3_copyFrom 56 59 (.invokevirtual 48) := ⟨by decide +kernel, rfl⟩
theorem e_X3_copyFrom_59 : z_D 1 M_X3_copyFrom 59 60 (.iconst 0) := ⟨by decide +kernel, rfl⟩
theorem e_X3_copyFrom_60 : z_D 1 M_X3_copyFrom 60 61 (.istore_n 2) := ⟨by decide +kernel, rfl⟩
theorem e_X3_copyFrom_61 : z_D 1 M_X3_copyFrom 61 62 (.iload_n 2) := ⟨by decide +kernel, rfl⟩
theorem e_X3_copyFrom_62 : z_D 1 M_X3_copyFrom 62 63 (.aload_n 0) := ⟨by decide +kernel, rfl⟩
theorem e_X3_copyFrom_63 : z_D 3 M_X3_copyFrom 63 66 (.getfield 28) := ⟨by decide +kernel, rfl⟩
theorem e_X3_copyFrom_66 : z_J M_X3_copyFrom 66 69 88 (22) (.if_icmp .ge 22) := ⟨by decide +kernel, rfl, rfl⟩
theorem e_X3_copyFrom_69 : z_D 1 M_X3_copyFrom 69 70 (.aload_n 0) := ⟨by decide +kernel, rfl⟩
theorem e_X3_copyFrom_70 : z_D 1 M_X3_copyFrom 70 71 (.iload_n 2) := ⟨by decide +kernel, rfl⟩
theorem e_X3_copyFrom_71 : z_D 3 M_X3_copyFrom 71 74 (.invokevirtual 52) := ⟨by decide +kernel, rfl⟩
theorem e_X3_copyFrom_74 : z_D 1 M_X3_copyFrom 74 75 (.aload_n 1) := ⟨by decide +kernel, rfl⟩
theorem e_X3_copyFrom_75 : z_D 1 M_X3_copyFrom 75 76 (.iload_n 2) := ⟨by decide +kernel, rfl⟩
theorem e_X3_copyFrom_76 : z_D 3 M_X3_copyFrom 76 79 (.invokevirtual 52) := ⟨by decide +kernel, rfl⟩
theorem e_X3_copyFrom_79 : z_D 3 M_X3_copyFrom 79 82 (.invokevirtual 48) := ⟨by decide +kernel, rfl⟩
theorem e_X3_copyFrom_82 : z_D 3 M_X3_copyFrom 82 85 (.iinc 2 1) := ⟨by decide +kernel, rfl⟩
theorem e_X3_copyFrom_85 : z_J M_X3_copyFrom 85 88 61 (-24) (.goto (-24)) := ⟨by decide +kernel, rfl, rfl⟩
theorem e_X3_copyFrom_88 : z_D 1 M_X3_copyFrom 88 89 (.iconst 0) := ⟨by decide +kernel, rfl⟩
theorem e_X3_copyFrom_89 : z_D 1 M_X3_copyFrom 89 90 (.istore_n 2) := ⟨by decide +kernel, rfl⟩
theorem e_X3_copyFrom_90 : z_D 1 M_X3_copyFrom 90 91 (.iload_n 2) := ⟨by decide +kernel, rfl⟩
theorem e_X3_copyFrom_91 : z_D 1 M_X3_copyFrom 91 92 (.aload_n 0) := ⟨by decide +kernel, rfl⟩
theorem e_X3_copyFrom_92 : z_D 3 M_X3_copyFrom 92 95 (.getfield 32) := ⟨by decide +kernel, rfl⟩
theorem e_X3_copyFrom_95 : z_D 1 M_X3_copyFrom 95 96 (.aload_n 0) := ⟨by decide +kernel, rfl⟩
theorem e_X3_copyFrom_96 : z_D 3 M_X3_copyFrom 96 99 (.getfield 38) := ⟨by decide +kernel, rfl⟩
theorem e_X3_copyFrom_99 : z_D 1 M_X3_copyFrom 99 100 (.iadd) := ⟨by decide +kernel, rfl⟩
theorem e_X3_copyFrom_100 : z_J M_X3_copyFrom 100 103 122 (22) (.if_icmp .ge 22) := ⟨by decide +kernel, rfl, rfl⟩
theorem e_X3_copyFrom_103 : z_D 1 M_X3_copyFrom 103 104 (.aload_n 0) := ⟨by decide +kernel, rfl⟩
theorem e_X3_copyFrom_104 : z_D 1 M_X3_copyFrom 104 105 (.iload_n 2) := ⟨by decide +kernel, rfl⟩
theorem e_X3_copyFrom_105 : z_D 3 M_X3_copyFrom 105 108 (.invokevirtual 56) := ⟨by decide +kernel, rfl⟩
theorem e_X3_copyFrom_108 : z_D 1 M_X3_copyFrom 108 109 (.aload_n 1) := ⟨by decide +kernel, rfl⟩
theorem e_X3_copyFrom_109 : z_D 1 M_X3_copyFrom 109 110 (.iload_n 2) := ⟨by decide +kernel, rfl⟩
theorem e_X3_copyFrom_110 : z_D 3 M_X3_copyFrom 110 113 (.invokevirtual 56) := ⟨by decide +kernel, rfl⟩
theorem e_X3_copyFrom_113 : z_D 3 M_X3_copyFrom 113 116 (.invokevirtual 60) := ⟨by decide +kernel, rfl⟩
theorem e_X3_copyFrom_116 : z_D 3 M_X3_copyFrom 116 119 (.iinc 2 1) := ⟨by decide +kernel, rfl⟩
theorem e_X3_copyFrom_119 : z_J M_X3_copyFrom 119 122 90 (-29) (.goto (-29)) := ⟨by decide +kernel, rfl, rfl⟩
theorem e_X3_copyFrom_122 : z_D 1 M_X3_copyFrom 122 123 (.return_) := ⟨by decide +kernel, rfl⟩
theorem e_X3_clear_0 : z_D 1 M_X3_clear 0 1 (.aload_n 0) := ⟨by decide +kernel, rfl⟩
theorem e_X3_clear_1 : z_D 3 M_X3_clear 1 4 (.getfield 11) := ⟨by decide +kernel, rfl⟩
theorem e_X3_clear_4 : z_D 1 M_X3_clear 4 5 (.astore_n 3) := ⟨by decide +kernel, rfl⟩
theorem e_X3_clear_5 : z_D 1 M_X3_clear 5 6 (.aload_n 3) := ⟨by decide +kernel, rfl⟩
theorem e_X3_clear_6 : z_D 1 M_X3_clear 6 7 (.arraylength) := ⟨by decide +kernel, rfl⟩
theorem e_X3_clear_7 : z_D 2 M_X3_clear 7 9 (.istore 4) := ⟨by decide +kernel, rfl⟩
theorem e_X3_clear_9 : z_D 1 M_X3_clear 9 10 (.iconst 0) := ⟨by decide +kernel, rfl⟩
theorem e_X3_clear_10 : z_D 2 M_X3_clear 10 12 (.istore 5) := ⟨by decide +kernel, rfl⟩
theorem e_X3_clear_12 : z_D 2 M_X3_clear 12 14 (.iload 5) := ⟨by decide +kernel, rfl⟩
theorem e_X3_clear_14 : z_D 2 M_X3_clear 14 16 (.iload 4) := ⟨by decide +kernel, rfl⟩
theorem e_X3_clear_16 : z_J M_X3_clear 16 19 36 (20) (.if_icmp .ge 20) := ⟨by decide +kernel, rfl, rfl⟩
theorem e_X3_clear_19 : z_D 1 M_X3_clear 19 20 (.aload_n 3) := ⟨by decide +kernel, rfl⟩
theorem e_X3_clear_20 : z_D 2 M_X3_clear 20 22 (.iload 5) := ⟨by decide +kernel, rfl⟩
theorem e_X3_clear_22 : z_D 1 M_X3_clear 22 23 (.aaload) := ⟨by decide +kernel, rfl⟩
theorem e_X3_clear_23 : z_D 2 M_X3_clear 23 25 (.astore 6) := ⟨by decide +kernel, rfl⟩
theorem e_X3_clear_25 : z_D 2 M_X3_clear 25 27 (.aload 6) := ⟨by decide +kernel, rfl⟩
theorem e_X3_clear_27 : z_D 3 M_X3_clear 27 30 (.invokevirtual 63) := ⟨by decide +kernel, rfl⟩
theorem e_X3_clear_30 : z_D 3 M_X3_clear 30 33 (.iinc 5 1) := ⟨by decide +kernel, rfl⟩
theorem e_X3_clear_33 : z_J M_X3_clear 33 36 12 (-21) (.goto (-21)) := ⟨by decide +kernel, rfl, rfl⟩
theorem e_X3_clear_36 : z_D 1 M_X3_clear 36 37 (.aload_n 0) := ⟨by decide +kernel, rfl⟩
theorem e_X3_clear_37 : z_D 1 M_X3_clear 37 38 (.iconst 0) := ⟨by decide +kernel, rfl⟩
theorem e_X3_clear_38 : z_D 3 M_X3_clear 38 41 (.putfield 32) := ⟨by decide +kernel, rfl⟩
theorem e_X3_clear_41 : z_D 1 M_X3_clear 41 42 (.aload_n 0) := ⟨by decide +kernel, rfl⟩
theorem e_X3_clear_42 : z_D 1 M_X3_clear 42 43 (.iload_n 1) := ⟨by decide +kernel, rfl⟩
theorem e_X3_clear_43 : z_D 3 M_X3_clear 43 46 (.putfield 35) := ⟨by decide +kernel, rfl⟩
theorem e_X3_clear_46 : z_D 1 M_X3_clear 46 47 (.aload_n 0) := ⟨by decide +kernel, rfl⟩
theorem e_X3_clear_47 : z_D 1 M_X3_clear 47 48 (.iload_n 2) := ⟨by decide +kernel, rfl⟩
theorem e_X3_clear_48 : z_D 3 M_X3_clear 48 51 (.putfield 38) := ⟨by decide +kernel, rfl⟩
theorem e_X3_clear_51 : z_D 1 M_X3_clear 51 52 (.aload_n 0) := ⟨by decide +kernel, rfl⟩
theorem e_X3_clear_52 : z_D 1 M_X3_clear 52 53 (.iconst 0) := ⟨by decide +kernel, rfl⟩
theorem e_X3_clear_53 : z_D 3 M_X3_clear 53 56 (.putfield 41) := ⟨by decide +kernel, rfl⟩
theorem e_X3_clear_56 : z_D 1 M_X3_clear 56 57 (.aload_n 0) := ⟨by decide +kernel, rfl⟩
theorem e_X3_clear_57 : z_D 1 M_X3_clear 57 58 (.iload_n 2) := ⟨by decide +kernel, rfl⟩
theorem e_X3_clear_58 : z_D 1 M_X3_clear 58 59 (.iconst 1) := ⟨by decide +kernel, rfl⟩
theorem e_X3_clear_59 : z_D 1 M_X3_clear 59 60 (.isub) := ⟨by decide +kernel, rfl⟩
theorem e_X3_clear_60 : z_D 3 M_X3_clear 60 63 (.putfield 44) := ⟨by decide +kernel, rfl⟩
theorem e_X3_clear_63 : z_D 1 M_X3_clear 63 64 (.return_) := ⟨by decide +kernel, rfl⟩
theorem e_X3_rowAt_0 : z_D 1 M_X3_rowAt 0 1 (.aload_n 0) := ⟨by decide +kernel, rfl⟩
theorem e_X3_rowAt_1 : z_D 3 M_X3_rowAt 1 4 (.getfield 11) := ⟨by decide +kernel, rfl⟩
theorem e_X3_rowAt_4 : z_D 1 M_X3_rowAt 4 5 (.iload_n 1) := ⟨by decide +kernel, rfl⟩
theorem e_X3_rowAt_5 : z_J M_X3_rowAt 5 8 18 (13) (.ifCond .lt 13) := ⟨by decide +kernel, rfl, rfl⟩
theorem e_X3_rowAt_8 : z_D 1 M_X3_rowAt 8 9 (.iload_n 1) := ⟨by decide +kernel, rfl⟩
theorem e_X3_rowAt_9 : z_D 2 M_X3_rowAt 9 11 (.bipush 32) := ⟨by decide +kernel, rfl⟩
theorem e_X3_rowAt_11 : z_J M_X3_rowAt 11 14 18 (7) (.if_icmp .ge 7) := ⟨by decide +kernel, rfl, rfl⟩
theorem e_X3_rowAt_14 : z_D 1 M_X3_rowAt 14 15 (.iload_n 1) := ⟨by decide +kernel, rfl⟩
theorem e_X3_rowAt_15 : z_J M_X3_rowAt 15 18 19 (4) (.goto 4) := ⟨by decide +kernel, rfl, rfl⟩
theorem e_X3_rowAt_18 : z_D 1 M_X3_rowAt 18 19 (.iconst 0) := ⟨by decide +kernel, rfl⟩
theorem e_X3_rowAt_19 : z_D 1 M_X3_rowAt 19 20 (.aaload) := ⟨by decide +kernel, rfl⟩
theorem e_X3_rowAt_20 : z_D 1 M_X3_rowAt 20 21 (.areturn) := ⟨by decide +kernel, rfl⟩
theorem e_X3_screenRow_0 : z_D 1 M_X3_screenRow 0 1 (.aload_n 0) := ⟨by decide +kernel, rfl⟩
theorem e_X3_screenRow_1 : z_D 1 M_X3_screenRow 1 2 (.aload_n 0) := ⟨by decide +kernel, rfl⟩
theorem e_X3_screenRow_2 : z_D 3 M_X3_screenRow 2 5 (.getfield 32) := ⟨by decide +kernel, rfl⟩
theorem e_X3_screenRow_5 : z_D 1 M_X3_screenRow 5 6 (.iload_n 1) := ⟨by decide +kernel, rfl⟩
theorem e_X3_screenRow_6 : z_D 1 M_X3_screenRow 6 7 (.iadd) := ⟨by decide +kernel, rfl⟩
theorem e_X3_screenRow_7 : z_D 3 M_X3_screenRow 7 10 (.invokevirtual 56) := ⟨by decide +kernel, rfl⟩
theorem e_X3_screenRow_10 : z_D 1 M_X3_screenRow 10 11 (.areturn) := ⟨by decide +kernel, rfl⟩
theorem e_X3_hasCell_0 : z_D 1 M_X3_hasCell 0 1 (.iload_n 1) := ⟨by decide +kernel, rfl⟩
theorem e_X3_hasCell_1 : z_J M_X3_hasCell 1 4 28 (27) (.ifCond .lt 27) := ⟨by decide +kernel, rfl, rfl⟩
theorem e_X3_hasCell_4 : z_D 1 M_X3_hasCell 4 5 (.iload_n 1) := ⟨by decide +kernel, rfl⟩
theorem e_X3_hasCell_5 : z_D 1 M_X3_hasCell 5 6 (.aload_n 0) := ⟨by decide +kernel, rfl⟩
theorem e_X3_hasCell_6 : z_D 3 M_X3_hasCell 6 9 (.getfield 38) := ⟨by decide +kernel, rfl⟩
theorem e_X3_hasCell_9 : z_J M_X3_hasCell 9 12 28 (19) (.if_icmp .ge 19) := ⟨by decide +kernel, rfl, rfl⟩
theorem e_X3_hasCell_12 : z_D 1 M_X3_hasCell 12 13 (.iload_n 2) := ⟨by decide +kernel, rfl⟩
theorem e_X3_hasCell_13 : z_J M_X3_hasCell 13 16 28 (15) (.ifCond .lt 15) := ⟨by decide +kernel, rfl, rfl⟩
theorem e_X3_hasCell_16 : z_D 1 M_X3_hasCell 16 17 (.iload_n 2) := ⟨by decide +kernel, rfl⟩
theorem e_X3_hasCell_17 : z_D 1 M_X3_hasCell 17 18 (.aload_n 0) := ⟨by decide +kernel, rfl⟩
theorem e_X3_hasCell_18 : z_D 3 M_X3_hasCell 18 21 (.getfield 35) := ⟨by decide +kernel, rfl⟩
theorem e_X3_hasCell_21 : z_J M_X3_hasCell 21 24 28 (7) (.if_icmp .ge 7) := ⟨by decide +kernel, rfl, rfl⟩
theorem e_X3_hasCell_24 : z_D 1 M_X3_hasCell 24 25 (.iconst 1) := ⟨by decide +kernel, rfl⟩
theorem e_X3_hasCell_25 : z_J M_X3_hasCell 25 28 29 (4) (.goto 4) := ⟨by decide +kernel, rfl, rfl⟩
theorem e_X3_hasCell_28 : z_D 1 M_X3_hasCell 28 29 (.iconst 0) := ⟨by decide +kernel, rfl⟩
theorem e_X3_hasCell_29 : z_D 1 M_X3_hasCell 29 30 (.ireturn) := ⟨by decide +kernel, rfl⟩
theorem e_X3_isCursorInRegion_0 : z_D 1 M_X3_isCursorInRegion 0 1 (.aload_n 0) := ⟨by decide +kernel, rfl⟩
theorem e_X3_isCursorInRegion_1 : z_D 3 M_X3_isCursorInRegion 1 4 (.getfield 20) := ⟨by decide +kernel, rfl⟩
theorem e_X3_isCursorInRegion_4 : z_D 3 M_X3_isCursorInRegion 4 7 (.getfield 66) := ⟨by decide +kernel, rfl⟩
theorem e_X3_isCursorInRegion_7 : z_D 1 M_X3_isCursorInRegion 7 8 (.aload_n 0) := ⟨by decide +kernel, rfl⟩
theorem e_X3_isCursorInRegion_8 : z_D 3 M_X3_isCursorInRegion 8 11 (.getfield 41) := ⟨by decide +kernel, rfl⟩
theorem e_X3_isCursorInRegion_11 : z_J M_X3_isCursorInRegion 11 14 32 (21) (.if_icmp .lt 21) := ⟨by decide +kernel, rfl, rfl⟩
theorem e_X3_isCursorInRegion_14 : z_D 1 M_X3_isCursorInRegion 14 15 (.aload_n 0) := ⟨by decide +kernel, rfl⟩
theorem e_X3_isCursorInRegion_15 : z_D 3 M_X3_isCursorInRegion 15 18 (.getfield 20) := ⟨by decide +kernel, rfl⟩
theorem e_X3_isCursorInRegion_18 : z_D 3 M_X3_isCursorInRegion 18 21 (.getfield 66) := ⟨by decide +kernel, rfl⟩
theorem e_X3_isCursorInRegion_21 : z_D 1 M_X3_isCursorInRegion 21 22 (.aload_n 0) := ⟨by decide +kernel, rfl⟩
theorem e_X3_isCursorInRegion_22 : z_D 3 M_X3_isCursorInRegion 22 25 (.getfield 44) := ⟨by decide +kernel, rfl⟩
theorem e_X3_isCursorInRegion_25 : z_J M_X3_isCursorInRegion 25 28 32 (7) (.if_icmp .gt 7) := ⟨by decide +kernel, rfl, rfl⟩
theorem e_X3_isCursorInRegion_28 : z_D 1 M_X3_isCursorInRegion 28 29 (.iconst 1) := ⟨by decide +kernel, rfl⟩
theorem e_X3_isCursorInRegion_29 : z_J M_X3_isCursorInRegion 29 32 33 (4) (.goto 4) := ⟨by decide +kernel, rfl, rfl⟩
theorem e_X3_isCursorInRegion_32 : z_D 1 M_X3_isCursorInRegion 32 33 (.iconst 0) := ⟨by decide +kernel, rfl⟩
theorem e_X3_isCursorInRegion_33 : z_D 1 M_X3_isCursorInRegion 33 34 (.ireturn) := ⟨by decide +kernel, rfl⟩
theorem e_X3_keptPlace_0 : z_D 1 M_X3_keptPlace 0 1 (.iload_n 1) := ⟨by decide +kernel, rfl⟩
theorem e_X3_keptPlace_1 : z_J M_X3_keptPlace 1 4 22 (21) (.ifCond .lt 21) := ⟨by decide +kernel, rfl, rfl⟩
theorem e_X3_keptPlace_4 : z_D 1 M_X3_keptPlace 4 5 (.iload_n 1) := ⟨by decide +kernel, rfl⟩
theorem e_X3_keptPlace_5 : z_D 1 M_X3_keptPlace 5 6 (.aload_n 0) := ⟨by decide +kernel, rfl⟩
theorem e_X3_keptPlace_6 : z_D 3 M_X3_keptPlace 6 9 (.getfield 24) := ⟨by decide +kernel, rfl⟩
theorem e_X3_keptPlace_9 : z_D 1 M_X3_keptPlace 9 10 (.arraylength) := ⟨by decide +kernel, rfl⟩
theorem e_X3_keptPlace_10 : z_J M_X3_keptPlace 10 13 22 (12) (.if_icmp .ge 12) := ⟨by decide +kernel, rfl, rfl⟩
theorem e_X3_keptPlace_13 : z_D 1 M_X3_keptPlace 13 14 (.aload_n 0) := ⟨by decide +kernel, rfl⟩
theorem e_X3_keptPlace_14 : z_D 3 M_X3_keptPlace 14 17 (.getfield 24) := ⟨by decide +kernel, rfl⟩
theorem e_X3_keptPlace_17 : z_D 1 M_X3_keptPlace 17 18 (.iload_n 1) := ⟨by decide +kernel, rfl⟩
theorem e_X3_keptPlace_18 : z_D 1 M_X3_keptPlace 18 19 (.aaload) := ⟨by decide +kernel, rfl⟩
theorem e_X3_keptPlace_19 : z_J M_X3_keptPlace 19 22 26 (7) (.goto 7) := ⟨by decide +kernel, rfl, rfl⟩
theorem e_X3_keptPlace_22 : z_D 1 M_X3_keptPlace 22 23 (.aload_n 0) := ⟨by decide +kernel, rfl⟩
theorem e_X3_keptPlace_23 : z_D 3 M_X3_keptPlace 23 26 (.getfield 20) := ⟨by decide +kernel, rfl⟩
theorem e_X3_keptPlace_26 : z_D 1 M_X3_keptPlace 26 27 (.areturn) := ⟨by decide +kernel, rfl⟩
theorem e_X3_keepCursor_0 : z_D 1 M_X3_keepCursor 0 1 (.aload_n 0) := ⟨by decide +kernel, rfl⟩
theorem e_X3_keepCursor_1 : z_D 1 M_X3_keepCursor 1 2 (.aload_n 0) := ⟨by decide +kernel, rfl⟩
theorem e_X3_keepCursor_2 : z_D 3 M_X3_keepCursor 2 5 (.getfield 28) := ⟨by decide +kernel, rfl⟩
theorem e_X3_keepCursor_5 : z_D 3 M_X3_keepCursor 5 8 (.invokevirtual 52) := ⟨by decide +kernel, rfl⟩
theorem e_X3_keepCursor_8 : z_D 1 M_X3_keepCursor 8 9 (.aload_n 0) := ⟨by decide +kernel, rfl⟩
theorem e_X3_keepCursor_9 : z_D 3 M_X3_keepCursor 9 12 (.getfield 20) := ⟨by decide +kernel, rfl⟩
theorem e_X3_keepCursor_12 : z_D 3 M_X3_keepCursor 12 15 (.getfield 66) := ⟨by decide +kernel, rfl⟩
theorem e_X3_keepCursor_15 : z_D 1 M_X3_keepCursor 15 16 (.aload_n 0) := ⟨by decide +kernel, rfl⟩
theorem e_X3_keepCursor_16 : z_D 3 M_X3_keepCursor 16 19 (.getfield 20) := ⟨by decide +kernel, rfl⟩
theorem e_X3_keepCursor_19 : z_D 3 M_X3_keepCursor 19 22 (.getfield 69) := ⟨by decide +kernel, rfl⟩
theorem e_X3_keepCursor_22 : z_D 3 M_X3_keepCursor 22 25 (.invokevirtual 72) := ⟨by decide +kernel, rfl⟩
theorem e_X3_keepCursor_25 : z_D 1 M_X3_keepCursor 25 26 (.aload_n 0) := ⟨by decide +kernel, rfl⟩
theorem e_X3_keepCursor_26 : z_D 1 M_X3_keepCursor 26 27 (.dup) := ⟨by decide +kernel, rfl⟩
theorem e_X3_keepCursor_27 : z_D 3 M_X3_keepCursor 27 30 (.getfield 28) := ⟨by decide +kernel, rfl⟩
theorem e_X3_keepCursor_30 : z_D 1 M_X3_keepCursor 30 31 (.iconst 1) := ⟨by decide +kernel, rfl⟩
theorem e_X3_keepCursor_31 : z_D 1 M_X3_keepCursor 31 32 (.iadd) := ⟨by decide +kernel, rfl⟩
theorem e_X3_keepCursor_32 : z_D 3 M_X3_keepCursor 32 35 (.putfield 28) := ⟨by decide +kernel, rfl⟩
theorem e_X3_keepCursor_35 : z_D 1 M_X3_keepCursor 35 36 (.return_) := ⟨by decide +kernel, rfl⟩
theorem e_X3_takeCursorBack_0 : z_D 1 M_X3_takeCursorBack 0 1 (.aload_n 0) := ⟨by decide +kernel, rfl⟩
theorem e_X3_takeCursorBack_1 : z_D 1 M_X3_takeCursorBack 1 2 (.dup) := ⟨by decide +kernel, rfl⟩
theorem e_X3_takeCursorBack_2 : z_D 3 M_X3_takeCursorBack 2 5 (.getfield 28) := ⟨by decide +kernel, rfl⟩
theorem e_X3_takeCursorBack_5 : z_D 1 M_X3_takeCursorBack 5 6 (.iconst 1) := ⟨by decide +kernel, rfl⟩
theorem e_X3_takeCursorBack_6 : z_D 1 M_X3_takeCursorBack 6 7 (.isub) := ⟨by decide +kernel, rfl⟩
theorem e_X3_takeCursorBack_7 : z_D 3 M_X3_takeCursorBack 7 10 (.putfield 28) := ⟨by decide +kernel, rfl⟩
theorem e_X3_takeCursorBack_10 : z_D 1 M_X3_takeCursorBack 10 11 (.aload_n 0) := ⟨by decide +kernel, rfl⟩
theorem e_X3_takeCursorBack_11 : z_D 3 M_X3_takeCursorBack 11 14 (.getfield 20) := ⟨by decide +kernel, rfl⟩
theorem e_X3_takeCursorBack_14 : z_D 1 M_X3_takeCursorBack 14 15 (.aload_n 0) := ⟨by decide +kernel, rfl⟩
theorem e_X3_takeCursorBack_15 : z_D 1 M_X3_takeCursorBack 15 16 (.aload_n 0) := ⟨by decide +kernel, rfl⟩
theorem e_X3_takeCursorBack_16 : z_D 3 M_X3_takeCursorBack 16 19 (.getfield 28) := ⟨by decide +kernel, rfl⟩
theorem e_X3_takeCursorBack_19 : z_D 3 M_X3_takeCursorBack 19 22 (.invokevirtual 52) := ⟨by decide +kernel, rfl⟩
theorem e_X3_takeCursorBack_22 : z_D 3 M_X3_takeCursorBack 22 25 (.invokevirtual 48) := ⟨by decide +kernel, rfl⟩
theorem e_X3_takeCursorBack_25 : z_D 1 M_X3_takeCursorBack 25 26 (.return_) := ⟨by decide +kernel, rfl⟩
theorem e_X3_taken_0 : z_D 1 M_X3_taken 0 1 (.iconst 0) := ⟨by decide +kernel, rfl⟩
theorem e_X3_taken_1 : z_D 1 M_X3_taken 1 2 (.istore_n 1) := ⟨by decide +kernel, rfl⟩
theorem e_X3_taken_2 : z_D 1 M_X3_taken 2 3 (.iconst 0) := ⟨by decide +kernel, rfl⟩
theorem e_X3_taken_3 : z_D 1 M_X3_taken 3 4 (.istore_n 2) := ⟨by decide +kernel, rfl⟩
theorem e_X3_taken_4 : z_D 1 M_X3_taken 4 5 (.iload_n 2) := ⟨by decide +kernel, rfl⟩
theorem e_X3_taken_5 : z_D 1 M_X3_taken 5 6 (.aload_n 0) := ⟨by decide +kernel, rfl⟩
theorem e_X3_taken_6 : z_D 3 M_X3_taken 6 9 (.getfield 38) := ⟨by decide +kernel, rfl⟩
theorem e_X3_taken_9 : z_J M_X3_taken 9 12 29 (20) (.if_icmp .ge 20) := ⟨by decide +kernel, rfl, rfl⟩
theorem e_X3_taken_12 : z_D 1 M_X3_taken 12 13 (.iload_n 1) := ⟨by decide +kernel, rfl⟩
theorem e_X3_taken_13 : z_D 1 M_X3_taken 13 14 (.aload_n 0) := ⟨by decide +kernel, rfl⟩
theorem e_X3_taken_14 : z_D 1 M_X3_taken 14 15 (.iload_n 2) := ⟨by decide +kernel, rfl⟩
theorem e_X3_taken_15 : z_D 3 M_X3_taken 15 18 (.invokevirtual 76) := ⟨by decide +kernel, rfl⟩
theorem e_X3_taken_18 : z_D 3 M_X3_taken 18 21 (.invokevirtual 79) := ⟨by decide +kernel, rfl⟩
theorem e_X3_taken_21 : z_D 1 M_X3_taken 21 22 (.iadd) := ⟨by decide +kernel, rfl⟩
theorem e_X3_taken_22 : z_D 1 M_X3_taken 22 23 (.istore_n 1) := ⟨by decide +kernel, rfl⟩
theorem e_X3_taken_23 : z_D 3 M_X3_taken 23 26 (.iinc 2 1) := ⟨by decide +kernel, rfl⟩
theorem e_X3_taken_26 : z_J M_X3_taken 26 29 4 (-22) (.goto (-22)) := ⟨by decide +kernel, rfl, rfl⟩
theorem e_X3_taken_29 : z_D 1 M_X3_taken 29 30 (.iload_n 1) := ⟨by decide +kernel, rfl⟩
theorem e_X3_taken_30 : z_D 1 M_X3_taken 30 31 (.ireturn) := ⟨by decide +kernel, rfl⟩
theorem e_X3_write_0 : z_D 1 M_X3_write 0 1 (.aload_n 0) := ⟨by decide +kernel, rfl⟩
theorem e_X3_write_1 : z_D 3 M_X3_write 1 4 (.getfield 20) := ⟨by decide +kernel, rfl⟩
theorem e_X3_write_4 : z_D 3 M_X3_write 4 7 (.getfield 83) := ⟨by decide +kernel, rfl⟩
theorem e_X3_write_7 : z_J M_X3_write 7 10 23 (16) (.ifCond .eq 16) := ⟨by decide +kernel, rfl, rfl⟩
theorem e_X3_write_10 : z_D 1 M_X3_write 10 11 (.aload_n 0) := ⟨by decide +kernel, rfl⟩
theorem e_X3_write_11 : z_D 3 M_X3_write 11 14 (.invokevirtual 87) := ⟨by decide +kernel, rfl⟩
theorem e_X3_write_14 : z_D 1 M_X3_write 14 15 (.pop) := ⟨by decide +kernel, rfl⟩
theorem e_X3_write_15 : z_D 1 M_X3_write 15 16 (.aload_n 0) := ⟨by decide +kernel, rfl⟩
theorem e_X3_write_16 : z_D 3 M_X3_write 16 19 (.getfield 20) := ⟨by decide +kernel, rfl⟩
theorem e_X3_write_19 : z_D 1 M_X3_write 19 20 (.iconst 0) := ⟨by decide +kernel, rfl⟩
theorem e_X3_write_20 : z_D 3 M_X3_write 20 23 (.putfield 83) := ⟨by decide +kernel, rfl⟩
theorem e_X3_write_23 : z_D 1 M_X3_write 23 24 (.iload_n 1) := ⟨by decide +kernel, rfl⟩
theorem e_X3_write_24 : z_D 3 M_X3_write 24 27 (.invokestatic 91) := ⟨by decide +kernel, rfl⟩
theorem e_X3_write_27 : z_D 1 M_X3_write 27 28 (.iconst 2) := ⟨by decide +kernel, rfl⟩
theorem e_X3_write_28 : z_J M_X3_write 28 31 98 (70) (.if_icmp .ne 70) := ⟨by decide +kernel, rfl, rfl⟩
theorem e_X3_write_31 : z_D 1 M_X3_write 31 32 (.aload_n 0) := ⟨by decide +kernel, rfl⟩
theorem e_X3_write_32 : z_D 3 M_X3_write 32 35 (.getfield 20) := ⟨by decide +kernel, rfl⟩
theorem e_X3_write_35 : z_D 3 M_X3_write 35 38 (.getfield 69) := ⟨by decide +kernel, rfl⟩
theorem e_X3_write_38 : z_D 1 M_X3_write 38 39 (.aload_n 0) := ⟨by decide +kernel, rfl⟩
theorem e_X3_write_39 : z_D 3 M_X3_write 39 42 (.getfield 35) := ⟨by decide +kernel, rfl⟩
theorem e_X3_write_42 : z_D 1 M_X3_write 42 43 (.iconst 1) := ⟨by decide +kernel, rfl⟩
theorem e_X3_write_43 : z_D 1 M_X3_write 43 44 (.isub) := ⟨by decide +kernel, rfl⟩
theorem e_X3_write_44 : z_J M_X3_write 44 47 98 (54) (.if_icmp .ne 54) := ⟨by decide +kernel, rfl, rfl⟩
theorem e_X3_write_47 : z_D 1 M_X3_write 47 48 (.aload_n 0) := ⟨by decide +kernel, rfl⟩
theorem e_X3_write_48 : z_D 1 M_X3_write 48 49 (.aload_n 0) := ⟨by decide +kernel, rfl⟩
theorem e_X3_write_49 : z_D 3 M_X3_write 49 52 (.getfield 20) := ⟨by decide +kernel, rfl⟩
theorem e_X3_write_52 : z_D 3 M_X3_write 52 55 (.getfield 66) := ⟨by decide +kernel, rfl⟩
theorem e_X3_write_55 : z_D 3 M_X3_write 55 58 (.invokevirtual 76) := ⟨by decide +kernel, rfl⟩
theorem e_X3_write_58 : z_D 1 M_X3_write 58 59 (.aload_n 0) := ⟨by decide +kernel, rfl⟩
theorem e_X3_write_59 : z_D 3 M_X3_write 59 62 (.getfield 20) := ⟨by decide +kernel, rfl⟩
theorem e_X3_write_62 : z_D 3 M_X3_write 62 65 (.getfield 69) := ⟨by decide +kernel, rfl⟩
theorem e_X3_write_65 : z_D 2 M_X3_write 65 67 (.bipush 32) := ⟨by decide +kernel, rfl⟩
theorem e_X3_write_67 : z_D 1 M_X3_write 67 68 (.aload_n 0) := ⟨by decide +kernel, rfl⟩
theorem e_X3_write_68 : z_D 3 M_X3_write 68 71 (.getfield 35) := ⟨by decide +kernel, rfl⟩
theorem e_X3_write_71 : z_D 3 M_X3_write 71 74 (.invokevirtual 95) := ⟨by decide +kernel, rfl⟩
theorem e_X3_write_74 : z_D 1 M_X3_write 74 75 (.aload_n 0) := ⟨by decide +kernel, rfl⟩
theorem e_X3_write_75 : z_D 3 M_X3_write 75 78 (.invokevirtual 87) := ⟨by decide +kernel, rfl⟩
theorem e_X3_write_78 : z_J M_X3_write 78 81 98 (20) (.ifCond .eq 20) := ⟨by decide +kernel, rfl, rfl⟩
theorem e_X3_write_81 : z_D 1 M_X3_write 81 82 (.aload_n 0) := ⟨by decide +kernel, rfl⟩
theorem e_X3_write_82 : z_D 1 M_X3_write 82 83 (.aload_n 0) := ⟨by decide +kernel, rfl⟩
theorem e_X3_write_83 : z_D 3 M_X3_write 83 86 (.getfield 20) := ⟨by decide +kernel, rfl⟩
theorem e_X3_write_86 : z_D 3 M_X3_write 86 89 (.getfield 66) := ⟨by decide +kernel, rfl⟩
theorem e_X3_write_89 : z_D 1 M_X3_write 89 90 (.iconst 1) := ⟨by decide +kernel, rfl⟩
theorem e_X3_write_90 : z_D 1 M_X3_write 90 91 (.isub) := ⟨by decide +kernel, rfl⟩
theorem e_X3_write_91 : z_D 3 M_X3_write 91 94 (.invokevirtual 76) := ⟨by decide +kernel, rfl⟩
theorem e_X3_write_94 : z_D 1 M_X3_write 94 95 (.iconst 1) := ⟨by decide +kernel, rfl⟩
theorem e_X3_write_95 : z_D 3 M_X3_write 95 98 (.putfield 99) := ⟨by decide +kernel, rfl⟩
theorem e_X3_write_98 : z_D 1 M_X3_write 98 99 (.aload_n 0) := ⟨by decide +kernel, rfl⟩
theorem e_X3_write_99 : z_D 1 M_X3_write 99 100 (.aload_n 0) := ⟨by decide +kernel, rfl⟩
theorem e_X3_write_100 : z_D 3 M_X3_write 100 103 (.getfield 20) := ⟨by decide +kernel, rfl⟩
theorem e_X3_write_103 : z_D 3 M_X3_write 103 106 (.getfield 66) := ⟨by decide +kernel, rfl⟩
theorem e_X3_write_106 : z_D 3 M_X3_write 106 109 (.invokevirtual 76) := ⟨by decide +kernel, rfl⟩
theorem e_X3_write_109 : z_D 1 M_X3_write 109 110 (.aload_n 0) := ⟨by decide +kernel, rfl⟩
theorem e_X3_write_110 : z_D 3 M_X3_write 110 113 (.getfield 20) := ⟨by decide +kernel, rfl⟩
theorem e_X3_write_113 : z_D 3 M_X3_write 113 116 (.getfield 69) := ⟨by decide +kernel, rfl⟩
theorem e_X3_write_116 : z_D 1 M_X3_write 116 117 (.iload_n 1) := ⟨by decide +kernel, rfl⟩
theorem e_X3_write_117 : z_D 1 M_X3_write 117 118 (.aload_n 0) := ⟨by decide +kernel, rfl⟩
theorem e_X3_write_118 : z_D 3 M_X3_write 118 121 (.getfield 35) := ⟨by decide +kernel, rfl⟩
theorem e_X3_write_121 : z_D 3 M_X3_write 121 124 (.invokevirtual 95) := ⟨by decide +kernel, rfl⟩
theorem e_X3_write_124 : z_D 1 M_X3_write 124 125 (.aload_n 0) := ⟨by decide +kernel, rfl⟩
theorem e_X3_write_125 : z_D 3 M_X3_write 125 128 (.getfield 20) := ⟨by decide +kernel, rfl⟩
theorem e_X3_write_128 : z_D 1 M_X3_write 128 129 (.dup) := ⟨by decide +kernel, rfl⟩
theorem e_X3_write_129 : z_D 3 M_X3_write 129 132 (.getfield 69) := ⟨by decide +kernel, rfl⟩
theorem e_X3_write_132 : z_D 1 M_X3_write 132 133 (.iload_n 1) := ⟨by decide +kernel, rfl⟩
theorem e_X3_write_133 : z_D 3 M_X3_write 133 136 (.invokestatic 91) := ⟨by decide +kernel, rfl⟩
theorem e_X3_write_136 : z_D 1 M_X3_write 136 137 (.iadd) := ⟨by decide +kernel, rfl⟩
theorem e_X3_write_137 : z_D 3 M_X3_write 137 140 (.putfield 69) := ⟨by decide +kernel, rfl⟩
theorem e_X3_write_140 : z_D 1 M_X3_write 140 141 (.aload_n 0) := ⟨by decide +kernel, rfl⟩
theorem e_X3_write_141 : z_D 3 M_X3_write 141 144 (.getfield 20) := ⟨by decide +kernel, rfl⟩
theorem e_X3_write_144 : z_D 3 M_X3_write 144 147 (.getfield 69) := ⟨by decide +kernel, rfl⟩
theorem e_X3_write_147 : z_D 1 M_X3_write 147 148 (.aload_n 0) := ⟨by decide +kernel, rfl⟩
theorem e_X3_write_148 : z_D 3 M_X3_write 148 151 (.getfield 35) := ⟨by decide +kernel, rfl⟩
theorem e_X3_write_151 : z_J M_X3_write 151 154 175 (24) (.if_icmp .lt 24) := ⟨by decide +kernel, rfl, rfl⟩
theorem e_X3_write_154 : z_D 1 M_X3_write 154 155 (.aload_n 0) := ⟨by decide +kernel, rfl⟩
theorem e_X3_write_155 : z_D 3 M_X3_write 155 158 (.getfield 20) := ⟨by decide +kernel, rfl⟩
theorem e_X3_write_158 : z_D 1 M_X3_write 158 159 (.aload_n 0) := ⟨by decide +kernel, rfl⟩
theorem e_X3_write_159 : z_D 3 M_X3_write 159 162 (.getfield 35) := ⟨by decide +kernel, rfl⟩
theorem e_X3_write_162 : z_D 1 M_X3_write 162 163 (.iconst 1) := ⟨by decide +kernel, rfl⟩
theorem e_X3_write_163 : z_D 1 M_X3_write 163 164 (.isub) := ⟨by decide +kernel, rfl⟩
theorem e_X3_write_164 : z_D 3 M_X3_write 164 167 (.putfield 69) := ⟨by decide +kernel, rfl⟩
theorem e_X3_write_167 : z_D 1 M_X3_write 167 168 (.aload_n 0) := ⟨by decide +kernel, rfl⟩
theorem e_X3_write_168 : z_D 3 M_X3_write 168 171 (.getfield 20) := ⟨by decide +kernel, rfl⟩
theorem e_X3_write_171 : z_D 1 M_X3_write 171 172 (.iconst 1) := ⟨by decide +kernel, rfl⟩
theorem e_X3_write_172 : z_D 3 M_X3_write 172 175 (.putfield 83) := ⟨by decide +kernel, rfl⟩
theorem e_X3_write_175 : z_D 1 M_X3_write 175 176 (.return_) := ⟨by decide +kernel, rfl⟩
theorem e_X3_goOn_0 : z_D 1 M_X3_goOn 0 1 (.aload_n 0) := ⟨by decide +kernel, rfl⟩
theorem e_X3_goOn_1 : z_D 3 M_X3_goOn 1 4 (.invokevirtual 102) := ⟨by decide +kernel, rfl⟩
theorem e_X3_goOn_4 : z_D 1 M_X3_goOn 4 5 (.istore_n 1) := ⟨by decide +kernel, rfl⟩
theorem e_X3_goOn_5 : z_D 1 M_X3_goOn 5 6 (.aload_n 0) := ⟨by decide +kernel, rfl⟩
theorem e_X3_goOn_6 : z_D 3 M_X3_goOn 6 9 (.getfield 20) := ⟨by decide +kernel, rfl⟩
theorem e_X3_goOn_9 : z_D 1 M_X3_goOn 9 10 (.iconst 0) := ⟨by decide +kernel, rfl⟩
theorem e_X3_goOn_10 : z_D 3 M_X3_goOn 10 13 (.putfield 69) := ⟨by decide +kernel, rfl⟩
theorem e_X3_goOn_13 : z_D 1 M_X3_goOn 13 14 (.iload_n 1) := ⟨by decide +kernel, rfl⟩
theorem e_X3_goOn_14 : z_J M_X3_goOn 14 17 34 (20) (.ifCond .eq 20) := ⟨by decide +kernel, rfl, rfl⟩
theorem e_X3_goOn_17 : z_D 1 M_X3_goOn 17 18 (.aload_n 0) := ⟨by decide +kernel, rfl⟩
theorem e_X3_goOn_18 : z_D 1 M_X3_goOn 18 19 (.aload_n 0) := ⟨by decide +kernel, rfl⟩
theorem e_X3_goOn_19 : z_D 3 M_X3_goOn 19 22 (.getfield 20) := ⟨by decide +kernel, rfl⟩
theorem e_X3_goOn_22 : z_D 3 M_X3_goOn 22 25 (.getfield 66) := ⟨by decide +kernel, rfl⟩
theorem e_X3_goOn_25 : z_D 1 M_X3_goOn 25 26 (.iconst 1) := ⟨by decide +kernel, rfl⟩
theorem e_X3_goOn_26 : z_D 1 M_X3_goOn 26 27 (.isub) := ⟨by decide +kernel, rfl⟩
theorem e_X3_goOn_27 : z_D 3 M_X3_goOn 27 30 (.invokevirtual 76) := ⟨by decide +kernel, rfl⟩
theorem e_X3_goOn_30 : z_D 1 M_X3_goOn 30 31 (.iconst 1) := ⟨by decide +kernel, rfl⟩
theorem e_X3_goOn_31 : z_D 3 M_X3_goOn 31 34 (.putfield 105) := ⟨by decide +kernel, rfl⟩
theorem e_X3_goOn_34 : z_D 1 M_X3_goOn 34 35 (.iload_n 1) := ⟨by decide +kernel, rfl⟩
theorem e_X3_goOn_35 : z_D 1 M_X3_goOn 35 36 (.ireturn) := ⟨by decide +kernel, rfl⟩
theorem e_X3_lineFeed_0 : z_D 1 M_X3_lineFeed 0 1 (.aload_n 0) := ⟨by decide +kernel, rfl⟩
theorem e_X3_lineFeed_1 : z_D 3 M_X3_lineFeed 1 4 (.getfield 20) := ⟨by decide +kernel, rfl⟩
theorem e_X3_lineFeed_4 : z_D 3 M_X3_lineFeed 4 7 (.getfield 66) := ⟨by decide +kernel, rfl⟩
theorem e_X3_lineFeed_7 : z_D 1 M_X3_lineFeed 7 8 (.aload_n 0) := ⟨by decide +kernel, rfl⟩
theorem e_X3_lineFeed_8 : z_D 3 M_X3_lineFeed 8 11 (.getfield 44) := ⟨by decide +kernel, rfl⟩
theorem e_X3_lineFeed_11 : z_J M_X3_lineFeed 11 14 59 (48) (.if_icmp .eq 48) := ⟨by decide +kernel, rfl, rfl⟩
theorem e_X3_lineFeed_14 : z_D 1 M_X3_lineFeed 14 15 (.aload_n 0) := ⟨by decide +kernel, rfl⟩
theorem e_X3_lineFeed_15 : z_D 3 M_X3_lineFeed 15 18 (.getfield 20) := ⟨by decide +kernel, rfl⟩
theorem e_X3_lineFeed_18 : z_D 3 M_X3_lineFeed 18 21 (.getfield 66) := ⟨by decide +kernel, rfl⟩
theorem e_X3_lineFeed_21 : z_D 1 M_X3_lineFeed 21 22 (.aload_n 0) := ⟨by decide +kernel, rfl⟩
theorem e_X3_lineFeed_22 : z_D 3 M_X3_lineFeed 22 25 (.getfield 38) := ⟨by decide +kernel, rfl⟩
theorem e_X3_lineFeed_25 : z_D 1 M_X3_lineFeed 25 26 (.iconst 1) := ⟨by decide +kernel, rfl⟩
theorem e_X3_lineFeed_26 : z_D 1 M_X3_lineFeed 26 27 (.isub) := ⟨by decide +kernel, rfl⟩
theorem e_X3_lineFeed_27 : z_J M_X3_lineFeed 27 30 34 (7) (.if_icmp .ge 7) := ⟨by decide +kernel, rfl, rfl⟩
theorem e_X3_lineFeed_30 : z_D 1 M_X3_lineFeed 30 31 (.iconst 1) := ⟨by decide +kernel, rfl⟩
theorem e_X3_lineFeed_31 : z_J M_X3_lineFeed 31 34 35 (4) (.goto 4) := ⟨by decide +kernel, rfl, rfl⟩
theorem e_X3_lineFeed_34 : z_D 1 M_X3_lineFeed 34 35 (.iconst 0) := ⟨by decide +kernel, rfl⟩
theorem e_X3_lineFeed_35 : z_D 1 M_X3_lineFeed 35 36 (.istore_n 1) := ⟨by decide +kernel, rfl⟩
theorem e_X3_lineFeed_36 : z_D 1 M_X3_lineFeed 36 37 (.aload_n 0) := ⟨by decide +kernel, rfl⟩
theorem e_X3_lineFeed_37 : z_D 3 M_X3_lineFeed 37 40 (.getfield 20) := ⟨by decide +kernel, rfl⟩
theorem e_X3_lineFeed_40 : z_D 1 M_X3_lineFeed 40 41 (.dup) := ⟨by decide +kernel, rfl⟩
theorem e_X3_lineFeed_41 : z_D 3 M_X3_lineFeed 41 44 (.getfield 66) := ⟨by decide +kernel, rfl⟩
theorem e_X3_lineFeed_44 : z_D 1 M_X3_lineFeed 44 45 (.iload_n 1) := ⟨by decide +kernel, rfl⟩
theorem e_X3_lineFeed_45 : z_J M_X3_lineFeed 45 48 52 (7) (.ifCond .eq 7) := ⟨by decide +kernel, rfl, rfl⟩
theorem e_X3_lineFeed_48 : z_D 1 M_X3_lineFeed 48 49 (.iconst 1) := ⟨by decide +kernel, rfl⟩
theorem e_X3_lineFeed_49 : z_J M_X3_lineFeed 49 52 53 (4) (.goto 4) := ⟨by decide +kernel, rfl, rfl⟩
theorem e_X3_lineFeed_52 : z_D 1 M_X3_lineFeed 52 53 (.iconst 0) := ⟨by decide +kernel, rfl⟩
theorem e_X3_lineFeed_53 : z_D 1 M_X3_lineFeed 53 54 (.iadd) := ⟨by decide +kernel, rfl⟩
theorem e_X3_lineFeed_54 : z_D 3 M_X3_lineFeed 54 57 (.putfield 66) := ⟨by decide +kernel, rfl⟩
theorem e_X3_lineFeed_57 : z_D 1 M_X3_lineFeed 57 58 (.iload_n 1) := ⟨by decide +kernel, rfl⟩
theorem e_X3_lineFeed_58 : z_D 1 M_X3_lineFeed 58 59 (.ireturn) := ⟨by decide +kernel, rfl⟩
theorem e_X3_lineFeed_59 : z_D 1 M_X3_lineFeed 59 60 (.aload_n 0) := ⟨by decide +kernel, rfl⟩
theorem e_X3_lineFeed_60 : z_D 3 M_X3_lineFeed 60 63 (.getfield 41) := ⟨by decide +kernel, rfl⟩
theorem e_X3_lineFeed_63 : z_J M_X3_lineFeed 63 66 73 (10) (.ifCond .ne 10) := ⟨by decide +kernel, rfl, rfl⟩
theorem e_X3_lineFeed_66 : z_D 1 M_X3_lineFeed 66 67 (.aload_n 0) := ⟨by decide +kernel, rfl⟩
theorem e_X3_lineFeed_67 : z_D 3 M_X3_lineFeed 67 70 (.invokevirtual 108) := ⟨by decide +kernel, rfl⟩
theorem e_X3_lineFeed_70 : z_J M_X3_lineFeed 70 73 81 (11) (.goto 11) := ⟨by decide +kernel, rfl, rfl⟩
theorem e_X3_lineFeed_73 : z_D 1 M_X3_lineFeed 73 74 (.aload_n 0) := ⟨by decide +kernel, rfl⟩
theorem e_X3_lineFeed_74 : z_D 1 M_X3_lineFeed 74 75 (.aload_n 0) := ⟨by decide +kernel, rfl⟩
theorem e_X3_lineFeed_75 : z_D 3 M_X3_lineFeed 75 78 (.getfield 41) := ⟨by decide +kernel, rfl⟩
theorem e_X3_lineFeed_78 : z_D 3 M_X3_lineFeed 78 81 (.invokevirtual 111) := ⟨by decide +kernel, rfl⟩
theorem e_X3_lineFeed_81 : z_D 1 M_X3_lineFeed 81 82 (.iconst 1) := ⟨by decide +kernel, rfl⟩
theorem e_X3_lineFeed_82 : z_D 1 M_X3_lineFeed 82 83 (.ireturn) := ⟨by decide +kernel, rfl⟩
theorem e_X3_pushTopRow_0 : z_D 1 M_X3_pushTopRow 0 1 (.aload_n 0) := ⟨by decide +kernel, rfl⟩
theorem e_X3_pushTopRow_1 : z_D 3 M_X3_pushTopRow 1 4 (.getfield 32) := ⟨by decide +kernel, rfl⟩
theorem e_X3_pushTopRow_4 : z_D 1 M_X3_pushTopRow 4 5 (.aload_n 0) := ⟨by decide +kernel, rfl⟩
theorem e_X3_pushTopRow_5 : z_D 3 M_X3_pushTopRow 5 8 (.getfield 44) := ⟨by decide +kernel, rfl⟩
theorem e_X3_pushTopRow_8 : z_D 1 M_X3_pushTopRow 8 9 (.iadd) := ⟨by decide +kernel, rfl⟩
theorem e_X3_pushTopRow_9 : z_D 1 M_X3_pushTopRow 9 10 (.istore_n 1) := ⟨by decide +kernel, rfl⟩
theorem e_X3_pushTopRow_10 : z_D 1 M_X3_pushTopRow 10 11 (.aload_n 0) := ⟨by decide +kernel, rfl⟩
theorem e_X3_pushTopRow_11 : z_D 1 M_X3_pushTopRow 11 12 (.iload_n 1) := ⟨by decide +kernel, rfl⟩
theorem e_X3_pushTopRow_12 : z_D 3 M_X3_pushTopRow 12 15 (.invokevirtual 56) := ⟨by decide +kernel, rfl⟩
theorem e_X3_pushTopRow_15 : z_D 3 M_X3_pushTopRow 15 18 (.invokevirtual 115) := ⟨by decide +kernel, rfl⟩
theorem e_X3_pushTopRow_18 : z_D 1 M_X3_pushTopRow 18 19 (.aload_n 0) := ⟨by decide +kernel, rfl⟩
theorem e_X3_pushTopRow_19 : z_D 3 M_X3_pushTopRow 19 22 (.getfield 32) := ⟨by decide +kernel, rfl⟩
theorem e_X3_pushTopRow_22 : z_D 2 M_X3_pushTopRow 22 24 (.bipush 24) := ⟨by decide +kernel, rfl⟩
theorem e_X3_pushTopRow_24 : z_J M_X3_pushTopRow 24 27 56 (32) (.if_icmp .ge 32) := ⟨by decide +kernel, rfl, rfl⟩
theorem e_X3_pushTopRow_27 : z_D 1 M_X3_pushTopRow 27 28 (.aload_n 0) := ⟨by decide +kernel, rfl⟩
theorem e_X3_pushTopRow_28 : z_D 1 M_X3_pushTopRow 28 29 (.aload_n 0) := ⟨by decide +kernel, rfl⟩
theorem e_X3_pushTopRow_29 : z_D 3 M_X3_pushTopRow 29 32 (.getfield 32) := ⟨by decide +kernel, rfl⟩
theorem e_X3_pushTopRow_32 : z_D 1 M_X3_pushTopRow 32 33 (.aload_n 0) := ⟨by decide +kernel, rfl⟩
theorem e_X3_pushTopRow_33 : z_D 3 M_X3_pushTopRow 33 36 (.getfield 38) := ⟨by decide +kernel, rfl⟩
theorem e_X3_pushTopRow_36 : z_D 1 M_X3_pushTopRow 36 37 (.iadd) := ⟨by decide +kernel, rfl⟩
theorem e_X3_pushTopRow_37 : z_D 1 M_X3_pushTopRow 37 38 (.iload_n 1) := ⟨by decide +kernel, rfl⟩
theorem e_X3_pushTopRow_38 : z_D 1 M_X3_pushTopRow 38 39 (.iconst 1) := ⟨by decide +kernel, rfl⟩
theorem e_X3_pushTopRow_39 : z_D 1 M_X3_pushTopRow 39 40 (.iadd) := ⟨by decide +kernel, rfl⟩
theorem e_X3_pushTopRow_40 : z_D 3 M_X3_pushTopRow 40 43 (.invokevirtual 118) := ⟨by decide +kernel, rfl⟩
theorem e_X3_pushTopRow_43 : z_D 1 M_X3_pushTopRow 43 44 (.aload_n 0) := ⟨by decide +kernel, rfl⟩
theorem e_X3_pushTopRow_44 : z_D 1 M_X3_pushTopRow 44 45 (.dup) := ⟨by decide +kernel, rfl⟩
theorem e_X3_pushTopRow_45 : z_D 3 M_X3_pushTopRow 45 48 (.getfield 32) := ⟨by decide +kernel, rfl⟩
theorem e_X3_pushTopRow_48 : z_D 1 M_X3_pushTopRow 48 49 (.iconst 1) := ⟨by decide +kernel, rfl⟩
theorem e_X3_pushTopRow_49 : z_D 1 M_X3_pushTopRow 49 50 (.iadd) := ⟨by decide +kernel, rfl⟩
theorem e_X3_pushTopRow_50 : z_D 3 M_X3_pushTopRow 50 53 (.putfield 32) := ⟨by decide +kernel, rfl⟩
theorem e_X3_pushTopRow_53 : z_J M_X3_pushTopRow 53 56 62 (9) (.goto 9) := ⟨by decide +kernel, rfl, rfl⟩
theorem e_X3_pushTopRow_56 : z_D 1 M_X3_pushTopRow 56 57 (.aload_n 0) := ⟨by decide +kernel, rfl⟩
theorem e_X3_pushTopRow_57 : z_D 1 M_X3_pushTopRow 57 58 (.iconst 0) := ⟨by decide +kernel, rfl⟩
theorem e_X3_pushTopRow_58 : z_D 1 M_X3_pushTopRow 58 59 (.iload_n 1) := ⟨by decide +kernel, rfl⟩
theorem e_X3_pushTopRow_59 : z_D 3 M_X3_pushTopRow 59 62 (.invokevirtual 118) := ⟨by decide +kernel, rfl⟩
theorem e_X3_pushTopRow_62 : z_D 1 M_X3_pushTopRow 62 63 (.return_) := ⟨by decide +kernel, rfl⟩
theorem e_X3_eraseInRow_0 : z_D 1 M_X3_eraseInRow 0 1 (.iload_n 1) := ⟨by decide +kernel, rfl⟩
theorem e_X3_eraseInRow_1 : z_J M_X3_eraseInRow 1 4 14 (13) (.ifCond .ne 13) := ⟨by decide +kernel, rfl, rfl⟩
theorem e_X3_eraseInRow_4 : z_D 1 M_X3_eraseInRow 4 5 (.aload_n 0) := ⟨by decide +kernel, rfl⟩
theorem e_X3_eraseInRow_5 : z_D 3 M_X3_eraseInRow 5 8 (.getfield 20) := ⟨by decide +kernel, rfl⟩
theorem e_X3_eraseInRow_8 : z_D 3 M_X3_eraseInRow 8 11 (.getfield 69) := ⟨by decide +kernel, rfl⟩
theorem e_X3_eraseInRow_11 : z_J M_X3_eraseInRow 11 14 15 (4) (.goto 4) := ⟨by decide +kernel, rfl, rfl⟩
theorem e_X3_eraseInRow_14 : z_D 1 M_X3_eraseInRow 14 15 (.iconst 0) := ⟨by decide +kernel, rfl⟩
theorem e_X3_eraseInRow_15 : z_D 1 M_X3_eraseInRow 15 16 (.istore_n 2) := ⟨by decide +kernel, rfl⟩
theorem e_X3_eraseInRow_16 : z_D 1 M_X3_eraseInRow 16 17 (.iload_n 1) := ⟨by decide +kernel, rfl⟩
theorem e_X3_eraseInRow_17 : z_D 1 M_X3_eraseInRow 17 18 (.iconst 1) := ⟨by decide +kernel, rfl⟩
theorem e_X3_eraseInRow_18 : z_J M_X3_eraseInRow 18 21 31 (13) (.if_icmp .ne 13) := ⟨by decide +kernel, rfl, rfl⟩
theorem e_X3_eraseInRow_21 : z_D 1 M_X3_eraseInRow 21 22 (.aload_n 0) := ⟨by decide +kernel, rfl⟩
theorem e_X3_eraseInRow_22 : z_D 3 M_X3_eraseInRow 22 25 (.getfield 20) := ⟨by decide +kernel, rfl⟩
theorem e_X3_eraseInRow_25 : z_D 3 M_X3_eraseInRow 25 28 (.getfield 69) := ⟨by decide +kernel, rfl⟩
theorem e_X3_eraseInRow_28 : z_J M_X3_eraseInRow 28 31 37 (9) (.goto 9) := ⟨by decide +kernel, rfl, rfl⟩
theorem e_X3_eraseInRow_31 : z_D 1 M_X3_eraseInRow 31 32 (.aload_n 0) := ⟨by decide +kernel, rfl⟩
theorem e_X3_eraseInRow_32 : z_D 3 M_X3_eraseInRow 32 35 (.getfield 35) := ⟨by decide +kernel, rfl⟩
theorem e_X3_eraseInRow_35 : z_D 1 M_X3_eraseInRow 35 36 (.iconst 1) := ⟨by decide +kernel, rfl⟩
theorem e_X3_eraseInRow_36 : z_D 1 M_X3_eraseInRow 36 37 (.isub) := ⟨by decide +kernel, rfl⟩
theorem e_X3_eraseInRow_37 : z_D 1 M_X3_eraseInRow 37 38 (.istore_n 3) := ⟨by decide +kernel, rfl⟩
theorem e_X3_eraseInRow_38 : z_D 1 M_X3_eraseInRow 38 39 (.aload_n 0) := ⟨by decide +kernel, rfl⟩
theorem e_X3_eraseInRow_39 : z_D 1 M_X3_eraseInRow 39 40 (.aload_n 0) := ⟨by decide +kernel, rfl⟩
theorem e_X3_eraseInRow_40 : z_D 3 M_X3_eraseInRow 40 43 (.getfield 20) := ⟨by decide +kernel, rfl⟩
theorem e_X3_eraseInRow_43 : z_D 3 M_X3_eraseInRow 43 46 (.getfield 66) := ⟨by decide +kernel, rfl⟩
theorem e_X3_eraseInRow_46 : z_D 3 M_X3_eraseInRow 46 49 (.invokevirtual 76) := ⟨by decide +kernel, rfl⟩
theorem e_X3_eraseInRow_49 : z_D 1 M_X3_eraseInRow 49 50 (.iload_n 2) := ⟨by decide +kernel, rfl⟩
theorem e_X3_eraseInRow_50 : z_D 1 M_X3_eraseInRow 50 51 (.iload_n 3) := ⟨by decide +kernel, rfl⟩
theorem e_X3_eraseInRow_51 : z_D 1 M_X3_eraseInRow 51 52 (.aload_n 0) := ⟨by decide +kernel, rfl⟩
theorem e_X3_eraseInRow_52 : z_D 3 M_X3_eraseInRow 52 55 (.getfield 35) := ⟨by decide +kernel, rfl⟩
theorem e_X3_eraseInRow_55 : z_D 3 M_X3_eraseInRow 55 58 (.invokevirtual 121) := ⟨by decide +kernel, rfl⟩
theorem e_X3_eraseInRow_58 : z_D 1 M_X3_eraseInRow 58 59 (.return_) := ⟨by decide +kernel, rfl⟩
theorem e_X3_eraseRows_0 : z_D 1 M_X3_eraseRows 0 1 (.iload_n 1) := ⟨by decide +kernel, rfl⟩
theorem e_X3_eraseRows_1 : z_D 1 M_X3_eraseRows 1 2 (.istore_n 3) := ⟨by decide +kernel, rfl⟩
theorem e_X3_eraseRows_2 : z_D 1 M_X3_eraseRows 2 3 (.iload_n 3) := ⟨by decide +kernel, rfl⟩
theorem e_X3_eraseRows_3 : z_D 1 M_X3_eraseRows 3 4 (.iload_n 2) := ⟨by decide +kernel, rfl⟩
theorem e_X3_eraseRows_4 : z_J M_X3_eraseRows 4 7 32 (28) (.if_icmp .gt 28) := ⟨by decide +kernel, rfl, rfl⟩
theorem e_X3_eraseRows_7 : z_D 1 M_X3_eraseRows 7 8 (.aload_n 0) := ⟨by decide +kernel, rfl⟩
theorem e_X3_eraseRows_8 : z_D 1 M_X3_eraseRows 8 9 (.iload_n 3) := ⟨by decide +kernel, rfl⟩
theorem e_X3_eraseRows_9 : z_D 3 M_X3_eraseRows 9 12 (.invokevirtual 76) := ⟨by decide +kernel, rfl⟩
theorem e_X3_eraseRows_12 : z_D 1 M_X3_eraseRows 12 13 (.iconst 0) := ⟨by decide +kernel, rfl⟩
theorem e_X3_eraseRows_13 : z_D 1 M_X3_eraseRows 13 14 (.aload_n 0) := ⟨by decide +kernel, rfl⟩
theorem e_X3_eraseRows_14 : z_D 3 M_X3_eraseRows 14 17 (.getfield 35) := ⟨by decide +kernel, rfl⟩
theorem e_X3_eraseRows_17 : z_D 1 M_X3_eraseRows 17 18 (.iconst 1) := ⟨by decide +kernel, rfl⟩
theorem e_X3_eraseRows_18 : z_D 1 M_X3_eraseRows 18 19 (.isub) := ⟨by decide +kernel, rfl⟩
theorem e_X3_eraseRows_19 : z_D 1 M_X3_eraseRows 19 20 (.aload_n 0) := ⟨by decide +kernel, rfl⟩
theorem e_X3_eraseRows_20 : z_D 3 M_X3_eraseRows 20 23 (.getfield 35) := ⟨by decide +kernel, rfl⟩
theorem e_X3_eraseRows_23 : z_D 3 M_X3_eraseRows 23 26 (.invokevirtual 121) := ⟨by decide +kernel, rfl⟩
theorem e_X3_eraseRows_26 : z_D 3 M_X3_eraseRows 26 29 (.iinc 3 1) := ⟨by decide +kernel, rfl⟩
theorem e_X3_eraseRows_29 : z_J M_X3_eraseRows 29 32 2 (-27) (.goto (-27)) := ⟨by decide +kernel, rfl, rfl⟩
theorem e_X3_eraseRows_32 : z_D 1 M_X3_eraseRows 32 33 (.return_) := ⟨by decide +kernel, rfl⟩
theorem e_X3_openRows_0 : z_D 1 M_X3_openRows 0 1 (.iconst 0) := ⟨by decide +kernel, rfl⟩
theorem e_X3_openRows_1 : z_D 1 M_X3_openRows 1 2 (.istore_n 2) := ⟨by decide +kernel, rfl⟩
theorem e_X3_openRows_2 : z_D 1 M_X3_openRows 2 3 (.iconst 0) := ⟨by decide +kernel, rfl⟩
theorem e_X3_openRows_3 : z_D 1 M_X3_openRows 3 4 (.istore_n 3) := ⟨by decide +kernel, rfl⟩
theorem e_X3_openRows_4 : z_D 1 M_X3_openRows 4 5 (.iload_n 3) := ⟨by decide +kernel, rfl⟩
theorem e_X3_openRows_5 : z_D 1 M_X3_openRows 5 6 (.iload_n 1) := ⟨by decide +kernel, rfl⟩
theorem e_X3_openRows_6 : z_J M_X3_openRows 6 9 105 (99) (.if_icmp .ge 99) := ⟨by decide +kernel, rfl, rfl⟩
theorem e_X3_openRows_9 : z_D 1 M_X3_openRows 9 10 (.iload_n 3) := ⟨by decide +kernel, rfl⟩
theorem e_X3_openRows_10 : z_D 1 M_X3_openRows 10 11 (.aload_n 0) := ⟨by decide +kernel, rfl⟩
theorem e_X3_openRows_11 : z_D 3 M_X3_openRows 11 14 (.getfield 44) := ⟨by decide +kernel, rfl⟩
theorem e_X3_openRows_14 : z_D 1 M_X3_openRows 14 15 (.aload_n 0) := ⟨by decide +kernel, rfl⟩
theorem e_X3_openRows_15 : z_D 3 M_X3_openRows 15 18 (.getfield 20) := ⟨by decide +kernel, rfl⟩
theorem e_X3_openRows_18 : z_D 3 M_X3_openRows 18 21 (.getfield 66) := ⟨by decide +kernel, rfl⟩
theorem e_X3_openRows_21 : z_D 1 M_X3_openRows 21 22 (.isub) := ⟨by decide +kernel, rfl⟩
theorem e_X3_openRows_22 : z_J M_X3_openRows 22 25 105 (83) (.if_icmp .gt 83) := ⟨by decide +kernel, rfl, rfl⟩
theorem e_X3_openRows_25 : z_D 1 M_X3_openRows 25 26 (.iload_n 2) := ⟨by decide +kernel, rfl⟩
theorem e_X3_openRows_26 : z_D 1 M_X3_openRows 26 27 (.aload_n 0) := ⟨by decide +kernel, rfl⟩
theorem e_X3_openRows_27 : z_D 1 M_X3_openRows 27 28 (.aload_n 0) := ⟨by decide +kernel, rfl⟩
theorem e_X3_openRows_28 : z_D 3 M_X3_openRows 28 31 (.getfield 44) := ⟨by decide +kernel, rfl⟩
theorem e_X3_openRows_31 : z_D 3 M_X3_openRows 31 34 (.invokevirtual 76) := ⟨by decide +kernel, rfl⟩
theorem e_X3_openRows_34 : z_D 3 M_X3_openRows 34 37 (.invokevirtual 124) := ⟨by decide +kernel, rfl⟩
theorem e_X3_openRows_37 : z_J M_X3_openRows 37 40 44 (7) (.ifCond .eq 7) := ⟨by decide +kernel, rfl, rfl⟩
theorem e_X3_openRows_40 : z_D 1 M_X3_openRows 40 41 (.iconst 0) := ⟨by decide +kernel, rfl⟩
theorem e_X3_openRows_41 : z_J M_X3_openRows 41 44 45 (4) (.goto 4) := ⟨by decide +kernel, rfl, rfl⟩
theorem e_X3_openRows_44 : z_D 1 M_X3_openRows 44 45 (.iconst 1) := ⟨by decide +kernel, rfl⟩
theorem e_X3_openRows_45 : z_D 1 M_X3_openRows 45 46 (.iadd) := ⟨by decide +kernel, rfl⟩
theorem e_X3_openRows_46 : z_D 1 M_X3_openRows 46 47 (.istore_n 2) := ⟨by decide +kernel, rfl⟩
theorem e_X3_openRows_47 : z_D 1 M_X3_openRows 47 48 (.aload_n 0) := ⟨by decide +kernel, rfl⟩
theorem e_X3_openRows_48 : z_D 1 M_X3_openRows 48 49 (.aload_n 0) := ⟨by decide +kernel, rfl⟩
theorem e_X3_openRows_49 : z_D 3 M_X3_openRows 49 52 (.getfield 32) := ⟨by decide +kernel, rfl⟩
theorem e_X3_openRows_52 : z_D 1 M_X3_openRows 52 53 (.aload_n 0) := ⟨by decide +kernel, rfl⟩
theorem e_X3_openRows_53 : z_D 3 M_X3_openRows 53 56 (.getfield 20) := ⟨by decide +kernel, rfl⟩
theorem e_X3_openRows_56 : z_D 3 M_X3_openRows 56 59 (.getfield 66) := ⟨by decide +kernel, rfl⟩
theorem e_X3_openRows_59 : z_D 1 M_X3_openRows 59 60 (.iadd) := ⟨by decide +kernel, rfl⟩
theorem e_X3_openRows_60 : z_D 3 M_X3_openRows 60 63 (.invokevirtual 127) := ⟨by decide +kernel, rfl⟩
theorem e_X3_openRows_63 : z_D 1 M_X3_openRows 63 64 (.aload_n 0) := ⟨by decide +kernel, rfl⟩
theorem e_X3_openRows_64 : z_D 1 M_X3_openRows 64 65 (.aload_n 0) := ⟨by decide +kernel, rfl⟩
theorem e_X3_openRows_65 : z_D 3 M_X3_openRows 65 68 (.getfield 32) := ⟨by decide +kernel, rfl⟩
theorem e_X3_openRows_68 : z_D 1 M_X3_openRows 68 69 (.aload_n 0) := ⟨by decide +kernel, rfl⟩
theorem e_X3_openRows_69 : z_D 3 M_X3_openRows 69 72 (.getfield 44) := ⟨by decide +kernel, rfl⟩
theorem e_X3_openRows_72 : z_D 1 M_X3_openRows 72 73 (.iadd) := ⟨by decide +kernel, rfl⟩
theorem e_X3_openRows_73 : z_D 1 M_X3_openRows 73 74 (.aload_n 0) := ⟨by decide +kernel, rfl⟩
theorem e_X3_openRows_74 : z_D 3 M_X3_openRows 74 77 (.getfield 32) := ⟨by decide +kernel, rfl⟩
theorem e_X3_openRows_77 : z_D 1 M_X3_openRows 77 78 (.aload_n 0) := ⟨by decide +kernel, rfl⟩
theorem e_X3_openRows_78 : z_D 3 M_X3_openRows 78 81 (.getfield 20) := ⟨by decide +kernel, rfl⟩
theorem e_X3_openRows_81 : z_D 3 M_X3_openRows 81 84 (.getfield 66) := ⟨by decide +kernel, rfl⟩
theorem e_X3_openRows_84 : z_D 1 M_X3_openRows 84 85 (.iadd) := ⟨by decide +kernel, rfl⟩
theorem e_X3_openRows_85 : z_D 3 M_X3_openRows 85 88 (.invokevirtual 118) := ⟨by decide +kernel, rfl⟩
theorem e_X3_openRows_88 : z_D 1 M_X3_openRows 88 89 (.aload_n 0) := ⟨by decide +kernel, rfl⟩
theorem e_X3_openRows_89 : z_D 1 M_X3_openRows 89 90 (.aload_n 0) := ⟨by decide +kernel, rfl⟩
theorem e_X3_openRows_90 : z_D 3 M_X3_openRows 90 93 (.getfield 44) := ⟨by decide +kernel, rfl⟩
theorem e_X3_openRows_93 : z_D 3 M_X3_openRows 93 96 (.invokevirtual 76) := ⟨by decide +kernel, rfl⟩
theorem e_X3_openRows_96 : z_D 3 M_X3_openRows 96 99 (.invokevirtual 115) := ⟨by decide +kernel, rfl⟩
theorem e_X3_openRows_99 : z_D 3 M_X3_openRows 99 102 (.iinc 3 1) := ⟨by decide +kernel, rfl⟩
theorem e_X3_openRows_102 : z_J M_X3_openRows 102 105 4 (-98) (.goto (-98)) := ⟨by decide +kernel, rfl, rfl⟩
theorem e_X3_openRows_105 : z_D 1 M_X3_openRows 105 106 (.iload_n 2) := ⟨by decide +kernel, rfl⟩
theorem e_X3_openRows_106 : z_D 1 M_X3_openRows 106 107 (.ireturn) := ⟨by decide +kernel, rfl⟩
theorem e_X3_closeRows_0 : z_D 1 M_X3_closeRows 0 1 (.iconst 0) := ⟨by decide +kernel, rfl⟩
theorem e_X3_closeRows_1 : z_D 1 M_X3_closeRows 1 2 (.istore_n 2) := ⟨by decide +kernel, rfl⟩
theorem e_X3_closeRows_2 : z_D 1 M_X3_closeRows 2 3 (.iconst 0) := ⟨by decide +kernel, rfl⟩
theorem e_X3_closeRows_3 : z_D 1 M_X3_closeRows 3 4 (.istore_n 3) := ⟨by decide +kernel, rfl⟩
theorem e_X3_closeRows_4 : z_D 1 M_X3_closeRows 4 5 (.iload_n 3) := ⟨by decide +kernel, rfl⟩
theorem e_X3_closeRows_5 : z_D 1 M_X3_closeRows 5 6 (.iload_n 1) := ⟨by decide +kernel, rfl⟩
theorem e_X3_closeRows_6 : z_J M_X3_closeRows 6 9 67 (61) (.if_icmp .ge 61) := ⟨by decide +kernel, rfl, rfl⟩
theorem e_X3_closeRows_9 : z_D 1 M_X3_closeRows 9 10 (.iload_n 3) := ⟨by decide +kernel, rfl⟩
theorem e_X3_closeRows_10 : z_D 1 M_X3_closeRows 10 11 (.aload_n 0) := ⟨by decide +kernel, rfl⟩
theorem e_X3_closeRows_11 : z_D 3 M_X3_closeRows 11 14 (.getfield 44) := ⟨by decide +kernel, rfl⟩
theorem e_X3_closeRows_14 : z_D 1 M_X3_closeRows 14 15 (.aload_n 0) := ⟨by decide +kernel, rfl⟩
theorem e_X3_closeRows_15 : z_D 3 M_X3_closeRows 15 18 (.getfield 20) := ⟨by decide +kernel, rfl⟩
theorem e_X3_closeRows_18 : z_D 3 M_X3_closeRows 18 21 (.getfield 66) := ⟨by decide +kernel, rfl⟩
theorem e_X3_closeRows_21 : z_D 1 M_X3_closeRows 21 22 (.isub) := ⟨by decide +kernel, rfl⟩
theorem e_X3_closeRows_22 : z_J M_X3_closeRows 22 25 67 (45) (.if_icmp .gt 45) := ⟨by decide +kernel, rfl, rfl⟩
theorem e_X3_closeRows_25 : z_D 1 M_X3_closeRows 25 26 (.iload_n 2) := ⟨by decide +kernel, rfl⟩
theorem e_X3_closeRows_26 : z_D 1 M_X3_closeRows 26 27 (.aload_n 0) := ⟨by decide +kernel, rfl⟩
theorem e_X3_closeRows_27 : z_D 1 M_X3_closeRows 27 28 (.aload_n 0) := ⟨by decide +kernel, rfl⟩
theorem e_X3_closeRows_28 : z_D 3 M_X3_closeRows 28 31 (.getfield 20) := ⟨by decide +kernel, rfl⟩
theorem e_X3_closeRows_31 : z_D 3 M_X3_closeRows 31 34 (.getfield 66) := ⟨by decide +kernel, rfl⟩
theorem e_X3_closeRows_34 : z_D 3 M_X3_closeRows 34 37 (.invokevirtual 76) := ⟨by decide +kernel, rfl⟩
theorem e_X3_closeRows_37 : z_D 3 M_X3_closeRows 37 40 (.invokevirtual 124) := ⟨by decide +kernel, rfl⟩
theorem e_X3_closeRows_40 : z_J M_X3_closeRows 40 43 47 (7) (.ifCond .eq 7) := ⟨by decide +kernel, rfl, rfl⟩
theorem e_X3_closeRows_43 : z_D 1 M_X3_closeRows 43 44 (.iconst 0) := ⟨by decide +kernel, rfl⟩
theorem e_X3_closeRows_44 : z_J M_X3_closeRows 44 47 48 (4) (.goto 4) := ⟨by decide +kernel, rfl, rfl⟩
theorem e_X3_closeRows_47 : z_D 1 M_X3_closeRows 47 48 (.iconst 1) := ⟨by decide +kernel, rfl⟩
theorem e_X3_closeRows_48 : z_D 1 M_X3_closeRows 48 49 (.iadd) := ⟨by decide +kernel, rfl⟩
theorem e_X3_closeRows_49 : z_D 1 M_X3_closeRows 49 50 (.istore_n 2) := ⟨by decide +kernel, rfl⟩
theorem e_X3_closeRows_50 : z_D 1 M_X3_closeRows 50 51 (.aload_n 0) := ⟨by decide +kernel, rfl⟩
theorem e_X3_closeRows_51 : z_D 1 M_X3_closeRows 51 52 (.aload_n 0) := ⟨by decide +kernel, rfl⟩
theorem e_X3_closeRows_52 : z_D 3 M_X3_closeRows 52 55 (.getfield 20) := ⟨by decide +kernel, rfl⟩
theorem e_X3_closeRows_55 : z_D 3 M_X3_closeRows 55 58 (.getfield 66) := ⟨by decide +kernel, rfl⟩
theorem e_X3_closeRows_58 : z_D 3 M_X3_closeRows 58 61 (.invokevirtual 111) := ⟨by decide +kernel, rfl⟩
theorem e_X3_closeRows_61 : z_D 3 M_X3_closeRows 61 64 (.iinc 3 1) := ⟨by decide +kernel, rfl⟩
theorem e_X3_closeRows_64 : z_J M_X3_closeRows 64 67 4 (-60) (.goto (-60)) := ⟨by decide +kernel, rfl, rfl⟩
theorem e_X3_closeRows_67 : z_D 1 M_X3_closeRows 67 68 (.iload_n 2) := ⟨by decide +kernel, rfl⟩
theorem e_X3_closeRows_68 : z_D 1 M_X3_closeRows 68 69 (.ireturn) := ⟨by decide +kernel, rfl⟩
theorem e_X3_takeRow_0 : z_D 1 M_X3_takeRow 0 1 (.aload_n 0) := ⟨by decide +kernel, rfl⟩
theorem e_X3_takeRow_1 : z_D 1 M_X3_takeRow 1 2 (.aload_n 0) := ⟨by decide +kernel, rfl⟩
theorem e_X3_takeRow_2 : z_D 3 M_X3_takeRow 2 5 (.getfield 32) := ⟨by decide +kernel, rfl⟩
theorem e_X3_takeRow_5 : z_D 1 M_X3_takeRow 5 6 (.iload_n 1) := ⟨by decide +kernel, rfl⟩
theorem e_X3_takeRow_6 : z_D 1 M_X3_takeRow 6 7 (.iadd) := ⟨by decide +kernel, rfl⟩
theorem e_X3_takeRow_7 : z_D 3 M_X3_takeRow 7 10 (.invokevirtual 127) := ⟨by decide +kernel, rfl⟩
theorem e_X3_takeRow_10 : z_D 1 M_X3_takeRow 10 11 (.aload_n 0) := ⟨by decide +kernel, rfl⟩
theorem e_X3_takeRow_11 : z_D 1 M_X3_takeRow 11 12 (.aload_n 0) := ⟨by decide +kernel, rfl⟩
theorem e_X3_takeRow_12 : z_D 3 M_X3_takeRow 12 15 (.getfield 32) := ⟨by decide +kernel, rfl⟩
theorem e_X3_takeRow_15 : z_D 1 M_X3_takeRow 15 16 (.aload_n 0) := ⟨by decide +kernel, rfl⟩
theorem e_X3_takeRow_16 : z_D 3 M_X3_takeRow 16 19 (.getfield 44) := ⟨by decide +kernel, rfl⟩
theorem e_X3_takeRow_19 : z_D 1 M_X3_takeRow 19 20 (.iadd) := ⟨by decide +kernel, rfl⟩
theorem e_X3_takeRow_20 : z_D 3 M_X3_takeRow 20 23 (.invokevirtual 56) := ⟨by decide +kernel, rfl⟩
theorem e_X3_takeRow_23 : z_D 3 M_X3_takeRow 23 26 (.invokevirtual 115) := ⟨by decide +kernel, rfl⟩
theorem e_X3_takeRow_26 : z_D 1 M_X3_takeRow 26 27 (.aload_n 0) := ⟨by decide +kernel, rfl⟩
theorem e_X3_takeRow_27 : z_D 1 M_X3_takeRow 27 28 (.aload_n 0) := ⟨by decide +kernel, rfl⟩
theorem e_X3_takeRow_28 : z_D 3 M_X3_takeRow 28 31 (.getfield 32) := ⟨by decide +kernel, rfl⟩
theorem e_X3_takeRow_31 : z_D 1 M_X3_takeRow 31 32 (.iload_n 1) := ⟨by decide +kernel, rfl⟩
theorem e_X3_takeRow_32 : z_D 1 M_X3_takeRow 32 33 (.iadd) := ⟨by decide +kernel, rfl⟩
theorem e_X3_takeRow_33 : z_D 1 M_X3_takeRow 33 34 (.aload_n 0) := ⟨by decide +kernel, rfl⟩
theorem e_X3_takeRow_34 : z_D 3 M_X3_takeRow 34 37 (.getfield 32) := ⟨by decide +kernel, rfl⟩
theorem e_X3_takeRow_37 : z_D 1 M_X3_takeRow 37 38 (.aload_n 0) := ⟨by decide +kernel, rfl⟩
theorem e_X3_takeRow_38 : z_D 3 M_X3_takeRow 38 41 (.getfield 44) := ⟨by decide +kernel, rfl⟩
theorem e_X3_takeRow_41 : z_D 1 M_X3_takeRow 41 42 (.iadd) := ⟨by decide +kernel, rfl⟩
theorem e_X3_takeRow_42 : z_D 3 M_X3_takeRow 42 45 (.invokevirtual 118) := ⟨by decide +kernel, rfl⟩
theorem e_X3_takeRow_45 : z_D 1 M_X3_takeRow 45 46 (.return_) := ⟨by decide +kernel, rfl⟩
theorem e_X3_unmarkAbove_0 : z_D 1 M_X3_unmarkAbove 0 1 (.iload_n 1) := ⟨by decide +kernel, rfl⟩
theorem e_X3_unmarkAbove_1 : z_J M_X3_unmarkAbove 1 4 14 (13) (.ifCond .le 13) := ⟨by decide +kernel, rfl, rfl⟩
theorem e_X3_unmarkAbove_4 : z_D 1 M_X3_unmarkAbove 4 5 (.aload_n 0) := ⟨by decide +kernel, rfl⟩
theorem e_X3_unmarkAbove_5 : z_D 1 M_X3_unmarkAbove 5 6 (.iload_n 1) := ⟨by decide +kernel, rfl⟩
theorem e_X3_unmarkAbove_6 : z_D 1 M_X3_unmarkAbove 6 7 (.iconst 1) := ⟨by decide +kernel, rfl⟩
theorem e_X3_unmarkAbove_7 : z_D 1 M_X3_unmarkAbove 7 8 (.isub) := ⟨by decide +kernel, rfl⟩
theorem e_X3_unmarkAbove_8 : z_D 3 M_X3_unmarkAbove 8 11 (.invokevirtual 56) := ⟨by decide +kernel, rfl⟩
theorem e_X3_unmarkAbove_11 : z_D 3 M_X3_unmarkAbove 11 14 (.invokevirtual 115) := ⟨by decide +kernel, rfl⟩
theorem e_X3_unmarkAbove_14 : z_D 1 M_X3_unmarkAbove 14 15 (.return_) := ⟨by decide +kernel, rfl⟩
theorem e_X3_carryBlank_0 : z_D 1 M_X3_carryBlank 0 1 (.iload_n 1) := ⟨by decide +kernel, rfl⟩
theorem e_X3_carryBlank_1 : z_J M_X3_carryBlank 1 4 20 (19) (.ifCond .lt 19) := ⟨by decide +kernel, rfl, rfl⟩
theorem e_X3_carryBlank_4 : z_D 1 M_X3_carryBlank 4 5 (.iload_n 1) := ⟨by decide +kernel, rfl⟩
theorem e_X3_carryBlank_5 : z_D 2 M_X3_carryBlank 5 7 (.bipush 32) := ⟨by decide +kernel, rfl⟩
theorem e_X3_carryBlank_7 : z_J M_X3_carryBlank 7 10 20 (13) (.if_icmp .ge 13) := ⟨by decide +kernel, rfl, rfl⟩
theorem e_X3_carryBlank_10 : z_D 1 M_X3_carryBlank 10 11 (.iload_n 2) := ⟨by decide +kernel, rfl⟩
theorem e_X3_carryBlank_11 : z_J M_X3_carryBlank 11 14 20 (9) (.ifCond .lt 9) := ⟨by decide +kernel, rfl, rfl⟩
theorem e_X3_carryBlank_14 : z_D 1 M_X3_carryBlank 14 15 (.iload_n 2) := ⟨by decide +kernel, rfl⟩
theorem e_X3_carryBlank_15 : z_D 2 M_X3_carryBlank 15 17 (.bipush 32) := ⟨by decide +kernel, rfl⟩
theorem e_X3_carryBlank_17 : z_J M_X3_carryBlank 17 20 21 (4) (.if_icmp .lt 4) := ⟨by decide +kernel, rfl, rfl⟩
theorem e_X3_carryBlank_20 : z_D 1 M_X3_carryBlank 20 21 (.return_) := ⟨by decide +kernel, rfl⟩
theorem e_X3_carryBlank_21 : z_D 1 M_X3_carryBlank 21 22 (.aload_n 0) := ⟨by decide +kernel, rfl⟩
theorem e_X3_carryBlank_22 : z_D 3 M_X3_carryBlank 22 25 (.getfield 11) := ⟨by decide +kernel, rfl⟩
theorem e_X3_carryBlank_25 : z_D 1 M_X3_carryBlank 25 26 (.iload_n 1) := ⟨by decide +kernel, rfl⟩
theorem e_X3_carryBlank_26 : z_D 1 M_X3_carryBlank 26 27 (.aaload) := ⟨by decide +kernel, rfl⟩
theorem e_X3_carryBlank_27 : z_D 1 M_X3_carryBlank 27 28 (.astore_n 3) := ⟨by decide +kernel, rfl⟩
theorem e_X3_carryBlank_28 : z_D 1 M_X3_carryBlank 28 29 (.iload_n 1) := ⟨by decide +kernel, rfl⟩
theorem e_X3_carryBlank_29 : z_D 2 M_X3_carryBlank 29 31 (.istore 4) := ⟨by decide +kernel, rfl⟩
theorem e_X3_carryBlank_31 : z_D 2 M_X3_carryBlank 31 33 (.iload 4) := ⟨by decide +kernel, rfl⟩
theorem e_X3_carryBlank_33 : z_D 1 M_X3_carryBlank 33 34 (.iload_n 2) := ⟨by decide +kernel, rfl⟩
theorem e_X3_carryBlank_34 : z_J M_X3_carryBlank 34 37 59 (25) (.if_icmp .ge 25) := ⟨by decide +kernel, rfl, rfl⟩
theorem e_X3_carryBlank_37 : z_D 1 M_X3_carryBlank 37 38 (.aload_n 0) := ⟨by decide +kernel, rfl⟩
theorem e_X3_carryBlank_38 : z_D 3 M_X3_carryBlank 38 41 (.getfield 11) := ⟨by decide +kernel, rfl⟩
theorem e_X3_carryBlank_41 : z_D 2 M_X3_carryBlank 41 43 (.iload 4) := ⟨by decide +kernel, rfl⟩
theorem e_X3_carryBlank_43 : z_D 1 M_X3_carryBlank 43 44 (.aload_n 0) := ⟨by decide +kernel, rfl⟩
theorem e_X3_carryBlank_44 : z_D 3 M_X3_carryBlank 44 47 (.getfield 11) := ⟨by decide +kernel, rfl⟩
theorem e_X3_carryBlank_47 : z_D 2 M_X3_carryBlank 47 49 (.iload 4) := ⟨by decide +kernel, rfl⟩
theorem e_X3_carryBlank_49 : z_D 1 M_X3_carryBlank 49 50 (.iconst 1) := ⟨by decide +kernel, rfl⟩
theorem e_X3_carryBlank_50 : z_D 1 M_X3_carryBlank 50 51 (.iadd) := ⟨by decide +kernel, rfl⟩
theorem e_X3_carryBlank_51 : z_D 1 M_X3_carryBlank 51 52 (.aaload) := ⟨by decide +kernel, rfl⟩
theorem e_X3_carryBlank_52 : z_D 1 M_X3_carryBlank 52 53 (.aastore) := ⟨by decide +kernel, rfl⟩
theorem e_X3_carryBlank_53 : z_D 3 M_X3_carryBlank 53 56 (.iinc 4 1) := ⟨by decide +kernel, rfl⟩
theorem e_X3_carryBlank_56 : z_J M_X3_carryBlank 56 59 31 (-25) (.goto (-25)) := ⟨by decide +kernel, rfl, rfl⟩
theorem e_X3_carryBlank_59 : z_D 1 M_X3_carryBlank 59 60 (.iload_n 1) := ⟨by decide +kernel, rfl⟩
theorem e_X3_carryBlank_60 : z_D 2 M_X3_carryBlank 60 62 (.istore 4) := ⟨by decide +kernel, rfl⟩
theorem e_X3_carryBlank_62 : z_D 2 M_X3_carryBlank 62 64 (.iload 4) := ⟨by decide +kernel, rfl⟩
theorem e_X3_carryBlank_64 : z_D 1 M_X3_carryBlank 64 65 (.iload_n 2) := ⟨by decide +kernel, rfl⟩
theorem e_X3_carryBlank_65 : z_J M_X3_carryBlank 65 68 90 (25) (.if_icmp .le 25) := ⟨by decide +kernel, rfl, rfl⟩
theorem e_X3_carryBlank_68 : z_D 1 M_X3_carryBlank 68 69 (.aload_n 0) := ⟨by decide +kernel, rfl⟩
theorem e_X3_carryBlank_69 : z_D 3 M_X3_carryBlank 69 72 (.getfield 11) := ⟨by decide +kernel, rfl⟩
theorem e_X3_carryBlank_72 : z_D 2 M_X3_carryBlank 72 74 (.iload 4) := ⟨by decide +kernel, rfl⟩
theorem e_X3_carryBlank_74 : z_D 1 M_X3_carryBlank 74 75 (.aload_n 0) := ⟨by decide +kernel, rfl⟩
theorem e_X3_carryBlank_75 : z_D 3 M_X3_carryBlank 75 78 (.getfield 11) := ⟨by decide +kernel, rfl⟩
theorem e_X3_carryBlank_78 : z_D 2 M_X3_carryBlank 78 80 (.iload 4) := ⟨by decide +kernel, rfl⟩
theorem e_X3_carryBlank_80 : z_D 1 M_X3_carryBlank 80 81 (.iconst 1) := ⟨by decide +kernel, rfl⟩
theorem e_X3_carryBlank_81 : z_D 1 M_X3_carryBlank 81 82 (.isub) := ⟨by decide +kernel, rfl⟩
theorem e_X3_carryBlank_82 : z_D 1 M_X3_carryBlank 82 83 (.aaload) := ⟨by decide +kernel, rfl⟩
theorem e_X3_carryBlank_83 : z_D 1 M_X3_carryBlank 83 84 (.aastore) := ⟨by decide +kernel, rfl⟩
theorem e_X3_carryBlank_84 : z_D 3 M_X3_carryBlank 84 87 (.iinc 4 (-1)) := ⟨by decide +kernel, rfl⟩
theorem e_X3_carryBlank_87 : z_J M_X3_carryBlank 87 90 62 (-25) (.goto (-25)) := ⟨by decide +kernel, rfl, rfl⟩
theorem e_X3_carryBlank_90 : z_D 1 M_X3_carryBlank 90 91 (.aload_n 3) := ⟨by decide +kernel, rfl⟩
theorem e_X3_carryBlank_91 : z_D 3 M_X3_carryBlank 91 94 (.invokevirtual 63) := ⟨by decide +kernel, rfl⟩
theorem e_X3_carryBlank_94 : z_D 1 M_X3_carryBlank 94 95 (.aload_n 0) := ⟨by decide +kernel, rfl⟩
theorem e_X3_carryBlank_95 : z_D 3 M_X3_carryBlank 95 98 (.getfield 11) := ⟨by decide +kernel, rfl⟩
theorem e_X3_carryBlank_98 : z_D 1 M_X3_carryBlank 98 99 (.iload_n 2) := ⟨by decide +kernel, rfl⟩
theorem e_X3_carryBlank_99 : z_D 1 M_X3_carryBlank 99 100 (.aload_n 3) := ⟨by decide +kernel, rfl⟩
theorem e_X3_carryBlank_100 : z_D 1 M_X3_carryBlank 100 101 (.aastore) := ⟨by decide +kernel, rfl⟩
theorem e_X3_carryBlank_101 : z_D 1 M_X3_carryBlank 101 102 (.return_) := ⟨by decide +kernel, rfl⟩
theorem e_X3_countedRows_0 : z_D 1 M_X3_countedRows 0 1 (.aload_n 0) := ⟨by decide +kernel, rfl⟩
theorem e_X3_countedRows_1 : z_D 3 M_X3_countedRows 1 4 (.getfield 20) := ⟨by decide +kernel, rfl⟩
theorem e_X3_countedRows_4 : z_D 3 M_X3_countedRows 4 7 (.getfield 66) := ⟨by decide +kernel, rfl⟩
theorem e_X3_countedRows_7 : z_D 1 M_X3_countedRows 7 8 (.istore_n 1) := ⟨by decide +kernel, rfl⟩
theorem e_X3_countedRows_8 : z_D 1 M_X3_countedRows 8 9 (.iconst 0) := ⟨by decide +kernel, rfl⟩
theorem e_X3_countedRows_9 : z_D 1 M_X3_countedRows 9 10 (.istore_n 2) := ⟨by decide +kernel, rfl⟩
theorem e_X3_countedRows_10 : z_D 1 M_X3_countedRows 10 11 (.iload_n 2) := ⟨by decide +kernel, rfl⟩
theorem e_X3_countedRows_11 : z_D 1 M_X3_countedRows 11 12 (.aload_n 0) := ⟨by decide +kernel, rfl⟩
theorem e_X3_countedRows_12 : z_D 3 M_X3_countedRows 12 15 (.getfield 28) := ⟨by decide +kernel, rfl⟩
theorem e_X3_countedRows_15 : z_J M_X3_countedRows 15 18 37 (22) (.if_icmp .ge 22) := ⟨by decide +kernel, rfl, rfl⟩
theorem e_X3_countedRows_18 : z_D 1 M_X3_countedRows 18 19 (.iload_n 1) := ⟨by decide +kernel, rfl⟩
theorem e_X3_countedRows_19 : z_D 1 M_X3_countedRows 19 20 (.aload_n 0) := ⟨by decide +kernel, rfl⟩
theorem e_X3_countedRows_20 : z_D 1 M_X3_countedRows 20 21 (.iload_n 2) := ⟨by decide +kernel, rfl⟩
theorem e_X3_countedRows_21 : z_D 3 M_X3_countedRows 21 24 (.invokevirtual 52) := ⟨by decide +kernel, rfl⟩
theorem e_X3_countedRows_24 : z_D 3 M_X3_countedRows 24 27 (.getfield 66) := ⟨by decide +kernel, rfl⟩
end
section
theorem e_X3_countedRows_27 : z_D 3 M_X3_countedRows 27 30 (.invokestatic 130) := ⟨by decide +kernel, rfl⟩
theorem e_X3_countedRows_30 : z_D 1 M_X3_countedRows 30 31 (.istore_n 1) := ⟨by decide +kernel, rfl⟩
theorem e_X3_countedRows_31 : z_D 3 M_X3_countedRows 31 34 (.iinc 2 1) := ⟨by decide +kernel, rfl⟩
theorem e_X3_countedRows_34 : z_J M_X3_countedRows 34 37 10 (-24) (.goto (-24)) := ⟨by decide +kernel, rfl, rfl⟩
theorem e_X3_countedRows_37 : z_D 1 M_X3_countedRows 37 38 (.aload_n 0) := ⟨by decide +kernel, rfl⟩
theorem e_X3_countedRows_38 : z_D 3 M_X3_countedRows 38 41 (.getfield 38) := ⟨by decide +kernel, rfl⟩
theorem e_X3_countedRows_41 : z_D 1 M_X3_countedRows 41 42 (.iconst 1) := ⟨by decide +kernel, rfl⟩
theorem e_X3_countedRows_42 : z_D 1 M_X3_countedRows 42 43 (.isub) := ⟨by decide +kernel, rfl⟩
theorem e_X3_countedRows_43 : z_D 1 M_X3_countedRows 43 44 (.istore_n 2) := ⟨by decide +kernel, rfl⟩
theorem e_X3_countedRows_44 : z_D 1 M_X3_countedRows 44 45 (.iload_n 2) := ⟨by decide +kernel, rfl⟩
theorem e_X3_countedRows_45 : z_D 1 M_X3_countedRows 45 46 (.iload_n 1) := ⟨by decide +kernel, rfl⟩
theorem e_X3_countedRows_46 : z_J M_X3_countedRows 46 49 73 (27) (.if_icmp .le 27) := ⟨by decide +kernel, rfl, rfl⟩
theorem e_X3_countedRows_49 : z_D 1 M_X3_countedRows 49 50 (.aload_n 0) := ⟨by decide +kernel, rfl⟩
theorem e_X3_countedRows_50 : z_D 1 M_X3_countedRows 50 51 (.aload_n 0) := ⟨by decide +kernel, rfl⟩
theorem e_X3_countedRows_51 : z_D 3 M_X3_countedRows 51 54 (.getfield 32) := ⟨by decide +kernel, rfl⟩
theorem e_X3_countedRows_54 : z_D 1 M_X3_countedRows 54 55 (.iload_n 2) := ⟨by decide +kernel, rfl⟩
theorem e_X3_countedRows_55 : z_D 1 M_X3_countedRows 55 56 (.iadd) := ⟨by decide +kernel, rfl⟩
theorem e_X3_countedRows_56 : z_D 3 M_X3_countedRows 56 59 (.invokevirtual 56) := ⟨by decide +kernel, rfl⟩
theorem e_X3_countedRows_59 : z_D 3 M_X3_countedRows 59 62 (.invokevirtual 136) := ⟨by decide +kernel, rfl⟩
theorem e_X3_countedRows_62 : z_J M_X3_countedRows 62 65 67 (5) (.ifCond .le 5) := ⟨by decide +kernel, rfl, rfl⟩
theorem e_X3_countedRows_65 : z_D 1 M_X3_countedRows 65 66 (.iload_n 2) := ⟨by decide +kernel, rfl⟩
theorem e_X3_countedRows_66 : z_D 1 M_X3_countedRows 66 67 (.istore_n 1) := ⟨by decide +kernel, rfl⟩
theorem e_X3_countedRows_67 : z_D 3 M_X3_countedRows 67 70 (.iinc 2 (-1)) := ⟨by decide +kernel, rfl⟩
theorem e_X3_countedRows_70 : z_J M_X3_countedRows 70 73 44 (-26) (.goto (-26)) := ⟨by decide +kernel, rfl, rfl⟩
theorem e_X3_countedRows_73 : z_D 1 M_X3_countedRows 73 74 (.aload_n 0) := ⟨by decide +kernel, rfl⟩
theorem e_X3_countedRows_74 : z_D 3 M_X3_countedRows 74 77 (.getfield 32) := ⟨by decide +kernel, rfl⟩
theorem e_X3_countedRows_77 : z_D 1 M_X3_countedRows 77 78 (.iload_n 1) := ⟨by decide +kernel, rfl⟩
theorem e_X3_countedRows_78 : z_D 1 M_X3_countedRows 78 79 (.iadd) := ⟨by decide +kernel, rfl⟩
theorem e_X3_countedRows_79 : z_D 1 M_X3_countedRows 79 80 (.iconst 1) := ⟨by decide +kernel, rfl⟩
theorem e_X3_countedRows_80 : z_D 1 M_X3_countedRows 80 81 (.iadd) := ⟨by decide +kernel, rfl⟩
theorem e_X3_countedRows_81 : z_D 1 M_X3_countedRows 81 82 (.ireturn) := ⟨by decide +kernel, rfl⟩
theorem e_X3_endsLine_0 : z_D 1 M_X3_endsLine 0 1 (.iload_n 1) := ⟨by decide +kernel, rfl⟩
theorem e_X3_endsLine_1 : z_D 1 M_X3_endsLine 1 2 (.iload_n 2) := ⟨by decide +kernel, rfl⟩
theorem e_X3_endsLine_2 : z_D 1 M_X3_endsLine 2 3 (.iconst 1) := ⟨by decide +kernel, rfl⟩
theorem e_X3_endsLine_3 : z_D 1 M_X3_endsLine 3 4 (.isub) := ⟨by decide +kernel, rfl⟩
theorem e_X3_endsLine_4 : z_J M_X3_endsLine 4 7 18 (14) (.if_icmp .ge 14) := ⟨by decide +kernel, rfl, rfl⟩
theorem e_X3_endsLine_7 : z_D 1 M_X3_endsLine 7 8 (.aload_n 0) := ⟨by decide +kernel, rfl⟩
theorem e_X3_endsLine_8 : z_D 1 M_X3_endsLine 8 9 (.iload_n 1) := ⟨by decide +kernel, rfl⟩
theorem e_X3_endsLine_9 : z_D 3 M_X3_endsLine 9 12 (.invokevirtual 56) := ⟨by decide +kernel, rfl⟩
theorem e_X3_endsLine_12 : z_D 3 M_X3_endsLine 12 15 (.getfield 105) := ⟨by decide +kernel, rfl⟩
theorem e_X3_endsLine_15 : z_J M_X3_endsLine 15 18 22 (7) (.ifCond .ne 7) := ⟨by decide +kernel, rfl, rfl⟩
theorem e_X3_endsLine_18 : z_D 1 M_X3_endsLine 18 19 (.iconst 1) := ⟨by decide +kernel, rfl⟩
theorem e_X3_endsLine_19 : z_J M_X3_endsLine 19 22 23 (4) (.goto 4) := ⟨by decide +kernel, rfl, rfl⟩
theorem e_X3_endsLine_22 : z_D 1 M_X3_endsLine 22 23 (.iconst 0) := ⟨by decide +kernel, rfl⟩
theorem e_X3_endsLine_23 : z_D 1 M_X3_endsLine 23 24 (.ireturn) := ⟨by decide +kernel, rfl⟩
theorem e_X3_linesBefore_0 : z_D 1 M_X3_linesBefore 0 1 (.aload_n 0) := ⟨by decide +kernel, rfl⟩
theorem e_X3_linesBefore_1 : z_D 3 M_X3_linesBefore 1 4 (.invokevirtual 139) := ⟨by decide +kernel, rfl⟩
theorem e_X3_linesBefore_4 : z_D 1 M_X3_linesBefore 4 5 (.istore_n 2) := ⟨by decide +kernel, rfl⟩
theorem e_X3_linesBefore_5 : z_D 1 M_X3_linesBefore 5 6 (.iconst 0) := ⟨by decide +kernel, rfl⟩
theorem e_X3_linesBefore_6 : z_D 1 M_X3_linesBefore 6 7 (.istore_n 3) := ⟨by decide +kernel, rfl⟩
theorem e_X3_linesBefore_7 : z_D 1 M_X3_linesBefore 7 8 (.iconst 0) := ⟨by decide +kernel, rfl⟩
theorem e_X3_linesBefore_8 : z_D 2 M_X3_linesBefore 8 10 (.istore 4) := ⟨by decide +kernel, rfl⟩
theorem e_X3_linesBefore_10 : z_D 2 M_X3_linesBefore 10 12 (.iload 4) := ⟨by decide +kernel, rfl⟩
theorem e_X3_linesBefore_12 : z_D 1 M_X3_linesBefore 12 13 (.iload_n 1) := ⟨by decide +kernel, rfl⟩
theorem e_X3_linesBefore_13 : z_J M_X3_linesBefore 13 16 40 (27) (.if_icmp .ge 27) := ⟨by decide +kernel, rfl, rfl⟩
theorem e_X3_linesBefore_16 : z_D 1 M_X3_linesBefore 16 17 (.iload_n 3) := ⟨by decide +kernel, rfl⟩
theorem e_X3_linesBefore_17 : z_D 1 M_X3_linesBefore 17 18 (.aload_n 0) := ⟨by decide +kernel, rfl⟩
theorem e_X3_linesBefore_18 : z_D 2 M_X3_linesBefore 18 20 (.iload 4) := ⟨by decide +kernel, rfl⟩
theorem e_X3_linesBefore_20 : z_D 1 M_X3_linesBefore 20 21 (.iload_n 2) := ⟨by decide +kernel, rfl⟩
theorem e_X3_linesBefore_21 : z_D 3 M_X3_linesBefore 21 24 (.invokevirtual 142) := ⟨by decide +kernel, rfl⟩
theorem e_X3_linesBefore_24 : z_J M_X3_linesBefore 24 27 31 (7) (.ifCond .eq 7) := ⟨by decide +kernel, rfl, rfl⟩
theorem e_X3_linesBefore_27 : z_D 1 M_X3_linesBefore 27 28 (.iconst 1) := ⟨by decide +kernel, rfl⟩
theorem e_X3_linesBefore_28 : z_J M_X3_linesBefore 28 31 32 (4) (.goto 4) := ⟨by decide +kernel, rfl, rfl⟩
theorem e_X3_linesBefore_31 : z_D 1 M_X3_linesBefore 31 32 (.iconst 0) := ⟨by decide +kernel, rfl⟩
theorem e_X3_linesBefore_32 : z_D 1 M_X3_linesBefore 32 33 (.iadd) := ⟨by decide +kernel, rfl⟩
theorem e_X3_linesBefore_33 : z_D 1 M_X3_linesBefore 33 34 (.istore_n 3) := ⟨by decide +kernel, rfl⟩
theorem e_X3_linesBefore_34 : z_D 3 M_X3_linesBefore 34 37 (.iinc 4 1) := ⟨by decide +kernel, rfl⟩
theorem e_X3_linesBefore_37 : z_J M_X3_linesBefore 37 40 10 (-27) (.goto (-27)) := ⟨by decide +kernel, rfl, rfl⟩
theorem e_X3_linesBefore_40 : z_D 1 M_X3_linesBefore 40 41 (.iload_n 3) := ⟨by decide +kernel, rfl⟩
theorem e_X3_linesBefore_41 : z_D 1 M_X3_linesBefore 41 42 (.ireturn) := ⟨by decide +kernel, rfl⟩
theorem e_X3_lines_0 : z_D 1 M_X3_lines 0 1 (.aload_n 0) := ⟨by decide +kernel, rfl⟩
theorem e_X3_lines_1 : z_D 1 M_X3_lines 1 2 (.aload_n 0) := ⟨by decide +kernel, rfl⟩
theorem e_X3_lines_2 : z_D 3 M_X3_lines 2 5 (.invokevirtual 139) := ⟨by decide +kernel, rfl⟩
theorem e_X3_lines_5 : z_D 3 M_X3_lines 5 8 (.invokevirtual 146) := ⟨by decide +kernel, rfl⟩
theorem e_X3_lines_8 : z_D 1 M_X3_lines 8 9 (.ireturn) := ⟨by decide +kernel, rfl⟩
theorem e_X3_startOfLine_0 : z_D 1 M_X3_startOfLine 0 1 (.aload_n 0) := ⟨by decide +kernel, rfl⟩
theorem e_X3_startOfLine_1 : z_D 3 M_X3_startOfLine 1 4 (.invokevirtual 139) := ⟨by decide +kernel, rfl⟩
theorem e_X3_startOfLine_4 : z_D 1 M_X3_startOfLine 4 5 (.istore_n 2) := ⟨by decide +kernel, rfl⟩
theorem e_X3_startOfLine_5 : z_D 1 M_X3_startOfLine 5 6 (.iconst 0) := ⟨by decide +kernel, rfl⟩
theorem e_X3_startOfLine_6 : z_D 1 M_X3_startOfLine 6 7 (.istore_n 3) := ⟨by decide +kernel, rfl⟩
theorem e_X3_startOfLine_7 : z_D 1 M_X3_startOfLine 7 8 (.iconst 0) := ⟨by decide +kernel, rfl⟩
theorem e_X3_startOfLine_8 : z_D 2 M_X3_startOfLine 8 10 (.istore 4) := ⟨by decide +kernel, rfl⟩
theorem e_X3_startOfLine_10 : z_D 2 M_X3_startOfLine 10 12 (.iload 4) := ⟨by decide +kernel, rfl⟩
theorem e_X3_startOfLine_12 : z_D 1 M_X3_startOfLine 12 13 (.iload_n 2) := ⟨by decide +kernel, rfl⟩
theorem e_X3_startOfLine_13 : z_J M_X3_startOfLine 13 16 48 (35) (.if_icmp .ge 35) := ⟨by decide +kernel, rfl, rfl⟩
theorem e_X3_startOfLine_16 : z_D 1 M_X3_startOfLine 16 17 (.iload_n 3) := ⟨by decide +kernel, rfl⟩
theorem e_X3_startOfLine_17 : z_D 1 M_X3_startOfLine 17 18 (.iload_n 1) := ⟨by decide +kernel, rfl⟩
theorem e_X3_startOfLine_18 : z_J M_X3_startOfLine 18 21 24 (6) (.if_icmp .ne 6) := ⟨by decide +kernel, rfl, rfl⟩
theorem e_X3_startOfLine_21 : z_D 2 M_X3_startOfLine 21 23 (.iload 4) := ⟨by decide +kernel, rfl⟩
theorem e_X3_startOfLine_23 : z_D 1 M_X3_startOfLine 23 24 (.ireturn) := ⟨by decide +kernel, rfl⟩
theorem e_X3_startOfLine_24 : z_D 1 M_X3_startOfLine 24 25 (.iload_n 3) := ⟨by decide +kernel, rfl⟩
theorem e_X3_startOfLine_25 : z_D 1 M_X3_startOfLine 25 26 (.aload_n 0) := ⟨by decide +kernel, rfl⟩
theorem e_X3_startOfLine_26 : z_D 2 M_X3_startOfLine 26 28 (.iload 4) := ⟨by decide +kernel, rfl⟩
theorem e_X3_startOfLine_28 : z_D 1 M_X3_startOfLine 28 29 (.iload_n 2) := ⟨by decide +kernel, rfl⟩
theorem e_X3_startOfLine_29 : z_D 3 M_X3_startOfLine 29 32 (.invokevirtual 142) := ⟨by decide +kernel, rfl⟩
theorem e_X3_startOfLine_32 : z_J M_X3_startOfLine 32 35 39 (7) (.ifCond .eq 7) := ⟨by decide +kernel, rfl, rfl⟩
theorem e_X3_startOfLine_35 : z_D 1 M_X3_startOfLine 35 36 (.iconst 1) := ⟨by decide +kernel, rfl⟩
theorem e_X3_startOfLine_36 : z_J M_X3_startOfLine 36 39 40 (4) (.goto 4) := ⟨by decide +kernel, rfl, rfl⟩
theorem e_X3_startOfLine_39 : z_D 1 M_X3_startOfLine 39 40 (.iconst 0) := ⟨by decide +kernel, rfl⟩
theorem e_X3_startOfLine_40 : z_D 1 M_X3_startOfLine 40 41 (.iadd) := ⟨by decide +kernel, rfl⟩
theorem e_X3_startOfLine_41 : z_D 1 M_X3_startOfLine 41 42 (.istore_n 3) := ⟨by decide +kernel, rfl⟩
theorem e_X3_startOfLine_42 : z_D 3 M_X3_startOfLine 42 45 (.iinc 4 1) := ⟨by decide +kernel, rfl⟩
theorem e_X3_startOfLine_45 : z_J M_X3_startOfLine 45 48 10 (-35) (.goto (-35)) := ⟨by decide +kernel, rfl, rfl⟩
theorem e_X3_startOfLine_48 : z_D 1 M_X3_startOfLine 48 49 (.iconst (-1)) := ⟨by decide +kernel, rfl⟩
theorem e_X3_startOfLine_49 : z_D 1 M_X3_startOfLine 49 50 (.ireturn) := ⟨by decide +kernel, rfl⟩
theorem e_X3_startOf_0 : z_D 1 M_X3_startOf 0 1 (.iload_n 1) := ⟨by decide +kernel, rfl⟩
theorem e_X3_startOf_1 : z_D 1 M_X3_startOf 1 2 (.istore_n 2) := ⟨by decide +kernel, rfl⟩
theorem e_X3_startOf_2 : z_D 1 M_X3_startOf 2 3 (.iload_n 2) := ⟨by decide +kernel, rfl⟩
theorem e_X3_startOf_3 : z_J M_X3_startOf 3 6 25 (22) (.ifCond .le 22) := ⟨by decide +kernel, rfl, rfl⟩
theorem e_X3_startOf_6 : z_D 1 M_X3_startOf 6 7 (.aload_n 0) := ⟨by decide +kernel, rfl⟩
theorem e_X3_startOf_7 : z_D 1 M_X3_startOf 7 8 (.iload_n 2) := ⟨by decide +kernel, rfl⟩
theorem e_X3_startOf_8 : z_D 1 M_X3_startOf 8 9 (.iconst 1) := ⟨by decide +kernel, rfl⟩
theorem e_X3_startOf_9 : z_D 1 M_X3_startOf 9 10 (.isub) := ⟨by decide +kernel, rfl⟩
theorem e_X3_startOf_10 : z_D 3 M_X3_startOf 10 13 (.invokevirtual 56) := ⟨by decide +kernel, rfl⟩
theorem e_X3_startOf_13 : z_D 3 M_X3_startOf 13 16 (.getfield 105) := ⟨by decide +kernel, rfl⟩
theorem e_X3_startOf_16 : z_J M_X3_startOf 16 19 25 (9) (.ifCond .eq 9) := ⟨by decide +kernel, rfl, rfl⟩
theorem e_X3_startOf_19 : z_D 3 M_X3_startOf 19 22 (.iinc 2 (-1)) := ⟨by decide +kernel, rfl⟩
theorem e_X3_startOf_22 : z_J M_X3_startOf 22 25 2 (-20) (.goto (-20)) := ⟨by decide +kernel, rfl, rfl⟩
theorem e_X3_startOf_25 : z_D 1 M_X3_startOf 25 26 (.iload_n 2) := ⟨by decide +kernel, rfl⟩
theorem e_X3_startOf_26 : z_D 1 M_X3_startOf 26 27 (.ireturn) := ⟨by decide +kernel, rfl⟩
theorem e_X3_endOf_0 : z_D 1 M_X3_endOf 0 1 (.aload_n 0) := ⟨by decide +kernel, rfl⟩
theorem e_X3_endOf_1 : z_D 3 M_X3_endOf 1 4 (.invokevirtual 139) := ⟨by decide +kernel, rfl⟩
theorem e_X3_endOf_4 : z_D 1 M_X3_endOf 4 5 (.istore_n 2) := ⟨by decide +kernel, rfl⟩
theorem e_X3_endOf_5 : z_D 1 M_X3_endOf 5 6 (.iload_n 1) := ⟨by decide +kernel, rfl⟩
theorem e_X3_endOf_6 : z_D 1 M_X3_endOf 6 7 (.istore_n 3) := ⟨by decide +kernel, rfl⟩
theorem e_X3_endOf_7 : z_D 1 M_X3_endOf 7 8 (.iload_n 3) := ⟨by decide +kernel, rfl⟩
theorem e_X3_endOf_8 : z_D 1 M_X3_endOf 8 9 (.iload_n 2) := ⟨by decide +kernel, rfl⟩
theorem e_X3_endOf_9 : z_J M_X3_endOf 9 12 27 (18) (.if_icmp .ge 18) := ⟨by decide +kernel, rfl, rfl⟩
theorem e_X3_endOf_12 : z_D 1 M_X3_endOf 12 13 (.aload_n 0) := ⟨by decide +kernel, rfl⟩
theorem e_X3_endOf_13 : z_D 1 M_X3_endOf 13 14 (.iload_n 3) := ⟨by decide +kernel, rfl⟩
theorem e_X3_endOf_14 : z_D 1 M_X3_endOf 14 15 (.iload_n 2) := ⟨by decide +kernel, rfl⟩
theorem e_X3_endOf_15 : z_D 3 M_X3_endOf 15 18 (.invokevirtual 142) := ⟨by decide +kernel, rfl⟩
theorem e_X3_endOf_18 : z_J M_X3_endOf 18 21 27 (9) (.ifCond .ne 9) := ⟨by decide +kernel, rfl, rfl⟩
theorem e_X3_endOf_21 : z_D 3 M_X3_endOf 21 24 (.iinc 3 1) := ⟨by decide +kernel, rfl⟩
theorem e_X3_endOf_24 : z_J M_X3_endOf 24 27 7 (-17) (.goto (-17)) := ⟨by decide +kernel, rfl, rfl⟩
theorem e_X3_endOf_27 : z_D 1 M_X3_endOf 27 28 (.iload_n 3) := ⟨by decide +kernel, rfl⟩
theorem e_X3_endOf_28 : z_D 1 M_X3_endOf 28 29 (.ireturn) := ⟨by decide +kernel, rfl⟩
theorem e_X3_cellsOfLine_0 : z_D 1 M_X3_cellsOfLine 0 1 (.aload_n 0) := ⟨by decide +kernel, rfl⟩
theorem e_X3_cellsOfLine_1 : z_D 1 M_X3_cellsOfLine 1 2 (.iload_n 1) := ⟨by decide +kernel, rfl⟩
theorem e_X3_cellsOfLine_2 : z_D 3 M_X3_cellsOfLine 2 5 (.invokevirtual 56) := ⟨by decide +kernel, rfl⟩
theorem e_X3_cellsOfLine_5 : z_D 1 M_X3_cellsOfLine 5 6 (.astore_n 3) := ⟨by decide +kernel, rfl⟩
theorem e_X3_cellsOfLine_6 : z_D 1 M_X3_cellsOfLine 6 7 (.iload_n 2) := ⟨by decide +kernel, rfl⟩
theorem e_X3_cellsOfLine_7 : z_J M_X3_cellsOfLine 7 10 15 (8) (.ifCond .eq 8) := ⟨by decide +kernel, rfl, rfl⟩
theorem e_X3_cellsOfLine_10 : z_D 1 M_X3_cellsOfLine 10 11 (.aload_n 3) := ⟨by decide +kernel, rfl⟩
theorem e_X3_cellsOfLine_11 : z_D 3 M_X3_cellsOfLine 11 14 (.invokevirtual 136) := ⟨by decide +kernel, rfl⟩
theorem e_X3_cellsOfLine_14 : z_D 1 M_X3_cellsOfLine 14 15 (.ireturn) := ⟨by decide +kernel, rfl⟩
theorem e_X3_cellsOfLine_15 : z_D 1 M_X3_cellsOfLine 15 16 (.aload_n 3) := ⟨by decide +kernel, rfl⟩
theorem e_X3_cellsOfLine_16 : z_D 3 M_X3_cellsOfLine 16 19 (.getfield 99) := ⟨by decide +kernel, rfl⟩
theorem e_X3_cellsOfLine_19 : z_J M_X3_cellsOfLine 19 22 31 (12) (.ifCond .eq 12) := ⟨by decide +kernel, rfl, rfl⟩
theorem e_X3_cellsOfLine_22 : z_D 1 M_X3_cellsOfLine 22 23 (.aload_n 0) := ⟨by decide +kernel, rfl⟩
theorem e_X3_cellsOfLine_23 : z_D 3 M_X3_cellsOfLine 23 26 (.getfield 35) := ⟨by decide +kernel, rfl⟩
theorem e_X3_cellsOfLine_26 : z_D 1 M_X3_cellsOfLine 26 27 (.iconst 1) := ⟨by decide +kernel, rfl⟩
theorem e_X3_cellsOfLine_27 : z_D 1 M_X3_cellsOfLine 27 28 (.isub) := ⟨by decide +kernel, rfl⟩
theorem e_X3_cellsOfLine_28 : z_J M_X3_cellsOfLine 28 31 35 (7) (.goto 7) := ⟨by decide +kernel, rfl, rfl⟩
theorem e_X3_cellsOfLine_31 : z_D 1 M_X3_cellsOfLine 31 32 (.aload_n 0) := ⟨by decide +kernel, rfl⟩
theorem e_X3_cellsOfLine_32 : z_D 3 M_X3_cellsOfLine 32 35 (.getfield 35) := ⟨by decide +kernel, rfl⟩
theorem e_X3_cellsOfLine_35 : z_D 1 M_X3_cellsOfLine 35 36 (.ireturn) := ⟨by decide +kernel, rfl⟩
theorem e_X3_signsOfLine_0 : z_D 1 M_X3_signsOfLine 0 1 (.iconst 0) := ⟨by decide +kernel, rfl⟩
theorem e_X3_signsOfLine_1 : z_D 1 M_X3_signsOfLine 1 2 (.istore_n 3) := ⟨by decide +kernel, rfl⟩
theorem e_X3_signsOfLine_2 : z_D 1 M_X3_signsOfLine 2 3 (.iload_n 1) := ⟨by decide +kernel, rfl⟩
theorem e_X3_signsOfLine_3 : z_D 2 M_X3_signsOfLine 3 5 (.istore 4) := ⟨by decide +kernel, rfl⟩
theorem e_X3_signsOfLine_5 : z_D 2 M_X3_signsOfLine 5 7 (.iload 4) := ⟨by decide +kernel, rfl⟩
theorem e_X3_signsOfLine_7 : z_D 1 M_X3_signsOfLine 7 8 (.iload_n 2) := ⟨by decide +kernel, rfl⟩
theorem e_X3_signsOfLine_8 : z_J M_X3_signsOfLine 8 11 46 (38) (.if_icmp .gt 38) := ⟨by decide +kernel, rfl, rfl⟩
theorem e_X3_signsOfLine_11 : z_D 1 M_X3_signsOfLine 11 12 (.iload_n 3) := ⟨by decide +kernel, rfl⟩
theorem e_X3_signsOfLine_12 : z_D 1 M_X3_signsOfLine 12 13 (.aload_n 0) := ⟨by decide +kernel, rfl⟩
theorem e_X3_signsOfLine_13 : z_D 2 M_X3_signsOfLine 13 15 (.iload 4) := ⟨by decide +kernel, rfl⟩
theorem e_X3_signsOfLine_15 : z_D 3 M_X3_signsOfLine 15 18 (.invokevirtual 56) := ⟨by decide +kernel, rfl⟩
theorem e_X3_signsOfLine_18 : z_D 1 M_X3_signsOfLine 18 19 (.aload_n 0) := ⟨by decide +kernel, rfl⟩
theorem e_X3_signsOfLine_19 : z_D 2 M_X3_signsOfLine 19 21 (.iload 4) := ⟨by decide +kernel, rfl⟩
theorem e_X3_signsOfLine_21 : z_D 2 M_X3_signsOfLine 21 23 (.iload 4) := ⟨by decide +kernel, rfl⟩
theorem e_X3_signsOfLine_23 : z_D 1 M_X3_signsOfLine 23 24 (.iload_n 2) := ⟨by decide +kernel, rfl⟩
theorem e_X3_signsOfLine_24 : z_J M_X3_signsOfLine 24 27 31 (7) (.if_icmp .ne 7) := ⟨by decide +kernel, rfl, rfl⟩
theorem e_X3_signsOfLine_27 : z_D 1 M_X3_signsOfLine 27 28 (.iconst 1) := ⟨by decide +kernel, rfl⟩
theorem e_X3_signsOfLine_28 : z_J M_X3_signsOfLine 28 31 32 (4) (.goto 4) := ⟨by decide +kernel, rfl, rfl⟩
theorem e_X3_signsOfLine_31 : z_D 1 M_X3_signsOfLine 31 32 (.iconst 0) := ⟨by decide +kernel, rfl⟩
theorem e_X3_signsOfLine_32 : z_D 3 M_X3_signsOfLine 32 35 (.invokevirtual 149) := ⟨by decide +kernel, rfl⟩
theorem e_X3_signsOfLine_35 : z_D 3 M_X3_signsOfLine 35 38 (.invokevirtual 153) := ⟨by decide +kernel, rfl⟩
theorem e_X3_signsOfLine_38 : z_D 1 M_X3_signsOfLine 38 39 (.iadd) := ⟨by decide +kernel, rfl⟩
theorem e_X3_signsOfLine_39 : z_D 1 M_X3_signsOfLine 39 40 (.istore_n 3) := ⟨by decide +kernel, rfl⟩
theorem e_X3_signsOfLine_40 : z_D 3 M_X3_signsOfLine 40 43 (.iinc 4 1) := ⟨by decide +kernel, rfl⟩
theorem e_X3_signsOfLine_43 : z_J M_X3_signsOfLine 43 46 5 (-38) (.goto (-38)) := ⟨by decide +kernel, rfl, rfl⟩
theorem e_X3_signsOfLine_46 : z_D 1 M_X3_signsOfLine 46 47 (.iload_n 3) := ⟨by decide +kernel, rfl⟩
theorem e_X3_signsOfLine_47 : z_D 1 M_X3_signsOfLine 47 48 (.ireturn) := ⟨by decide +kernel, rfl⟩
theorem e_X3_lineOf_0 : z_D 1 M_X3_lineOf 0 1 (.aload_n 0) := ⟨by decide +kernel, rfl⟩
theorem e_X3_lineOf_1 : z_D 1 M_X3_lineOf 1 2 (.aload_n 0) := ⟨by decide +kernel, rfl⟩
theorem e_X3_lineOf_2 : z_D 1 M_X3_lineOf 2 3 (.aload_n 0) := ⟨by decide +kernel, rfl⟩
theorem e_X3_lineOf_3 : z_D 3 M_X3_lineOf 3 6 (.getfield 32) := ⟨by decide +kernel, rfl⟩
theorem e_X3_lineOf_6 : z_D 1 M_X3_lineOf 6 7 (.aload_n 1) := ⟨by decide +kernel, rfl⟩
theorem e_X3_lineOf_7 : z_D 3 M_X3_lineOf 7 10 (.getfield 66) := ⟨by decide +kernel, rfl⟩
theorem e_X3_lineOf_10 : z_D 1 M_X3_lineOf 10 11 (.iadd) := ⟨by decide +kernel, rfl⟩
theorem e_X3_lineOf_11 : z_D 3 M_X3_lineOf 11 14 (.invokevirtual 156) := ⟨by decide +kernel, rfl⟩
theorem e_X3_lineOf_14 : z_D 3 M_X3_lineOf 14 17 (.invokevirtual 146) := ⟨by decide +kernel, rfl⟩
theorem e_X3_lineOf_17 : z_D 1 M_X3_lineOf 17 18 (.ireturn) := ⟨by decide +kernel, rfl⟩
theorem e_X3_markOf_0 : z_D 1 M_X3_markOf 0 1 (.aload_n 0) := ⟨by decide +kernel, rfl⟩
theorem e_X3_markOf_1 : z_D 3 M_X3_markOf 1 4 (.getfield 32) := ⟨by decide +kernel, rfl⟩
theorem e_X3_markOf_4 : z_D 1 M_X3_markOf 4 5 (.aload_n 1) := ⟨by decide +kernel, rfl⟩
theorem e_X3_markOf_5 : z_D 3 M_X3_markOf 5 8 (.getfield 66) := ⟨by decide +kernel, rfl⟩
theorem e_X3_markOf_8 : z_D 1 M_X3_markOf 8 9 (.iadd) := ⟨by decide +kernel, rfl⟩
theorem e_X3_markOf_9 : z_D 1 M_X3_markOf 9 10 (.istore_n 2) := ⟨by decide +kernel, rfl⟩
theorem e_X3_markOf_10 : z_D 1 M_X3_markOf 10 11 (.iconst 0) := ⟨by decide +kernel, rfl⟩
theorem e_X3_markOf_11 : z_D 1 M_X3_markOf 11 12 (.istore_n 3) := ⟨by decide +kernel, rfl⟩
theorem e_X3_markOf_12 : z_D 1 M_X3_markOf 12 13 (.aload_n 0) := ⟨by decide +kernel, rfl⟩
theorem e_X3_markOf_13 : z_D 1 M_X3_markOf 13 14 (.iload_n 2) := ⟨by decide +kernel, rfl⟩
theorem e_X3_markOf_14 : z_D 3 M_X3_markOf 14 17 (.invokevirtual 156) := ⟨by decide +kernel, rfl⟩
theorem e_X3_markOf_17 : z_D 2 M_X3_markOf 17 19 (.istore 4) := ⟨by decide +kernel, rfl⟩
theorem e_X3_markOf_19 : z_D 2 M_X3_markOf 19 21 (.iload 4) := ⟨by decide +kernel, rfl⟩
theorem e_X3_markOf_21 : z_D 1 M_X3_markOf 21 22 (.iload_n 2) := ⟨by decide +kernel, rfl⟩
theorem e_X3_markOf_22 : z_J M_X3_markOf 22 25 50 (28) (.if_icmp .ge 28) := ⟨by decide +kernel, rfl, rfl⟩
theorem e_X3_markOf_25 : z_D 1 M_X3_markOf 25 26 (.iload_n 3) := ⟨by decide +kernel, rfl⟩
theorem e_X3_markOf_26 : z_D 1 M_X3_markOf 26 27 (.aload_n 0) := ⟨by decide +kernel, rfl⟩
theorem e_X3_markOf_27 : z_D 2 M_X3_markOf 27 29 (.iload 4) := ⟨by decide +kernel, rfl⟩
theorem e_X3_markOf_29 : z_D 3 M_X3_markOf 29 32 (.invokevirtual 56) := ⟨by decide +kernel, rfl⟩
theorem e_X3_markOf_32 : z_D 1 M_X3_markOf 32 33 (.aload_n 0) := ⟨by decide +kernel, rfl⟩
theorem e_X3_markOf_33 : z_D 2 M_X3_markOf 33 35 (.iload 4) := ⟨by decide +kernel, rfl⟩
theorem e_X3_markOf_35 : z_D 1 M_X3_markOf 35 36 (.iconst 0) := ⟨by decide +kernel, rfl⟩
theorem e_X3_markOf_36 : z_D 3 M_X3_markOf 36 39 (.invokevirtual 149) := ⟨by decide +kernel, rfl⟩
theorem e_X3_markOf_39 : z_D 3 M_X3_markOf 39 42 (.invokevirtual 153) := ⟨by decide +kernel, rfl⟩
theorem e_X3_markOf_42 : z_D 1 M_X3_markOf 42 43 (.iadd) := ⟨by decide +kernel, rfl⟩
theorem e_X3_markOf_43 : z_D 1 M_X3_markOf 43 44 (.istore_n 3) := ⟨by decide +kernel, rfl⟩
theorem e_X3_markOf_44 : z_D 3 M_X3_markOf 44 47 (.iinc 4 1) := ⟨by decide +kernel, rfl⟩
theorem e_X3_markOf_47 : z_J M_X3_markOf 47 50 19 (-28) (.goto (-28)) := ⟨by decide +kernel, rfl, rfl⟩
theorem e_X3_markOf_50 : z_D 1 M_X3_markOf 50 51 (.aload_n 0) := ⟨by decide +kernel, rfl⟩
theorem e_X3_markOf_51 : z_D 1 M_X3_markOf 51 52 (.iload_n 2) := ⟨by decide +kernel, rfl⟩
theorem e_X3_markOf_52 : z_D 1 M_X3_markOf 52 53 (.aload_n 0) := ⟨by decide +kernel, rfl⟩
theorem e_X3_markOf_53 : z_D 3 M_X3_markOf 53 56 (.invokevirtual 139) := ⟨by decide +kernel, rfl⟩
theorem e_X3_markOf_56 : z_D 3 M_X3_markOf 56 59 (.invokevirtual 142) := ⟨by decide +kernel, rfl⟩
theorem e_X3_markOf_59 : z_D 2 M_X3_markOf 59 61 (.istore 4) := ⟨by decide +kernel, rfl⟩
theorem e_X3_markOf_61 : z_D 1 M_X3_markOf 61 62 (.aload_n 0) := ⟨by decide +kernel, rfl⟩
theorem e_X3_markOf_62 : z_D 1 M_X3_markOf 62 63 (.iload_n 2) := ⟨by decide +kernel, rfl⟩
theorem e_X3_markOf_63 : z_D 2 M_X3_markOf 63 65 (.iload 4) := ⟨by decide +kernel, rfl⟩
theorem e_X3_markOf_65 : z_D 3 M_X3_markOf 65 68 (.invokevirtual 149) := ⟨by decide +kernel, rfl⟩
theorem e_X3_markOf_68 : z_D 2 M_X3_markOf 68 70 (.istore 5) := ⟨by decide +kernel, rfl⟩
theorem e_X3_markOf_70 : z_D 1 M_X3_markOf 70 71 (.aload_n 1) := ⟨by decide +kernel, rfl⟩
theorem e_X3_markOf_71 : z_D 3 M_X3_markOf 71 74 (.getfield 83) := ⟨by decide +kernel, rfl⟩
theorem e_X3_markOf_74 : z_J M_X3_markOf 74 77 84 (10) (.ifCond .eq 10) := ⟨by decide +kernel, rfl, rfl⟩
theorem e_X3_markOf_77 : z_D 1 M_X3_markOf 77 78 (.aload_n 0) := ⟨by decide +kernel, rfl⟩
theorem e_X3_markOf_78 : z_D 3 M_X3_markOf 78 81 (.getfield 35) := ⟨by decide +kernel, rfl⟩
theorem e_X3_markOf_81 : z_J M_X3_markOf 81 84 88 (7) (.goto 7) := ⟨by decide +kernel, rfl, rfl⟩
theorem e_X3_markOf_84 : z_D 1 M_X3_markOf 84 85 (.aload_n 1) := ⟨by decide +kernel, rfl⟩
theorem e_X3_markOf_85 : z_D 3 M_X3_markOf 85 88 (.getfield 69) := ⟨by decide +kernel, rfl⟩
theorem e_X3_markOf_88 : z_D 2 M_X3_markOf 88 90 (.istore 6) := ⟨by decide +kernel, rfl⟩
theorem e_X3_markOf_90 : z_D 1 M_X3_markOf 90 91 (.iload_n 3) := ⟨by decide +kernel, rfl⟩
theorem e_X3_markOf_91 : z_D 1 M_X3_markOf 91 92 (.aload_n 0) := ⟨by decide +kernel, rfl⟩
theorem e_X3_markOf_92 : z_D 1 M_X3_markOf 92 93 (.iload_n 2) := ⟨by decide +kernel, rfl⟩
theorem e_X3_markOf_93 : z_D 3 M_X3_markOf 93 96 (.invokevirtual 56) := ⟨by decide +kernel, rfl⟩
theorem e_X3_markOf_96 : z_D 2 M_X3_markOf 96 98 (.iload 6) := ⟨by decide +kernel, rfl⟩
theorem e_X3_markOf_98 : z_D 2 M_X3_markOf 98 100 (.iload 5) := ⟨by decide +kernel, rfl⟩
theorem e_X3_markOf_100 : z_D 3 M_X3_markOf 100 103 (.invokestatic 159) := ⟨by decide +kernel, rfl⟩
theorem e_X3_markOf_103 : z_D 3 M_X3_markOf 103 106 (.invokevirtual 153) := ⟨by decide +kernel, rfl⟩
theorem e_X3_markOf_106 : z_D 1 M_X3_markOf 106 107 (.iadd) := ⟨by decide +kernel, rfl⟩
theorem e_X3_markOf_107 : z_D 1 M_X3_markOf 107 108 (.istore_n 3) := ⟨by decide +kernel, rfl⟩
theorem e_X3_markOf_108 : z_D 2 M_X3_markOf 108 110 (.iload 4) := ⟨by decide +kernel, rfl⟩
theorem e_X3_markOf_110 : z_J M_X3_markOf 110 113 127 (17) (.ifCond .eq 17) := ⟨by decide +kernel, rfl, rfl⟩
theorem e_X3_markOf_113 : z_D 1 M_X3_markOf 113 114 (.iload_n 3) := ⟨by decide +kernel, rfl⟩
theorem e_X3_markOf_114 : z_D 1 M_X3_markOf 114 115 (.iconst 0) := ⟨by decide +kernel, rfl⟩
theorem e_X3_markOf_115 : z_D 2 M_X3_markOf 115 117 (.iload 6) := ⟨by decide +kernel, rfl⟩
theorem e_X3_markOf_117 : z_D 2 M_X3_markOf 117 119 (.iload 5) := ⟨by decide +kernel, rfl⟩
theorem e_X3_markOf_119 : z_D 1 M_X3_markOf 119 120 (.isub) := ⟨by decide +kernel, rfl⟩
theorem e_X3_markOf_120 : z_D 3 M_X3_markOf 120 123 (.invokestatic 130) := ⟨by decide +kernel, rfl⟩
theorem e_X3_markOf_123 : z_D 1 M_X3_markOf 123 124 (.iadd) := ⟨by decide +kernel, rfl⟩
theorem e_X3_markOf_124 : z_J M_X3_markOf 124 127 128 (4) (.goto 4) := ⟨by decide +kernel, rfl, rfl⟩
theorem e_X3_markOf_127 : z_D 1 M_X3_markOf 127 128 (.iload_n 3) := ⟨by decide +kernel, rfl⟩
theorem e_X3_markOf_128 : z_D 1 M_X3_markOf 128 129 (.ireturn) := ⟨by decide +kernel, rfl⟩
theorem e_X4_init_0 : z_D 1 M_X4_init 0 1 (.aload_n 0) := ⟨by decide +kernel, rfl⟩
theorem e_X4_init_1 : z_D 3 M_X4_init 1 4 (.invokespecial 3) := ⟨by decide +kernel, rfl⟩
theorem e_X4_init_4 : z_D 1 M_X4_init 4 5 (.aload_n 0) := ⟨by decide +kernel, rfl⟩
theorem e_X4_init_5 : z_D 3 M_X4_init 5 8 (.new 9) := ⟨by decide +kernel, rfl⟩
theorem e_X4_init_8 : z_D 1 M_X4_init 8 9 (.dup) := ⟨by decide +kernel, rfl⟩
theorem e_X4_init_9 : z_D 3 M_X4_init 9 12 (.invokespecial 11) := ⟨by decide +kernel, rfl⟩
theorem e_X4_init_12 : z_D 3 M_X4_init 12 15 (.putfield 12) := ⟨by decide +kernel, rfl⟩
theorem e_X4_init_15 : z_D 1 M_X4_init 15 16 (.aload_n 0) := ⟨by decide +kernel, rfl⟩
theorem e_X4_init_16 : z_D 2 M_X4_init 16 18 (.bipush 8) := ⟨by decide +kernel, rfl⟩
theorem e_X4_init_18 : z_D 3 M_X4_init 18 21 (.anewarray 9) := ⟨by decide +kernel, rfl⟩
theorem e_X4_init_21 : z_D 3 M_X4_init 21 24 (.putfield 16) := ⟨by decide +kernel, rfl⟩
theorem e_X4_init_24 : z_D 1 M_X4_init 24 25 (.aload_n 0) := ⟨by decide +kernel, rfl⟩
theorem e_X4_init_25 : z_D 3 M_X4_init 25 28 (.new 20) := ⟨by decide +kernel, rfl⟩
theorem e_X4_init_28 : z_D 1 M_X4_init 28 29 (.dup) := ⟨by decide +kernel, rfl⟩
theorem e_X4_init_29 : z_D 3 M_X4_init 29 32 (.invokespecial 22) := ⟨by decide +kernel, rfl⟩
theorem e_X4_init_32 : z_D 3 M_X4_init 32 35 (.putfield 23) := ⟨by decide +kernel, rfl⟩
theorem e_X4_init_35 : z_D 1 M_X4_init 35 36 (.aload_n 0) := ⟨by decide +kernel, rfl⟩
theorem e_X4_init_36 : z_D 1 M_X4_init 36 37 (.iconst 0) := ⟨by decide +kernel, rfl⟩
theorem e_X4_init_37 : z_D 3 M_X4_init 37 40 (.putfield 27) := ⟨by decide +kernel, rfl⟩
theorem e_X4_init_40 : z_D 1 M_X4_init 40 41 (.aload_n 0) := ⟨by decide +kernel, rfl⟩
theorem e_X4_init_41 : z_D 1 M_X4_init 41 42 (.iconst 0) := ⟨by decide +kernel, rfl⟩
theorem e_X4_init_42 : z_D 3 M_X4_init 42 45 (.putfield 31) := ⟨by decide +kernel, rfl⟩
theorem e_X4_init_45 : z_D 1 M_X4_init 45 46 (.iconst 0) := ⟨by decide +kernel, rfl⟩
theorem e_X4_init_46 : z_D 1 M_X4_init 46 47 (.istore_n 1) := ⟨by decide +kernel, rfl⟩
theorem e_X4_init_47 : z_D 1 M_X4_init 47 48 (.iload_n 1) := ⟨by decide +kernel, rfl⟩
theorem e_X4_init_48 : z_D 2 M_X4_init 48 50 (.bipush 8) := ⟨by decide +kernel, rfl⟩
theorem e_X4_init_50 : z_J M_X4_init 50 53 72 (22) (.if_icmp .ge 22) := ⟨by decide +kernel, rfl, rfl⟩
theorem e_X4_init_53 : z_D 1 M_X4_init 53 54 (.aload_n 0) := ⟨by decide +kernel, rfl⟩
theorem e_X4_init_54 : z_D 3 M_X4_init 54 57 (.getfield 16) := ⟨by decide +kernel, rfl⟩
theorem e_X4_init_57 : z_D 1 M_X4_init 57 58 (.iload_n 1) := ⟨by decide +kernel, rfl⟩
theorem e_X4_init_58 : z_D 3 M_X4_init 58 61 (.new 9) := ⟨by decide +kernel, rfl⟩
theorem e_X4_init_61 : z_D 1 M_X4_init 61 62 (.dup) := ⟨by decide +kernel, rfl⟩
theorem e_X4_init_62 : z_D 3 M_X4_init 62 65 (.invokespecial 11) := ⟨by decide +kernel, rfl⟩
theorem e_X4_init_65 : z_D 1 M_X4_init 65 66 (.aastore) := ⟨by decide +kernel, rfl⟩
theorem e_X4_init_66 : z_D 3 M_X4_init 66 69 (.iinc 1 1) := ⟨by decide +kernel, rfl⟩
theorem e_X4_init_69 : z_J M_X4_init 69 72 47 (-22) (.goto (-22)) := ⟨by decide +kernel, rfl, rfl⟩
theorem e_X4_init_72 : z_D 1 M_X4_init 72 73 (.return_) := ⟨by decide +kernel, rfl⟩
theorem e_X4_feed_0 : z_D 1 M_X4_feed 0 1 (.iload_n 1) := ⟨by decide +kernel, rfl⟩
theorem e_X4_feed_1 : z_D 2 M_X4_feed 1 3 (.bipush 32) := ⟨by decide +kernel, rfl⟩
theorem e_X4_feed_3 : z_J M_X4_feed 3 6 16 (13) (.if_icmp .lt 13) := ⟨by decide +kernel, rfl, rfl⟩
theorem e_X4_feed_6 : z_D 1 M_X4_feed 6 7 (.iload_n 1) := ⟨by decide +kernel, rfl⟩
theorem e_X4_feed_7 : z_D 2 M_X4_feed 7 9 (.bipush 126) := ⟨by decide +kernel, rfl⟩
theorem e_X4_feed_9 : z_J M_X4_feed 9 12 16 (7) (.if_icmp .gt 7) := ⟨by decide +kernel, rfl, rfl⟩
theorem e_X4_feed_12 : z_D 1 M_X4_feed 12 13 (.iconst 1) := ⟨by decide +kernel, rfl⟩
theorem e_X4_feed_13 : z_J M_X4_feed 13 16 17 (4) (.goto 4) := ⟨by decide +kernel, rfl, rfl⟩
theorem e_X4_feed_16 : z_D 1 M_X4_feed 16 17 (.iconst 0) := ⟨by decide +kernel, rfl⟩
theorem e_X4_feed_17 : z_D 1 M_X4_feed 17 18 (.istore_n 2) := ⟨by decide +kernel, rfl⟩
theorem e_X4_feed_18 : z_D 1 M_X4_feed 18 19 (.iload_n 2) := ⟨by decide +kernel, rfl⟩
theorem e_X4_feed_19 : z_J M_X4_feed 19 22 31 (12) (.ifCond .ne 12) := ⟨by decide +kernel, rfl, rfl⟩
theorem e_X4_feed_22 : z_D 1 M_X4_feed 22 23 (.iload_n 1) := ⟨by decide +kernel, rfl⟩
theorem e_X4_feed_23 : z_D 3 M_X4_feed 23 26 (.invokestatic 34) := ⟨by decide +kernel, rfl⟩
theorem e_X4_feed_26 : z_J M_X4_feed 26 29 31 (5) (.ifCond .ne 5) := ⟨by decide +kernel, rfl, rfl⟩
theorem e_X4_feed_29 : z_D 1 M_X4_feed 29 30 (.iconst (-1)) := ⟨by decide +kernel, rfl⟩
theorem e_X4_feed_30 : z_D 1 M_X4_feed 30 31 (.ireturn) := ⟨by decide +kernel, rfl⟩
theorem e_X4_feed_31 : z_D 1 M_X4_feed 31 32 (.aload_n 0) := ⟨by decide +kernel, rfl⟩
theorem e_X4_feed_32 : z_D 3 M_X4_feed 32 35 (.invokevirtual 38) := ⟨by decide +kernel, rfl⟩
theorem e_X4_feed_35 : z_D 1 M_X4_feed 35 36 (.pop) := ⟨by decide +kernel, rfl⟩
theorem e_X4_feed_36 : z_D 1 M_X4_feed 36 37 (.iload_n 2) := ⟨by decide +kernel, rfl⟩
theorem e_X4_feed_37 : z_J M_X4_feed 37 40 51 (14) (.ifCond .eq 14) := ⟨by decide +kernel, rfl, rfl⟩
theorem e_X4_feed_40 : z_D 1 M_X4_feed 40 41 (.aload_n 0) := ⟨by decide +kernel, rfl⟩
theorem e_X4_feed_41 : z_D 3 M_X4_feed 41 44 (.getfield 12) := ⟨by decide +kernel, rfl⟩
theorem e_X4_feed_44 : z_D 1 M_X4_feed 44 45 (.iload_n 1) := ⟨by decide +kernel, rfl⟩
theorem e_X4_feed_45 : z_D 3 M_X4_feed 45 48 (.invokevirtual 42) := ⟨by decide +kernel, rfl⟩
theorem e_X4_feed_48 : z_J M_X4_feed 48 51 56 (8) (.goto 8) := ⟨by decide +kernel, rfl, rfl⟩
theorem e_X4_feed_51 : z_D 1 M_X4_feed 51 52 (.aload_n 0) := ⟨by decide +kernel, rfl⟩
theorem e_X4_feed_52 : z_D 1 M_X4_feed 52 53 (.iload_n 1) := ⟨by decide +kernel, rfl⟩
theorem e_X4_feed_53 : z_D 3 M_X4_feed 53 56 (.invokevirtual 46) := ⟨by decide +kernel, rfl⟩
theorem e_X4_feed_56 : z_D 1 M_X4_feed 56 57 (.aload_n 0) := ⟨by decide +kernel, rfl⟩
theorem e_X4_feed_57 : z_D 3 M_X4_feed 57 60 (.getfield 12) := ⟨by decide +kernel, rfl⟩
theorem e_X4_feed_60 : z_D 3 M_X4_feed 60 63 (.getfield 49) := ⟨by decide +kernel, rfl⟩
theorem e_X4_feed_63 : z_D 1 M_X4_feed 63 64 (.ireturn) := ⟨by decide +kernel, rfl⟩
theorem e_X4_moveTo_0 : z_D 1 M_X4_moveTo 0 1 (.aload_n 0) := ⟨by decide +kernel, rfl⟩
theorem e_X4_moveTo_1 : z_D 3 M_X4_moveTo 1 4 (.getfield 12) := ⟨by decide +kernel, rfl⟩
theorem e_X4_moveTo_4 : z_D 1 M_X4_moveTo 4 5 (.iload_n 1) := ⟨by decide +kernel, rfl⟩
theorem e_X4_moveTo_5 : z_D 1 M_X4_moveTo 5 6 (.iload_n 2) := ⟨by decide +kernel, rfl⟩
theorem e_X4_moveTo_6 : z_D 3 M_X4_moveTo 6 9 (.invokevirtual 52) := ⟨by decide +kernel, rfl⟩
theorem e_X4_moveTo_9 : z_J M_X4_moveTo 9 12 14 (5) (.ifCond .ne 5) := ⟨by decide +kernel, rfl, rfl⟩
theorem e_X4_moveTo_12 : z_D 1 M_X4_moveTo 12 13 (.iconst (-1)) := ⟨by decide +kernel, rfl⟩
theorem e_X4_moveTo_13 : z_D 1 M_X4_moveTo 13 14 (.ireturn) := ⟨by decide +kernel, rfl⟩
theorem e_X4_moveTo_14 : z_D 1 M_X4_moveTo 14 15 (.aload_n 0) := ⟨by decide +kernel, rfl⟩
theorem e_X4_moveTo_15 : z_D 3 M_X4_moveTo 15 18 (.invokevirtual 38) := ⟨by decide +kernel, rfl⟩
theorem e_X4_moveTo_18 : z_D 1 M_X4_moveTo 18 19 (.pop) := ⟨by decide +kernel, rfl⟩
theorem e_X4_moveTo_19 : z_D 1 M_X4_moveTo 19 20 (.aload_n 0) := ⟨by decide +kernel, rfl⟩
theorem e_X4_moveTo_20 : z_D 3 M_X4_moveTo 20 23 (.getfield 12) := ⟨by decide +kernel, rfl⟩
theorem e_X4_moveTo_23 : z_D 3 M_X4_moveTo 23 26 (.getfield 56) := ⟨by decide +kernel, rfl⟩
theorem e_X4_moveTo_26 : z_D 1 M_X4_moveTo 26 27 (.aload_n 0) := ⟨by decide +kernel, rfl⟩
theorem e_X4_moveTo_27 : z_D 3 M_X4_moveTo 27 30 (.getfield 12) := ⟨by decide +kernel, rfl⟩
theorem e_X4_moveTo_30 : z_D 3 M_X4_moveTo 30 33 (.getfield 59) := ⟨by decide +kernel, rfl⟩
theorem e_X4_moveTo_33 : z_D 3 M_X4_moveTo 33 36 (.getfield 63) := ⟨by decide +kernel, rfl⟩
theorem e_X4_moveTo_36 : z_D 1 M_X4_moveTo 36 37 (.imul) := ⟨by decide +kernel, rfl⟩
theorem e_X4_moveTo_37 : z_D 1 M_X4_moveTo 37 38 (.aload_n 0) := ⟨by decide +kernel, rfl⟩
theorem e_X4_moveTo_38 : z_D 3 M_X4_moveTo 38 41 (.getfield 12) := ⟨by decide +kernel, rfl⟩
theorem e_X4_moveTo_41 : z_D 3 M_X4_moveTo 41 44 (.getfield 59) := ⟨by decide +kernel, rfl⟩
theorem e_X4_moveTo_44 : z_D 3 M_X4_moveTo 44 47 (.getfield 68) := ⟨by decide +kernel, rfl⟩
theorem e_X4_moveTo_47 : z_D 1 M_X4_moveTo 47 48 (.iadd) := ⟨by decide +kernel, rfl⟩
theorem e_X4_moveTo_48 : z_D 1 M_X4_moveTo 48 49 (.istore_n 3) := ⟨by decide +kernel, rfl⟩
theorem e_X4_moveTo_49 : z_D 1 M_X4_moveTo 49 50 (.aload_n 0) := ⟨by decide +kernel, rfl⟩
theorem e_X4_moveTo_50 : z_D 3 M_X4_moveTo 50 53 (.getfield 12) := ⟨by decide +kernel, rfl⟩
theorem e_X4_moveTo_53 : z_D 3 M_X4_moveTo 53 56 (.getfield 59) := ⟨by decide +kernel, rfl⟩
theorem e_X4_moveTo_56 : z_D 1 M_X4_moveTo 56 57 (.iload_n 1) := ⟨by decide +kernel, rfl⟩
theorem e_X4_moveTo_57 : z_D 1 M_X4_moveTo 57 58 (.iload_n 2) := ⟨by decide +kernel, rfl⟩
theorem e_X4_moveTo_58 : z_D 3 M_X4_moveTo 58 61 (.invokevirtual 71) := ⟨by decide +kernel, rfl⟩
theorem e_X4_moveTo_61 : z_D 1 M_X4_moveTo 61 62 (.iload_n 3) := ⟨by decide +kernel, rfl⟩
theorem e_X4_moveTo_62 : z_D 1 M_X4_moveTo 62 63 (.ireturn) := ⟨by decide +kernel, rfl⟩
theorem e_X4_setRegion_0 : z_D 1 M_X4_setRegion 0 1 (.iload_n 1) := ⟨by decide +kernel, rfl⟩
theorem e_X4_setRegion_1 : z_J M_X4_setRegion 1 4 20 (19) (.ifCond .lt 19) := ⟨by decide +kernel, rfl, rfl⟩
theorem e_X4_setRegion_4 : z_D 1 M_X4_setRegion 4 5 (.iload_n 2) := ⟨by decide +kernel, rfl⟩
theorem e_X4_setRegion_5 : z_D 1 M_X4_setRegion 5 6 (.aload_n 0) := ⟨by decide +kernel, rfl⟩
theorem e_X4_setRegion_6 : z_D 3 M_X4_setRegion 6 9 (.getfield 12) := ⟨by decide +kernel, rfl⟩
theorem e_X4_setRegion_9 : z_D 3 M_X4_setRegion 9 12 (.getfield 75) := ⟨by decide +kernel, rfl⟩
theorem e_X4_setRegion_12 : z_J M_X4_setRegion 12 15 20 (8) (.if_icmp .ge 8) := ⟨by decide +kernel, rfl, rfl⟩
theorem e_X4_setRegion_15 : z_D 1 M_X4_setRegion 15 16 (.iload_n 1) := ⟨by decide +kernel, rfl⟩
theorem e_X4_setRegion_16 : z_D 1 M_X4_setRegion 16 17 (.iload_n 2) := ⟨by decide +kernel, rfl⟩
theorem e_X4_setRegion_17 : z_J M_X4_setRegion 17 20 22 (5) (.if_icmp .lt 5) := ⟨by decide +kernel, rfl, rfl⟩
theorem e_X4_setRegion_20 : z_D 1 M_X4_setRegion 20 21 (.iconst (-1)) := ⟨by decide +kernel, rfl⟩
theorem e_X4_setRegion_21 : z_D 1 M_X4_setRegion 21 22 (.ireturn) := ⟨by decide +kernel, rfl⟩
theorem e_X4_setRegion_22 : z_D 1 M_X4_setRegion 22 23 (.aload_n 0) := ⟨by decide +kernel, rfl⟩
theorem e_X4_setRegion_23 : z_D 3 M_X4_setRegion 23 26 (.invokevirtual 38) := ⟨by decide +kernel, rfl⟩
theorem e_X4_setRegion_26 : z_D 1 M_X4_setRegion 26 27 (.pop) := ⟨by decide +kernel, rfl⟩
theorem e_X4_setRegion_27 : z_D 1 M_X4_setRegion 27 28 (.aload_n 0) := ⟨by decide +kernel, rfl⟩
theorem e_X4_setRegion_28 : z_D 3 M_X4_setRegion 28 31 (.getfield 12) := ⟨by decide +kernel, rfl⟩
theorem e_X4_setRegion_31 : z_D 1 M_X4_setRegion 31 32 (.iload_n 1) := ⟨by decide +kernel, rfl⟩
theorem e_X4_setRegion_32 : z_D 3 M_X4_setRegion 32 35 (.putfield 78) := ⟨by decide +kernel, rfl⟩
theorem e_X4_setRegion_35 : z_D 1 M_X4_setRegion 35 36 (.aload_n 0) := ⟨by decide +kernel, rfl⟩
theorem e_X4_setRegion_36 : z_D 3 M_X4_setRegion 36 39 (.getfield 12) := ⟨by decide +kernel, rfl⟩
theorem e_X4_setRegion_39 : z_D 1 M_X4_setRegion 39 40 (.iload_n 2) := ⟨by decide +kernel, rfl⟩
theorem e_X4_setRegion_40 : z_D 3 M_X4_setRegion 40 43 (.putfield 81) := ⟨by decide +kernel, rfl⟩
theorem e_X4_setRegion_43 : z_D 1 M_X4_setRegion 43 44 (.aload_n 0) := ⟨by decide +kernel, rfl⟩
theorem e_X4_setRegion_44 : z_D 3 M_X4_setRegion 44 47 (.getfield 12) := ⟨by decide +kernel, rfl⟩
theorem e_X4_setRegion_47 : z_D 3 M_X4_setRegion 47 50 (.getfield 59) := ⟨by decide +kernel, rfl⟩
theorem e_X4_setRegion_50 : z_D 1 M_X4_setRegion 50 51 (.iconst 0) := ⟨by decide +kernel, rfl⟩
theorem e_X4_setRegion_51 : z_D 1 M_X4_setRegion 51 52 (.iconst 0) := ⟨by decide +kernel, rfl⟩
theorem e_X4_setRegion_52 : z_D 3 M_X4_setRegion 52 55 (.invokevirtual 71) := ⟨by decide +kernel, rfl⟩
theorem e_X4_setRegion_55 : z_D 1 M_X4_setRegion 55 56 (.iload_n 2) := ⟨by decide +kernel, rfl⟩
theorem e_X4_setRegion_56 : z_D 1 M_X4_setRegion 56 57 (.iload_n 1) := ⟨by decide +kernel, rfl⟩
theorem e_X4_setRegion_57 : z_D 1 M_X4_setRegion 57 58 (.isub) := ⟨by decide +kernel, rfl⟩
theorem e_X4_setRegion_58 : z_D 1 M_X4_setRegion 58 59 (.iconst 1) := ⟨by decide +kernel, rfl⟩
theorem e_X4_setRegion_59 : z_D 1 M_X4_setRegion 59 60 (.iadd) := ⟨by decide +kernel, rfl⟩
theorem e_X4_setRegion_60 : z_D 1 M_X4_setRegion 60 61 (.ireturn) := ⟨by decide +kernel, rfl⟩
theorem e_X4_eraseLine_0 : z_D 1 M_X4_eraseLine 0 1 (.iload_n 1) := ⟨by decide +kernel, rfl⟩
theorem e_X4_eraseLine_1 : z_J M_X4_eraseLine 1 4 9 (8) (.ifCond .lt 8) := ⟨by decide +kernel, rfl, rfl⟩
theorem e_X4_eraseLine_4 : z_D 1 M_X4_eraseLine 4 5 (.iload_n 1) := ⟨by decide +kernel, rfl⟩
theorem e_X4_eraseLine_5 : z_D 1 M_X4_eraseLine 5 6 (.iconst 2) := ⟨by decide +kernel, rfl⟩
theorem e_X4_eraseLine_6 : z_J M_X4_eraseLine 6 9 11 (5) (.if_icmp .le 5) := ⟨by decide +kernel, rfl, rfl⟩
theorem e_X4_eraseLine_9 : z_D 1 M_X4_eraseLine 9 10 (.iconst (-1)) := ⟨by decide +kernel, rfl⟩
theorem e_X4_eraseLine_10 : z_D 1 M_X4_eraseLine 10 11 (.ireturn) := ⟨by decide +kernel, rfl⟩
theorem e_X4_eraseLine_11 : z_D 1 M_X4_eraseLine 11 12 (.aload_n 0) := ⟨by decide +kernel, rfl⟩
theorem e_X4_eraseLine_12 : z_D 3 M_X4_eraseLine 12 15 (.invokevirtual 38) := ⟨by decide +kernel, rfl⟩
theorem e_X4_eraseLine_15 : z_D 1 M_X4_eraseLine 15 16 (.pop) := ⟨by decide +kernel, rfl⟩
theorem e_X4_eraseLine_16 : z_D 1 M_X4_eraseLine 16 17 (.aload_n 0) := ⟨by decide +kernel, rfl⟩
theorem e_X4_eraseLine_17 : z_D 3 M_X4_eraseLine 17 20 (.getfield 12) := ⟨by decide +kernel, rfl⟩
theorem e_X4_eraseLine_20 : z_D 3 M_X4_eraseLine 20 23 (.invokevirtual 84) := ⟨by decide +kernel, rfl⟩
theorem e_X4_eraseLine_23 : z_D 1 M_X4_eraseLine 23 24 (.istore_n 2) := ⟨by decide +kernel, rfl⟩
theorem e_X4_eraseLine_24 : z_D 1 M_X4_eraseLine 24 25 (.aload_n 0) := ⟨by decide +kernel, rfl⟩
theorem e_X4_eraseLine_25 : z_D 3 M_X4_eraseLine 25 28 (.getfield 12) := ⟨by decide +kernel, rfl⟩
theorem e_X4_eraseLine_28 : z_D 1 M_X4_eraseLine 28 29 (.iload_n 1) := ⟨by decide +kernel, rfl⟩
theorem e_X4_eraseLine_29 : z_D 3 M_X4_eraseLine 29 32 (.invokevirtual 88) := ⟨by decide +kernel, rfl⟩
theorem e_X4_eraseLine_32 : z_D 1 M_X4_eraseLine 32 33 (.aload_n 0) := ⟨by decide +kernel, rfl⟩
theorem e_X4_eraseLine_33 : z_D 3 M_X4_eraseLine 33 36 (.getfield 12) := ⟨by decide +kernel, rfl⟩
theorem e_X4_eraseLine_36 : z_D 3 M_X4_eraseLine 36 39 (.getfield 59) := ⟨by decide +kernel, rfl⟩
theorem e_X4_eraseLine_39 : z_D 1 M_X4_eraseLine 39 40 (.iconst 0) := ⟨by decide +kernel, rfl⟩
theorem e_X4_eraseLine_40 : z_D 3 M_X4_eraseLine 40 43 (.putfield 91) := ⟨by decide +kernel, rfl⟩
theorem e_X4_eraseLine_43 : z_D 1 M_X4_eraseLine 43 44 (.iload_n 2) := ⟨by decide +kernel, rfl⟩
theorem e_X4_eraseLine_44 : z_D 1 M_X4_eraseLine 44 45 (.aload_n 0) := ⟨by decide +kernel, rfl⟩
theorem e_X4_eraseLine_45 : z_D 3 M_X4_eraseLine 45 48 (.getfield 12) := ⟨by decide +kernel, rfl⟩
theorem e_X4_eraseLine_48 : z_D 3 M_X4_eraseLine 48 51 (.invokevirtual 84) := ⟨by decide +kernel, rfl⟩
theorem e_X4_eraseLine_51 : z_D 1 M_X4_eraseLine 51 52 (.isub) := ⟨by decide +kernel, rfl⟩
theorem e_X4_eraseLine_52 : z_D 1 M_X4_eraseLine 52 53 (.ireturn) := ⟨by decide +kernel, rfl⟩
theorem e_X4_eraseScreen_0 : z_D 1 M_X4_eraseScreen 0 1 (.iload_n 1) := ⟨by decide +kernel, rfl⟩
theorem e_X4_eraseScreen_1 : z_J M_X4_eraseScreen 1 4 9 (8) (.ifCond .lt 8) := ⟨by decide +kernel, rfl, rfl⟩
theorem e_X4_eraseScreen_4 : z_D 1 M_X4_eraseScreen 4 5 (.iload_n 1) := ⟨by decide +kernel, rfl⟩
theorem e_X4_eraseScreen_5 : z_D 1 M_X4_eraseScreen 5 6 (.iconst 2) := ⟨by decide +kernel, rfl⟩
theorem e_X4_eraseScreen_6 : z_J M_X4_eraseScreen 6 9 11 (5) (.if_icmp .le 5) := ⟨by decide +kernel, rfl, rfl⟩
theorem e_X4_eraseScreen_9 : z_D 1 M_X4_eraseScreen 9 10 (.iconst (-1)) := ⟨by decide +kernel, rfl⟩
theorem e_X4_eraseScreen_10 : z_D 1 M_X4_eraseScreen 10 11 (.ireturn) := ⟨by decide +kernel, rfl⟩
theorem e_X4_eraseScreen_11 : z_D 1 M_X4_eraseScreen 11 12 (.aload_n 0) := ⟨by decide +kernel, rfl⟩
theorem e_X4_eraseScreen_12 : z_D 3 M_X4_eraseScreen 12 15 (.invokevirtual 38) := ⟨by decide +kernel, rfl⟩
theorem e_X4_eraseScreen_15 : z_D 1 M_X4_eraseScreen 15 16 (.pop) := ⟨by decide +kernel, rfl⟩
theorem e_X4_eraseScreen_16 : z_D 1 M_X4_eraseScreen 16 17 (.aload_n 0) := ⟨by decide +kernel, rfl⟩
theorem e_X4_eraseScreen_17 : z_D 3 M_X4_eraseScreen 17 20 (.getfield 12) := ⟨by decide +kernel, rfl⟩
theorem e_X4_eraseScreen_20 : z_D 3 M_X4_eraseScreen 20 23 (.invokevirtual 84) := ⟨by decide +kernel, rfl⟩
theorem e_X4_eraseScreen_23 : z_D 1 M_X4_eraseScreen 23 24 (.istore_n 2) := ⟨by decide +kernel, rfl⟩
theorem e_X4_eraseScreen_24 : z_D 1 M_X4_eraseScreen 24 25 (.aload_n 0) := ⟨by decide +kernel, rfl⟩
theorem e_X4_eraseScreen_25 : z_D 3 M_X4_eraseScreen 25 28 (.getfield 12) := ⟨by decide +kernel, rfl⟩
theorem e_X4_eraseScreen_28 : z_D 1 M_X4_eraseScreen 28 29 (.iload_n 1) := ⟨by decide +kernel, rfl⟩
theorem e_X4_eraseScreen_29 : z_D 3 M_X4_eraseScreen 29 32 (.invokevirtual 88) := ⟨by decide +kernel, rfl⟩
theorem e_X4_eraseScreen_32 : z_D 1 M_X4_eraseScreen 32 33 (.iload_n 1) := ⟨by decide +kernel, rfl⟩
theorem e_X4_eraseScreen_33 : z_J M_X4_eraseScreen 33 36 56 (23) (.ifCond .eq 23) := ⟨by decide +kernel, rfl, rfl⟩
theorem e_X4_eraseScreen_36 : z_D 1 M_X4_eraseScreen 36 37 (.aload_n 0) := ⟨by decide +kernel, rfl⟩
theorem e_X4_eraseScreen_37 : z_D 3 M_X4_eraseScreen 37 40 (.getfield 12) := ⟨by decide +kernel, rfl⟩
theorem e_X4_eraseScreen_40 : z_D 1 M_X4_eraseScreen 40 41 (.iconst 0) := ⟨by decide +kernel, rfl⟩
theorem e_X4_eraseScreen_41 : z_D 1 M_X4_eraseScreen 41 42 (.aload_n 0) := ⟨by decide +kernel, rfl⟩
theorem e_X4_eraseScreen_42 : z_D 3 M_X4_eraseScreen 42 45 (.getfield 12) := ⟨by decide +kernel, rfl⟩
theorem e_X4_eraseScreen_45 : z_D 3 M_X4_eraseScreen 45 48 (.getfield 59) := ⟨by decide +kernel, rfl⟩
theorem e_X4_eraseScreen_48 : z_D 3 M_X4_eraseScreen 48 51 (.getfield 63) := ⟨by decide +kernel, rfl⟩
theorem e_X4_eraseScreen_51 : z_D 1 M_X4_eraseScreen 51 52 (.iconst 1) := ⟨by decide +kernel, rfl⟩
theorem e_X4_eraseScreen_52 : z_D 1 M_X4_eraseScreen 52 53 (.isub) := ⟨by decide +kernel, rfl⟩
theorem e_X4_eraseScreen_53 : z_D 3 M_X4_eraseScreen 53 56 (.invokevirtual 95) := ⟨by decide +kernel, rfl⟩
theorem e_X4_eraseScreen_56 : z_D 1 M_X4_eraseScreen 56 57 (.iload_n 1) := ⟨by decide +kernel, rfl⟩
theorem e_X4_eraseScreen_57 : z_D 1 M_X4_eraseScreen 57 58 (.iconst 1) := ⟨by decide +kernel, rfl⟩
theorem e_X4_eraseScreen_58 : z_J M_X4_eraseScreen 58 61 89 (31) (.if_icmp .eq 31) := ⟨by decide +kernel, rfl, rfl⟩
theorem e_X4_eraseScreen_61 : z_D 1 M_X4_eraseScreen 61 62 (.aload_n 0) := ⟨by decide +kernel, rfl⟩
theorem e_X4_eraseScreen_62 : z_D 3 M_X4_eraseScreen 62 65 (.getfield 12) := ⟨by decide +kernel, rfl⟩
theorem e_X4_eraseScreen_65 : z_D 1 M_X4_eraseScreen 65 66 (.aload_n 0) := ⟨by decide +kernel, rfl⟩
theorem e_X4_eraseScreen_66 : z_D 3 M_X4_eraseScreen 66 69 (.getfield 12) := ⟨by decide +kernel, rfl⟩
theorem e_X4_eraseScreen_69 : z_D 3 M_X4_eraseScreen 69 72 (.getfield 59) := ⟨by decide +kernel, rfl⟩
theorem e_X4_eraseScreen_72 : z_D 3 M_X4_eraseScreen 72 75 (.getfield 63) := ⟨by decide +kernel, rfl⟩
theorem e_X4_eraseScreen_75 : z_D 1 M_X4_eraseScreen 75 76 (.iconst 1) := ⟨by decide +kernel, rfl⟩
theorem e_X4_eraseScreen_76 : z_D 1 M_X4_eraseScreen 76 77 (.iadd) := ⟨by decide +kernel, rfl⟩
theorem e_X4_eraseScreen_77 : z_D 1 M_X4_eraseScreen 77 78 (.aload_n 0) := ⟨by decide +kernel, rfl⟩
theorem e_X4_eraseScreen_78 : z_D 3 M_X4_eraseScreen 78 81 (.getfield 12) := ⟨by decide +kernel, rfl⟩
theorem e_X4_eraseScreen_81 : z_D 3 M_X4_eraseScreen 81 84 (.getfield 75) := ⟨by decide +kernel, rfl⟩
theorem e_X4_eraseScreen_84 : z_D 1 M_X4_eraseScreen 84 85 (.iconst 1) := ⟨by decide +kernel, rfl⟩
theorem e_X4_eraseScreen_85 : z_D 1 M_X4_eraseScreen 85 86 (.isub) := ⟨by decide +kernel, rfl⟩
theorem e_X4_eraseScreen_86 : z_D 3 M_X4_eraseScreen 86 89 (.invokevirtual 95) := ⟨by decide +kernel, rfl⟩
theorem e_X4_eraseScreen_89 : z_D 1 M_X4_eraseScreen 89 90 (.aload_n 0) := ⟨by decide +kernel, rfl⟩
theorem e_X4_eraseScreen_90 : z_D 3 M_X4_eraseScreen 90 93 (.getfield 12) := ⟨by decide +kernel, rfl⟩
theorem e_X4_eraseScreen_93 : z_D 3 M_X4_eraseScreen 93 96 (.getfield 59) := ⟨by decide +kernel, rfl⟩
theorem e_X4_eraseScreen_96 : z_D 1 M_X4_eraseScreen 96 97 (.iconst 0) := ⟨by decide +kernel, rfl⟩
theorem e_X4_eraseScreen_97 : z_D 3 M_X4_eraseScreen 97 100 (.putfield 91) := ⟨by decide +kernel, rfl⟩
theorem e_X4_eraseScreen_100 : z_D 1 M_X4_eraseScreen 100 101 (.iload_n 2) := ⟨by decide +kernel, rfl⟩
theorem e_X4_eraseScreen_101 : z_D 1 M_X4_eraseScreen 101 102 (.aload_n 0) := ⟨by decide +kernel, rfl⟩
theorem e_X4_eraseScreen_102 : z_D 3 M_X4_eraseScreen 102 105 (.getfield 12) := ⟨by decide +kernel, rfl⟩
theorem e_X4_eraseScreen_105 : z_D 3 M_X4_eraseScreen 105 108 (.invokevirtual 84) := ⟨by decide +kernel, rfl⟩
theorem e_X4_eraseScreen_108 : z_D 1 M_X4_eraseScreen 108 109 (.isub) := ⟨by decide +kernel, rfl⟩
theorem e_X4_eraseScreen_109 : z_D 1 M_X4_eraseScreen 109 110 (.ireturn) := ⟨by decide +kernel, rfl⟩
theorem e_X4_insertRows_0 : z_D 1 M_X4_insertRows 0 1 (.iload_n 1) := ⟨by decide +kernel, rfl⟩
theorem e_X4_insertRows_1 : z_D 1 M_X4_insertRows 1 2 (.iconst 1) := ⟨by decide +kernel, rfl⟩
theorem e_X4_insertRows_2 : z_J M_X4_insertRows 2 5 11 (9) (.if_icmp .lt 9) := ⟨by decide +kernel, rfl, rfl⟩
theorem e_X4_insertRows_5 : z_D 1 M_X4_insertRows 5 6 (.iload_n 1) := ⟨by decide +kernel, rfl⟩
theorem e_X4_insertRows_6 : z_D 2 M_X4_insertRows 6 8 (.bipush 8) := ⟨by decide +kernel, rfl⟩
theorem e_X4_insertRows_8 : z_J M_X4_insertRows 8 11 13 (5) (.if_icmp .le 5) := ⟨by decide +kernel, rfl, rfl⟩
theorem e_X4_insertRows_11 : z_D 1 M_X4_insertRows 11 12 (.iconst (-1)) := ⟨by decide +kernel, rfl⟩
theorem e_X4_insertRows_12 : z_D 1 M_X4_insertRows 12 13 (.ireturn) := ⟨by decide +kernel, rfl⟩
theorem e_X4_insertRows_13 : z_D 1 M_X4_insertRows 13 14 (.aload_n 0) := ⟨by decide +kernel, rfl⟩
theorem e_X4_insertRows_14 : z_D 3 M_X4_insertRows 14 17 (.getfield 12) := ⟨by decide +kernel, rfl⟩
theorem e_X4_insertRows_17 : z_D 3 M_X4_insertRows 17 20 (.invokevirtual 98) := ⟨by decide +kernel, rfl⟩
theorem e_X4_insertRows_20 : z_J M_X4_insertRows 20 23 26 (6) (.ifCond .ne 6) := ⟨by decide +kernel, rfl, rfl⟩
theorem e_X4_insertRows_23 : z_D 2 M_X4_insertRows 23 25 (.bipush (-2)) := ⟨by decide +kernel, rfl⟩
theorem e_X4_insertRows_25 : z_D 1 M_X4_insertRows 25 26 (.ireturn) := ⟨by decide +kernel, rfl⟩
theorem e_X4_insertRows_26 : z_D 1 M_X4_insertRows 26 27 (.aload_n 0) := ⟨by decide +kernel, rfl⟩
theorem e_X4_insertRows_27 : z_D 3 M_X4_insertRows 27 30 (.invokevirtual 38) := ⟨by decide +kernel, rfl⟩
theorem e_X4_insertRows_30 : z_D 1 M_X4_insertRows 30 31 (.pop) := ⟨by decide +kernel, rfl⟩
theorem e_X4_insertRows_31 : z_D 1 M_X4_insertRows 31 32 (.aload_n 0) := ⟨by decide +kernel, rfl⟩
theorem e_X4_insertRows_32 : z_D 3 M_X4_insertRows 32 35 (.getfield 12) := ⟨by decide +kernel, rfl⟩
theorem e_X4_insertRows_35 : z_D 3 M_X4_insertRows 35 38 (.getfield 59) := ⟨by decide +kernel, rfl⟩
theorem e_X4_insertRows_38 : z_D 1 M_X4_insertRows 38 39 (.iconst 0) := ⟨by decide +kernel, rfl⟩
theorem e_X4_insertRows_39 : z_D 3 M_X4_insertRows 39 42 (.putfield 91) := ⟨by decide +kernel, rfl⟩
theorem e_X4_insertRows_42 : z_D 1 M_X4_insertRows 42 43 (.aload_n 0) := ⟨by decide +kernel, rfl⟩
theorem e_X4_insertRows_43 : z_D 3 M_X4_insertRows 43 46 (.getfield 12) := ⟨by decide +kernel, rfl⟩
theorem e_X4_insertRows_46 : z_D 1 M_X4_insertRows 46 47 (.iload_n 1) := ⟨by decide +kernel, rfl⟩
theorem e_X4_insertRows_47 : z_D 3 M_X4_insertRows 47 50 (.invokevirtual 102) := ⟨by decide +kernel, rfl⟩
theorem e_X4_insertRows_50 : z_D 1 M_X4_insertRows 50 51 (.ireturn) := ⟨by decide +kernel, rfl⟩
theorem e_X4_deleteRows_0 : z_D 1 M_X4_deleteRows 0 1 (.iload_n 1) := ⟨by decide +kernel, rfl⟩
theorem e_X4_deleteRows_1 : z_D 1 M_X4_deleteRows 1 2 (.iconst 1) := ⟨by decide +kernel, rfl⟩
theorem e_X4_deleteRows_2 : z_J M_X4_deleteRows 2 5 11 (9) (.if_icmp .lt 9) := ⟨by decide +kernel, rfl, rfl⟩
theorem e_X4_deleteRows_5 : z_D 1 M_X4_deleteRows 5 6 (.iload_n 1) := ⟨by decide +kernel, rfl⟩
theorem e_X4_deleteRows_6 : z_D 2 M_X4_deleteRows 6 8 (.bipush 8) := ⟨by decide +kernel, rfl⟩
theorem e_X4_deleteRows_8 : z_J M_X4_deleteRows 8 11 13 (5) (.if_icmp .le 5) := ⟨by decide +kernel, rfl, rfl⟩
theorem e_X4_deleteRows_11 : z_D 1 M_X4_deleteRows 11 12 (.iconst (-1)) := ⟨by decide +kernel, rfl⟩
theorem e_X4_deleteRows_12 : z_D 1 M_X4_deleteRows 12 13 (.ireturn) := ⟨by decide +kernel, rfl⟩
theorem e_X4_deleteRows_13 : z_D 1 M_X4_deleteRows 13 14 (.aload_n 0) := ⟨by decide +kernel, rfl⟩
theorem e_X4_deleteRows_14 : z_D 3 M_X4_deleteRows 14 17 (.getfield 12) := ⟨by decide +kernel, rfl⟩
theorem e_X4_deleteRows_17 : z_D 3 M_X4_deleteRows 17 20 (.invokevirtual 98) := ⟨by decide +kernel, rfl⟩
theorem e_X4_deleteRows_20 : z_J M_X4_deleteRows 20 23 26 (6) (.ifCond .ne 6) := ⟨by decide +kernel, rfl, rfl⟩
theorem e_X4_deleteRows_23 : z_D 2 M_X4_deleteRows 23 25 (.bipush (-2)) := ⟨by decide +kernel, rfl⟩
theorem e_X4_deleteRows_25 : z_D 1 M_X4_deleteRows 25 26 (.ireturn) := ⟨by decide +kernel, rfl⟩
theorem e_X4_deleteRows_26 : z_D 1 M_X4_deleteRows 26 27 (.aload_n 0) := ⟨by decide +kernel, rfl⟩
theorem e_X4_deleteRows_27 : z_D 3 M_X4_deleteRows 27 30 (.invokevirtual 38) := ⟨by decide +kernel, rfl⟩
theorem e_X4_deleteRows_30 : z_D 1 M_X4_deleteRows 30 31 (.pop) := ⟨by decide +kernel, rfl⟩
theorem e_X4_deleteRows_31 : z_D 1 M_X4_deleteRows 31 32 (.aload_n 0) := ⟨by decide +kernel, rfl⟩
theorem e_X4_deleteRows_32 : z_D 3 M_X4_deleteRows 32 35 (.getfield 12) := ⟨by decide +kernel, rfl⟩
theorem e_X4_deleteRows_35 : z_D 3 M_X4_deleteRows 35 38 (.getfield 59) := ⟨by decide +kernel, rfl⟩
theorem e_X4_deleteRows_38 : z_D 1 M_X4_deleteRows 38 39 (.iconst 0) := ⟨by decide +kernel, rfl⟩
theorem e_X4_deleteRows_39 : z_D 3 M_X4_deleteRows 39 42 (.putfield 91) := ⟨by decide +kernel, rfl⟩
theorem e_X4_deleteRows_42 : z_D 1 M_X4_deleteRows 42 43 (.aload_n 0) := ⟨by decide +kernel, rfl⟩
theorem e_X4_deleteRows_43 : z_D 3 M_X4_deleteRows 43 46 (.getfield 12) := ⟨by decide +kernel, rfl⟩
theorem e_X4_deleteRows_46 : z_D 1 M_X4_deleteRows 46 47 (.iload_n 1) := ⟨by decide +kernel, rfl⟩
theorem e_X4_deleteRows_47 : z_D 3 M_X4_deleteRows 47 50 (.invokevirtual 106) := ⟨by decide +kernel, rfl⟩
theorem e_X4_deleteRows_50 : z_D 1 M_X4_deleteRows 50 51 (.ireturn) := ⟨by decide +kernel, rfl⟩
theorem e_X4_insertCells_0 : z_D 1 M_X4_insertCells 0 1 (.iload_n 1) := ⟨by decide +kernel, rfl⟩
theorem e_X4_insertCells_1 : z_D 1 M_X4_insertCells 1 2 (.iconst 1) := ⟨by decide +kernel, rfl⟩
theorem e_X4_insertCells_2 : z_J M_X4_insertCells 2 5 11 (9) (.if_icmp .lt 9) := ⟨by decide +kernel, rfl, rfl⟩
theorem e_X4_insertCells_5 : z_D 1 M_X4_insertCells 5 6 (.iload_n 1) := ⟨by decide +kernel, rfl⟩
theorem e_X4_insertCells_6 : z_D 2 M_X4_insertCells 6 8 (.bipush 20) := ⟨by decide +kernel, rfl⟩
theorem e_X4_insertCells_8 : z_J M_X4_insertCells 8 11 13 (5) (.if_icmp .le 5) := ⟨by decide +kernel, rfl, rfl⟩
theorem e_X4_insertCells_11 : z_D 1 M_X4_insertCells 11 12 (.iconst (-1)) := ⟨by decide +kernel, rfl⟩
theorem e_X4_insertCells_12 : z_D 1 M_X4_insertCells 12 13 (.ireturn) := ⟨by decide +kernel, rfl⟩
theorem e_X4_insertCells_13 : z_D 1 M_X4_insertCells 13 14 (.aload_n 0) := ⟨by decide +kernel, rfl⟩
theorem e_X4_insertCells_14 : z_D 3 M_X4_insertCells 14 17 (.invokevirtual 38) := ⟨by decide +kernel, rfl⟩
theorem e_X4_insertCells_17 : z_D 1 M_X4_insertCells 17 18 (.pop) := ⟨by decide +kernel, rfl⟩
theorem e_X4_insertCells_18 : z_D 1 M_X4_insertCells 18 19 (.aload_n 0) := ⟨by decide +kernel, rfl⟩
theorem e_X4_insertCells_19 : z_D 3 M_X4_insertCells 19 22 (.getfield 12) := ⟨by decide +kernel, rfl⟩
theorem e_X4_insertCells_22 : z_D 1 M_X4_insertCells 22 23 (.aload_n 0) := ⟨by decide +kernel, rfl⟩
theorem e_X4_insertCells_23 : z_D 3 M_X4_insertCells 23 26 (.getfield 12) := ⟨by decide +kernel, rfl⟩
theorem e_X4_insertCells_26 : z_D 3 M_X4_insertCells 26 29 (.getfield 59) := ⟨by decide +kernel, rfl⟩
theorem e_X4_insertCells_29 : z_D 3 M_X4_insertCells 29 32 (.getfield 63) := ⟨by decide +kernel, rfl⟩
theorem e_X4_insertCells_32 : z_D 3 M_X4_insertCells 32 35 (.invokevirtual 109) := ⟨by decide +kernel, rfl⟩
theorem e_X4_insertCells_35 : z_D 1 M_X4_insertCells 35 36 (.astore_n 2) := ⟨by decide +kernel, rfl⟩
theorem e_X4_insertCells_36 : z_D 1 M_X4_insertCells 36 37 (.aload_n 2) := ⟨by decide +kernel, rfl⟩
theorem e_X4_insertCells_37 : z_D 3 M_X4_insertCells 37 40 (.invokevirtual 113) := ⟨by decide +kernel, rfl⟩
theorem e_X4_insertCells_40 : z_D 1 M_X4_insertCells 40 41 (.istore_n 3) := ⟨by decide +kernel, rfl⟩
theorem e_X4_insertCells_41 : z_D 1 M_X4_insertCells 41 42 (.aload_n 2) := ⟨by decide +kernel, rfl⟩
theorem e_X4_insertCells_42 : z_D 1 M_X4_insertCells 42 43 (.aload_n 0) := ⟨by decide +kernel, rfl⟩
theorem e_X4_insertCells_43 : z_D 3 M_X4_insertCells 43 46 (.getfield 12) := ⟨by decide +kernel, rfl⟩
theorem e_X4_insertCells_46 : z_D 3 M_X4_insertCells 46 49 (.getfield 59) := ⟨by decide +kernel, rfl⟩
theorem e_X4_insertCells_49 : z_D 3 M_X4_insertCells 49 52 (.getfield 68) := ⟨by decide +kernel, rfl⟩
theorem e_X4_insertCells_52 : z_D 1 M_X4_insertCells 52 53 (.iload_n 1) := ⟨by decide +kernel, rfl⟩
theorem e_X4_insertCells_53 : z_D 1 M_X4_insertCells 53 54 (.aload_n 0) := ⟨by decide +kernel, rfl⟩
theorem e_X4_insertCells_54 : z_D 3 M_X4_insertCells 54 57 (.getfield 12) := ⟨by decide +kernel, rfl⟩
theorem e_X4_insertCells_57 : z_D 3 M_X4_insertCells 57 60 (.getfield 56) := ⟨by decide +kernel, rfl⟩
theorem e_X4_insertCells_60 : z_D 1 M_X4_insertCells 60 61 (.aload_n 0) := ⟨by decide +kernel, rfl⟩
theorem e_X4_insertCells_61 : z_D 3 M_X4_insertCells 61 64 (.getfield 12) := ⟨by decide +kernel, rfl⟩
theorem e_X4_insertCells_64 : z_D 3 M_X4_insertCells 64 67 (.getfield 59) := ⟨by decide +kernel, rfl⟩
theorem e_X4_insertCells_67 : z_D 3 M_X4_insertCells 67 70 (.getfield 68) := ⟨by decide +kernel, rfl⟩
theorem e_X4_insertCells_70 : z_D 1 M_X4_insertCells 70 71 (.isub) := ⟨by decide +kernel, rfl⟩
theorem e_X4_insertCells_71 : z_D 3 M_X4_insertCells 71 74 (.invokestatic 116) := ⟨by decide +kernel, rfl⟩
theorem e_X4_insertCells_74 : z_D 1 M_X4_insertCells 74 75 (.aload_n 0) := ⟨by decide +kernel, rfl⟩
theorem e_X4_insertCells_75 : z_D 3 M_X4_insertCells 75 78 (.getfield 12) := ⟨by decide +kernel, rfl⟩
theorem e_X4_insertCells_78 : z_D 3 M_X4_insertCells 78 81 (.getfield 56) := ⟨by decide +kernel, rfl⟩
theorem e_X4_insertCells_81 : z_D 3 M_X4_insertCells 81 84 (.invokevirtual 122) := ⟨by decide +kernel, rfl⟩
theorem e_X4_insertCells_84 : z_D 1 M_X4_insertCells 84 85 (.aload_n 0) := ⟨by decide +kernel, rfl⟩
theorem e_X4_insertCells_85 : z_D 3 M_X4_insertCells 85 88 (.getfield 12) := ⟨by decide +kernel, rfl⟩
theorem e_X4_insertCells_88 : z_D 3 M_X4_insertCells 88 91 (.getfield 59) := ⟨by decide +kernel, rfl⟩
theorem e_X4_insertCells_91 : z_D 1 M_X4_insertCells 91 92 (.iconst 0) := ⟨by decide +kernel, rfl⟩
theorem e_X4_insertCells_92 : z_D 3 M_X4_insertCells 92 95 (.putfield 91) := ⟨by decide +kernel, rfl⟩
theorem e_X4_insertCells_95 : z_D 1 M_X4_insertCells 95 96 (.iload_n 3) := ⟨by decide +kernel, rfl⟩
theorem e_X4_insertCells_96 : z_D 1 M_X4_insertCells 96 97 (.aload_n 2) := ⟨by decide +kernel, rfl⟩
theorem e_X4_insertCells_97 : z_D 3 M_X4_insertCells 97 100 (.invokevirtual 113) := ⟨by decide +kernel, rfl⟩
theorem e_X4_insertCells_100 : z_D 1 M_X4_insertCells 100 101 (.isub) := ⟨by decide +kernel, rfl⟩
theorem e_X4_insertCells_101 : z_D 1 M_X4_insertCells 101 102 (.ireturn) := ⟨by decide +kernel, rfl⟩
theorem e_X4_deleteCells_0 : z_D 1 M_X4_deleteCells 0 1 (.iload_n 1) := ⟨by decide +kernel, rfl⟩
theorem e_X4_deleteCells_1 : z_D 1 M_X4_deleteCells 1 2 (.iconst 1) := ⟨by decide +kernel, rfl⟩
theorem e_X4_deleteCells_2 : z_J M_X4_deleteCells 2 5 11 (9) (.if_icmp .lt 9) := ⟨by decide +kernel, rfl, rfl⟩
theorem e_X4_deleteCells_5 : z_D 1 M_X4_deleteCells 5 6 (.iload_n 1) := ⟨by decide +kernel, rfl⟩
theorem e_X4_deleteCells_6 : z_D 2 M_X4_deleteCells 6 8 (.bipush 20) := ⟨by decide +kernel, rfl⟩
theorem e_X4_deleteCells_8 : z_J M_X4_deleteCells 8 11 13 (5) (.if_icmp .le 5) := ⟨by decide +kernel, rfl, rfl⟩
theorem e_X4_deleteCells_11 : z_D 1 M_X4_deleteCells 11 12 (.iconst (-1)) := ⟨by decide +kernel, rfl⟩
theorem e_X4_deleteCells_12 : z_D 1 M_X4_deleteCells 12 13 (.ireturn) := ⟨by decide +kernel, rfl⟩
theorem e_X4_deleteCells_13 : z_D 1 M_X4_deleteCells 13 14 (.aload_n 0) := ⟨by decide +kernel, rfl⟩
theorem e_X4_deleteCells_14 : z_D 3 M_X4_deleteCells 14 17 (.invokevirtual 38) := ⟨by decide +kernel, rfl⟩
theorem e_X4_deleteCells_17 : z_D 1 M_X4_deleteCells 17 18 (.pop) := ⟨by decide +kernel, rfl⟩
theorem e_X4_deleteCells_18 : z_D 1 M_X4_deleteCells 18 19 (.aload_n 0) := ⟨by decide +kernel, rfl⟩
theorem e_X4_deleteCells_19 : z_D 3 M_X4_deleteCells 19 22 (.getfield 12) := ⟨by decide +kernel, rfl⟩
theorem e_X4_deleteCells_22 : z_D 1 M_X4_deleteCells 22 23 (.aload_n 0) := ⟨by decide +kernel, rfl⟩
theorem e_X4_deleteCells_23 : z_D 3 M_X4_deleteCells 23 26 (.getfield 12) := ⟨by decide +kernel, rfl⟩
theorem e_X4_deleteCells_26 : z_D 3 M_X4_deleteCells 26 29 (.getfield 59) := ⟨by decide +kernel, rfl⟩
theorem e_X4_deleteCells_29 : z_D 3 M_X4_deleteCells 29 32 (.getfield 63) := ⟨by decide +kernel, rfl⟩
theorem e_X4_deleteCells_32 : z_D 3 M_X4_deleteCells 32 35 (.invokevirtual 109) := ⟨by decide +kernel, rfl⟩
theorem e_X4_deleteCells_35 : z_D 1 M_X4_deleteCells 35 36 (.astore_n 2) := ⟨by decide +kernel, rfl⟩
theorem e_X4_deleteCells_36 : z_D 1 M_X4_deleteCells 36 37 (.aload_n 2) := ⟨by decide +kernel, rfl⟩
theorem e_X4_deleteCells_37 : z_D 3 M_X4_deleteCells 37 40 (.invokevirtual 113) := ⟨by decide +kernel, rfl⟩
theorem e_X4_deleteCells_40 : z_D 1 M_X4_deleteCells 40 41 (.istore_n 3) := ⟨by decide +kernel, rfl⟩
theorem e_X4_deleteCells_41 : z_D 1 M_X4_deleteCells 41 42 (.aload_n 2) := ⟨by decide +kernel, rfl⟩
theorem e_X4_deleteCells_42 : z_D 1 M_X4_deleteCells 42 43 (.aload_n 0) := ⟨by decide +kernel, rfl⟩
theorem e_X4_deleteCells_43 : z_D 3 M_X4_deleteCells 43 46 (.getfield 12) := ⟨by decide +kernel, rfl⟩
theorem e_X4_deleteCells_46 : z_D 3 M_X4_deleteCells 46 49 (.getfield 59) := ⟨by decide +kernel, rfl⟩
theorem e_X4_deleteCells_49 : z_D 3 M_X4_deleteCells 49 52 (.getfield 68) := ⟨by decide +kernel, rfl⟩
theorem e_X4_deleteCells_52 : z_D 1 M_X4_deleteCells 52 53 (.iload_n 1) := ⟨by decide +kernel, rfl⟩
theorem e_X4_deleteCells_53 : z_D 1 M_X4_deleteCells 53 54 (.aload_n 0) := ⟨by decide +kernel, rfl⟩
theorem e_X4_deleteCells_54 : z_D 3 M_X4_deleteCells 54 57 (.getfield 12) := ⟨by decide +kernel, rfl⟩
theorem e_X4_deleteCells_57 : z_D 3 M_X4_deleteCells 57 60 (.getfield 56) := ⟨by decide +kernel, rfl⟩
theorem e_X4_deleteCells_60 : z_D 1 M_X4_deleteCells 60 61 (.aload_n 0) := ⟨by decide +kernel, rfl⟩
theorem e_X4_deleteCells_61 : z_D 3 M_X4_deleteCells 61 64 (.getfield 12) := ⟨by decide +kernel, rfl⟩
theorem e_X4_deleteCells_64 : z_D 3 M_X4_deleteCells 64 67 (.getfield 59) := ⟨by decide +kernel, rfl⟩
theorem e_X4_deleteCells_67 : z_D 3 M_X4_deleteCells 67 70 (.getfield 68) := ⟨by decide +kernel, rfl⟩
theorem e_X4_deleteCells_70 : z_D 1 M_X4_deleteCells 70 71 (.isub) := ⟨by decide +kernel, rfl⟩
theorem e_X4_deleteCells_71 : z_D 3 M_X4_deleteCells 71 74 (.invokestatic 116) := ⟨by decide +kernel, rfl⟩
theorem e_X4_deleteCells_74 : z_D 1 M_X4_deleteCells 74 75 (.aload_n 0) := ⟨by decide +kernel, rfl⟩
theorem e_X4_deleteCells_75 : z_D 3 M_X4_deleteCells 75 78 (.getfield 12) := ⟨by decide +kernel, rfl⟩
theorem e_X4_deleteCells_78 : z_D 3 M_X4_deleteCells 78 81 (.getfield 56) := ⟨by decide +kernel, rfl⟩
theorem e_X4_deleteCells_81 : z_D 3 M_X4_deleteCells 81 84 (.invokevirtual 126) := ⟨by decide +kernel, rfl⟩
theorem e_X4_deleteCells_84 : z_D 1 M_X4_deleteCells 84 85 (.aload_n 0) := ⟨by decide +kernel, rfl⟩
theorem e_X4_deleteCells_85 : z_D 3 M_X4_deleteCells 85 88 (.getfield 12) := ⟨by decide +kernel, rfl⟩
theorem e_X4_deleteCells_88 : z_D 3 M_X4_deleteCells 88 91 (.getfield 59) := ⟨by decide +kernel, rfl⟩
theorem e_X4_deleteCells_91 : z_D 1 M_X4_deleteCells 91 92 (.iconst 0) := ⟨by decide +kernel, rfl⟩
theorem e_X4_deleteCells_92 : z_D 3 M_X4_deleteCells 92 95 (.putfield 91) := ⟨by decide +kernel, rfl⟩
theorem e_X4_deleteCells_95 : z_D 1 M_X4_deleteCells 95 96 (.iload_n 3) := ⟨by decide +kernel, rfl⟩
theorem e_X4_deleteCells_96 : z_D 1 M_X4_deleteCells 96 97 (.aload_n 2) := ⟨by decide +kernel, rfl⟩
theorem e_X4_deleteCells_97 : z_D 3 M_X4_deleteCells 97 100 (.invokevirtual 113) := ⟨by decide +kernel, rfl⟩
theorem e_X4_deleteCells_100 : z_D 1 M_X4_deleteCells 100 101 (.isub) := ⟨by decide +kernel, rfl⟩
theorem e_X4_deleteCells_101 : z_D 1 M_X4_deleteCells 101 102 (.ireturn) := ⟨by decide +kernel, rfl⟩
theorem e_X4_keep_0 : z_D 1 M_X4_keep 0 1 (.aload_n 0) := ⟨by decide +kernel, rfl⟩
theorem e_X4_keep_1 : z_D 3 M_X4_keep 1 4 (.getfield 12) := ⟨by decide +kernel, rfl⟩
theorem e_X4_keep_4 : z_D 3 M_X4_keep 4 7 (.getfield 129) := ⟨by decide +kernel, rfl⟩
theorem e_X4_keep_7 : z_D 1 M_X4_keep 7 8 (.iconst 3) := ⟨by decide +kernel, rfl⟩
theorem e_X4_keep_8 : z_J M_X4_keep 8 11 14 (6) (.if_icmp .lt 6) := ⟨by decide +kernel, rfl, rfl⟩
theorem e_X4_keep_11 : z_D 2 M_X4_keep 11 13 (.bipush (-3)) := ⟨by decide +kernel, rfl⟩
theorem e_X4_keep_13 : z_D 1 M_X4_keep 13 14 (.ireturn) := ⟨by decide +kernel, rfl⟩
theorem e_X4_keep_14 : z_D 1 M_X4_keep 14 15 (.aload_n 0) := ⟨by decide +kernel, rfl⟩
theorem e_X4_keep_15 : z_D 3 M_X4_keep 15 18 (.invokevirtual 38) := ⟨by decide +kernel, rfl⟩
theorem e_X4_keep_18 : z_D 1 M_X4_keep 18 19 (.pop) := ⟨by decide +kernel, rfl⟩
theorem e_X4_keep_19 : z_D 1 M_X4_keep 19 20 (.aload_n 0) := ⟨by decide +kernel, rfl⟩
theorem e_X4_keep_20 : z_D 3 M_X4_keep 20 23 (.getfield 12) := ⟨by decide +kernel, rfl⟩
theorem e_X4_keep_23 : z_D 3 M_X4_keep 23 26 (.invokevirtual 132) := ⟨by decide +kernel, rfl⟩
theorem e_X4_keep_26 : z_D 1 M_X4_keep 26 27 (.aload_n 0) := ⟨by decide +kernel, rfl⟩
theorem e_X4_keep_27 : z_D 3 M_X4_keep 27 30 (.getfield 12) := ⟨by decide +kernel, rfl⟩
theorem e_X4_keep_30 : z_D 3 M_X4_keep 30 33 (.getfield 129) := ⟨by decide +kernel, rfl⟩
theorem e_X4_keep_33 : z_D 1 M_X4_keep 33 34 (.ireturn) := ⟨by decide +kernel, rfl⟩
theorem e_X4_back_0 : z_D 1 M_X4_back 0 1 (.aload_n 0) := ⟨by decide +kernel, rfl⟩
theorem e_X4_back_1 : z_D 3 M_X4_back 1 4 (.getfield 12) := ⟨by decide +kernel, rfl⟩
theorem e_X4_back_4 : z_D 3 M_X4_back 4 7 (.getfield 129) := ⟨by decide +kernel, rfl⟩
theorem e_X4_back_7 : z_J M_X4_back 7 10 13 (6) (.ifCond .ne 6) := ⟨by decide +kernel, rfl, rfl⟩
theorem e_X4_back_10 : z_D 2 M_X4_back 10 12 (.bipush (-2)) := ⟨by decide +kernel, rfl⟩
theorem e_X4_back_12 : z_D 1 M_X4_back 12 13 (.ireturn) := ⟨by decide +kernel, rfl⟩
theorem e_X4_back_13 : z_D 1 M_X4_back 13 14 (.aload_n 0) := ⟨by decide +kernel, rfl⟩
theorem e_X4_back_14 : z_D 3 M_X4_back 14 17 (.invokevirtual 38) := ⟨by decide +kernel, rfl⟩
theorem e_X4_back_17 : z_D 1 M_X4_back 17 18 (.pop) := ⟨by decide +kernel, rfl⟩
theorem e_X4_back_18 : z_D 1 M_X4_back 18 19 (.aload_n 0) := ⟨by decide +kernel, rfl⟩
theorem e_X4_back_19 : z_D 3 M_X4_back 19 22 (.getfield 12) := ⟨by decide +kernel, rfl⟩
theorem e_X4_back_22 : z_D 3 M_X4_back 22 25 (.invokevirtual 135) := ⟨by decide +kernel, rfl⟩
theorem e_X4_back_25 : z_D 1 M_X4_back 25 26 (.aload_n 0) := ⟨by decide +kernel, rfl⟩
theorem e_X4_back_26 : z_D 3 M_X4_back 26 29 (.getfield 12) := ⟨by decide +kernel, rfl⟩
theorem e_X4_back_29 : z_D 3 M_X4_back 29 32 (.getfield 129) := ⟨by decide +kernel, rfl⟩
theorem e_X4_back_32 : z_D 1 M_X4_back 32 33 (.ireturn) := ⟨by decide +kernel, rfl⟩
theorem e_X4_resize_0 : z_D 1 M_X4_resize 0 1 (.iload_n 1) := ⟨by decide +kernel, rfl⟩
theorem e_X4_resize_1 : z_D 3 M_X4_resize 1 4 (.invokestatic 138) := ⟨by decide +kernel, rfl⟩
theorem e_X4_resize_4 : z_J M_X4_resize 4 7 18 (14) (.ifCond .eq 14) := ⟨by decide +kernel, rfl, rfl⟩
theorem e_X4_resize_7 : z_D 1 M_X4_resize 7 8 (.iload_n 2) := ⟨by decide +kernel, rfl⟩
theorem e_X4_resize_8 : z_D 1 M_X4_resize 8 9 (.iconst 2) := ⟨by decide +kernel, rfl⟩
theorem e_X4_resize_9 : z_J M_X4_resize 9 12 18 (9) (.if_icmp .lt 9) := ⟨by decide +kernel, rfl, rfl⟩
theorem e_X4_resize_12 : z_D 1 M_X4_resize 12 13 (.iload_n 2) := ⟨by decide +kernel, rfl⟩
theorem e_X4_resize_13 : z_D 2 M_X4_resize 13 15 (.bipush 8) := ⟨by decide +kernel, rfl⟩
theorem e_X4_resize_15 : z_J M_X4_resize 15 18 20 (5) (.if_icmp .le 5) := ⟨by decide +kernel, rfl, rfl⟩
theorem e_X4_resize_18 : z_D 1 M_X4_resize 18 19 (.iconst (-1)) := ⟨by decide +kernel, rfl⟩
theorem e_X4_resize_19 : z_D 1 M_X4_resize 19 20 (.ireturn) := ⟨by decide +kernel, rfl⟩
theorem e_X4_resize_20 : z_D 1 M_X4_resize 20 21 (.aload_n 0) := ⟨by decide +kernel, rfl⟩
theorem e_X4_resize_21 : z_D 3 M_X4_resize 21 24 (.invokevirtual 38) := ⟨by decide +kernel, rfl⟩
theorem e_X4_resize_24 : z_D 1 M_X4_resize 24 25 (.astore_n 3) := ⟨by decide +kernel, rfl⟩
theorem e_X4_resize_25 : z_D 1 M_X4_resize 25 26 (.aload_n 0) := ⟨by decide +kernel, rfl⟩
theorem e_X4_resize_26 : z_D 3 M_X4_resize 26 29 (.getfield 23) := ⟨by decide +kernel, rfl⟩
theorem e_X4_resize_29 : z_D 1 M_X4_resize 29 30 (.aload_n 3) := ⟨by decide +kernel, rfl⟩
theorem e_X4_resize_30 : z_D 1 M_X4_resize 30 31 (.aload_n 0) := ⟨by decide +kernel, rfl⟩
theorem e_X4_resize_31 : z_D 3 M_X4_resize 31 34 (.getfield 12) := ⟨by decide +kernel, rfl⟩
theorem e_X4_resize_34 : z_D 1 M_X4_resize 34 35 (.iload_n 1) := ⟨by decide +kernel, rfl⟩
theorem e_X4_resize_35 : z_D 1 M_X4_resize 35 36 (.iload_n 2) := ⟨by decide +kernel, rfl⟩
end
section
theorem e_X4_resize_36 : z_D 3 M_X4_resize 36 39 (.invokevirtual 141) := ⟨by decide +kernel, rfl⟩
theorem e_X4_resize_39 : z_D 1 M_X4_resize 39 40 (.ireturn) := ⟨by decide +kernel, rfl⟩
theorem e_X4_cell_0 : z_D 1 M_X4_cell 0 1 (.aload_n 0) := ⟨by decide +kernel, rfl⟩
theorem e_X4_cell_1 : z_D 3 M_X4_cell 1 4 (.getfield 12) := ⟨by decide +kernel, rfl⟩
theorem e_X4_cell_4 : z_D 1 M_X4_cell 4 5 (.iload_n 1) := ⟨by decide +kernel, rfl⟩
theorem e_X4_cell_5 : z_D 1 M_X4_cell 5 6 (.iload_n 2) := ⟨by decide +kernel, rfl⟩
theorem e_X4_cell_6 : z_D 3 M_X4_cell 6 9 (.invokevirtual 52) := ⟨by decide +kernel, rfl⟩
theorem e_X4_cell_9 : z_J M_X4_cell 9 12 14 (5) (.ifCond .ne 5) := ⟨by decide +kernel, rfl, rfl⟩
theorem e_X4_cell_12 : z_D 1 M_X4_cell 12 13 (.iconst (-1)) := ⟨by decide +kernel, rfl⟩
theorem e_X4_cell_13 : z_D 1 M_X4_cell 13 14 (.ireturn) := ⟨by decide +kernel, rfl⟩
theorem e_X4_cell_14 : z_D 1 M_X4_cell 14 15 (.aload_n 0) := ⟨by decide +kernel, rfl⟩
theorem e_X4_cell_15 : z_D 3 M_X4_cell 15 18 (.getfield 12) := ⟨by decide +kernel, rfl⟩
theorem e_X4_cell_18 : z_D 1 M_X4_cell 18 19 (.iload_n 1) := ⟨by decide +kernel, rfl⟩
theorem e_X4_cell_19 : z_D 3 M_X4_cell 19 22 (.invokevirtual 109) := ⟨by decide +kernel, rfl⟩
theorem e_X4_cell_22 : z_D 1 M_X4_cell 22 23 (.iload_n 2) := ⟨by decide +kernel, rfl⟩
theorem e_X4_cell_23 : z_D 3 M_X4_cell 23 26 (.invokevirtual 145) := ⟨by decide +kernel, rfl⟩
theorem e_X4_cell_26 : z_D 3 M_X4_cell 26 29 (.invokestatic 148) := ⟨by decide +kernel, rfl⟩
theorem e_X4_cell_29 : z_D 1 M_X4_cell 29 30 (.ireturn) := ⟨by decide +kernel, rfl⟩
theorem e_X4_row_0 : z_D 1 M_X4_row 0 1 (.iload_n 1) := ⟨by decide +kernel, rfl⟩
theorem e_X4_row_1 : z_D 2 M_X4_row 1 3 (.bipush (-24)) := ⟨by decide +kernel, rfl⟩
theorem e_X4_row_3 : z_J M_X4_row 3 6 26 (23) (.if_icmp .lt 23) := ⟨by decide +kernel, rfl, rfl⟩
theorem e_X4_row_6 : z_D 1 M_X4_row 6 7 (.iload_n 1) := ⟨by decide +kernel, rfl⟩
theorem e_X4_row_7 : z_D 1 M_X4_row 7 8 (.aload_n 0) := ⟨by decide +kernel, rfl⟩
theorem e_X4_row_8 : z_D 3 M_X4_row 8 11 (.getfield 12) := ⟨by decide +kernel, rfl⟩
theorem e_X4_row_11 : z_D 3 M_X4_row 11 14 (.getfield 75) := ⟨by decide +kernel, rfl⟩
theorem e_X4_row_14 : z_J M_X4_row 14 17 26 (12) (.if_icmp .ge 12) := ⟨by decide +kernel, rfl, rfl⟩
theorem e_X4_row_17 : z_D 1 M_X4_row 17 18 (.iload_n 2) := ⟨by decide +kernel, rfl⟩
theorem e_X4_row_18 : z_J M_X4_row 18 21 26 (8) (.ifCond .lt 8) := ⟨by decide +kernel, rfl, rfl⟩
theorem e_X4_row_21 : z_D 1 M_X4_row 21 22 (.iload_n 2) := ⟨by decide +kernel, rfl⟩
theorem e_X4_row_22 : z_D 1 M_X4_row 22 23 (.iconst 3) := ⟨by decide +kernel, rfl⟩
theorem e_X4_row_23 : z_J M_X4_row 23 26 28 (5) (.if_icmp .le 5) := ⟨by decide +kernel, rfl, rfl⟩
theorem e_X4_row_26 : z_D 1 M_X4_row 26 27 (.iconst (-1)) := ⟨by decide +kernel, rfl⟩
theorem e_X4_row_27 : z_D 1 M_X4_row 27 28 (.ireturn) := ⟨by decide +kernel, rfl⟩
theorem e_X4_row_28 : z_D 1 M_X4_row 28 29 (.iload_n 1) := ⟨by decide +kernel, rfl⟩
theorem e_X4_row_29 : z_D 1 M_X4_row 29 30 (.aload_n 0) := ⟨by decide +kernel, rfl⟩
theorem e_X4_row_30 : z_D 3 M_X4_row 30 33 (.getfield 12) := ⟨by decide +kernel, rfl⟩
theorem e_X4_row_33 : z_D 3 M_X4_row 33 36 (.getfield 49) := ⟨by decide +kernel, rfl⟩
theorem e_X4_row_36 : z_D 1 M_X4_row 36 37 (.ineg) := ⟨by decide +kernel, rfl⟩
theorem e_X4_row_37 : z_J M_X4_row 37 40 43 (6) (.if_icmp .ge 6) := ⟨by decide +kernel, rfl, rfl⟩
theorem e_X4_row_40 : z_D 2 M_X4_row 40 42 (.bipush (-9)) := ⟨by decide +kernel, rfl⟩
theorem e_X4_row_42 : z_D 1 M_X4_row 42 43 (.ireturn) := ⟨by decide +kernel, rfl⟩
theorem e_X4_row_43 : z_D 1 M_X4_row 43 44 (.aload_n 0) := ⟨by decide +kernel, rfl⟩
theorem e_X4_row_44 : z_D 3 M_X4_row 44 47 (.getfield 12) := ⟨by decide +kernel, rfl⟩
theorem e_X4_row_47 : z_D 1 M_X4_row 47 48 (.iload_n 1) := ⟨by decide +kernel, rfl⟩
theorem e_X4_row_48 : z_D 3 M_X4_row 48 51 (.invokevirtual 109) := ⟨by decide +kernel, rfl⟩
theorem e_X4_row_51 : z_D 1 M_X4_row 51 52 (.astore_n 3) := ⟨by decide +kernel, rfl⟩
theorem e_X4_row_52 : z_D 1 M_X4_row 52 53 (.iload_n 2) := ⟨by decide +kernel, rfl⟩
theorem e_X4_row_53 : z_D 27 M_X4_row 53 80 (.tableswitch 58 0 2 #[27, 40, 53]) := ⟨by decide +kernel, rfl⟩
theorem e_X4_row_80 : z_D 1 M_X4_row 80 81 (.aload_n 3) := ⟨by decide +kernel, rfl⟩
theorem e_X4_row_81 : z_D 3 M_X4_row 81 84 (.getfield 151) := ⟨by decide +kernel, rfl⟩
theorem e_X4_row_84 : z_J M_X4_row 84 87 91 (7) (.ifCond .eq 7) := ⟨by decide +kernel, rfl, rfl⟩
theorem e_X4_row_87 : z_D 1 M_X4_row 87 88 (.iconst 1) := ⟨by decide +kernel, rfl⟩
theorem e_X4_row_88 : z_J M_X4_row 88 91 92 (4) (.goto 4) := ⟨by decide +kernel, rfl, rfl⟩
theorem e_X4_row_91 : z_D 1 M_X4_row 91 92 (.iconst 0) := ⟨by decide +kernel, rfl⟩
theorem e_X4_row_92 : z_D 1 M_X4_row 92 93 (.ireturn) := ⟨by decide +kernel, rfl⟩
theorem e_X4_row_93 : z_D 1 M_X4_row 93 94 (.aload_n 3) := ⟨by decide +kernel, rfl⟩
theorem e_X4_row_94 : z_D 3 M_X4_row 94 97 (.getfield 154) := ⟨by decide +kernel, rfl⟩
theorem e_X4_row_97 : z_J M_X4_row 97 100 104 (7) (.ifCond .eq 7) := ⟨by decide +kernel, rfl, rfl⟩
theorem e_X4_row_100 : z_D 1 M_X4_row 100 101 (.iconst 1) := ⟨by decide +kernel, rfl⟩
theorem e_X4_row_101 : z_J M_X4_row 101 104 105 (4) (.goto 4) := ⟨by decide +kernel, rfl, rfl⟩
theorem e_X4_row_104 : z_D 1 M_X4_row 104 105 (.iconst 0) := ⟨by decide +kernel, rfl⟩
theorem e_X4_row_105 : z_D 1 M_X4_row 105 106 (.ireturn) := ⟨by decide +kernel, rfl⟩
theorem e_X4_row_106 : z_D 1 M_X4_row 106 107 (.aload_n 3) := ⟨by decide +kernel, rfl⟩
theorem e_X4_row_107 : z_D 3 M_X4_row 107 110 (.invokevirtual 157) := ⟨by decide +kernel, rfl⟩
theorem e_X4_row_110 : z_D 1 M_X4_row 110 111 (.ireturn) := ⟨by decide +kernel, rfl⟩
theorem e_X4_row_111 : z_D 1 M_X4_row 111 112 (.aload_n 3) := ⟨by decide +kernel, rfl⟩
theorem e_X4_row_112 : z_D 3 M_X4_row 112 115 (.invokevirtual 160) := ⟨by decide +kernel, rfl⟩
theorem e_X4_row_115 : z_D 1 M_X4_row 115 116 (.ireturn) := ⟨by decide +kernel, rfl⟩
theorem e_X4_line_0 : z_D 1 M_X4_line 0 1 (.iload_n 1) := ⟨by decide +kernel, rfl⟩
theorem e_X4_line_1 : z_J M_X4_line 1 4 13 (12) (.ifCond .lt 12) := ⟨by decide +kernel, rfl, rfl⟩
theorem e_X4_line_4 : z_D 1 M_X4_line 4 5 (.iload_n 2) := ⟨by decide +kernel, rfl⟩
theorem e_X4_line_5 : z_J M_X4_line 5 8 13 (8) (.ifCond .lt 8) := ⟨by decide +kernel, rfl, rfl⟩
theorem e_X4_line_8 : z_D 1 M_X4_line 8 9 (.iload_n 2) := ⟨by decide +kernel, rfl⟩
theorem e_X4_line_9 : z_D 1 M_X4_line 9 10 (.iconst 2) := ⟨by decide +kernel, rfl⟩
theorem e_X4_line_10 : z_J M_X4_line 10 13 15 (5) (.if_icmp .le 5) := ⟨by decide +kernel, rfl, rfl⟩
theorem e_X4_line_13 : z_D 1 M_X4_line 13 14 (.iconst (-1)) := ⟨by decide +kernel, rfl⟩
theorem e_X4_line_14 : z_D 1 M_X4_line 14 15 (.ireturn) := ⟨by decide +kernel, rfl⟩
theorem e_X4_line_15 : z_D 1 M_X4_line 15 16 (.aload_n 0) := ⟨by decide +kernel, rfl⟩
theorem e_X4_line_16 : z_D 3 M_X4_line 16 19 (.getfield 12) := ⟨by decide +kernel, rfl⟩
theorem e_X4_line_19 : z_D 1 M_X4_line 19 20 (.iload_n 1) := ⟨by decide +kernel, rfl⟩
theorem e_X4_line_20 : z_D 3 M_X4_line 20 23 (.invokevirtual 163) := ⟨by decide +kernel, rfl⟩
theorem e_X4_line_23 : z_D 1 M_X4_line 23 24 (.istore_n 3) := ⟨by decide +kernel, rfl⟩
theorem e_X4_line_24 : z_D 1 M_X4_line 24 25 (.iload_n 3) := ⟨by decide +kernel, rfl⟩
theorem e_X4_line_25 : z_J M_X4_line 25 28 31 (6) (.ifCond .ge 6) := ⟨by decide +kernel, rfl, rfl⟩
theorem e_X4_line_28 : z_D 2 M_X4_line 28 30 (.bipush (-9)) := ⟨by decide +kernel, rfl⟩
theorem e_X4_line_30 : z_D 1 M_X4_line 30 31 (.ireturn) := ⟨by decide +kernel, rfl⟩
theorem e_X4_line_31 : z_D 1 M_X4_line 31 32 (.aload_n 0) := ⟨by decide +kernel, rfl⟩
theorem e_X4_line_32 : z_D 3 M_X4_line 32 35 (.getfield 12) := ⟨by decide +kernel, rfl⟩
theorem e_X4_line_35 : z_D 1 M_X4_line 35 36 (.iload_n 3) := ⟨by decide +kernel, rfl⟩
theorem e_X4_line_36 : z_D 3 M_X4_line 36 39 (.invokevirtual 166) := ⟨by decide +kernel, rfl⟩
theorem e_X4_line_39 : z_D 2 M_X4_line 39 41 (.istore 4) := ⟨by decide +kernel, rfl⟩
theorem e_X4_line_41 : z_D 1 M_X4_line 41 42 (.iload_n 2) := ⟨by decide +kernel, rfl⟩
theorem e_X4_line_42 : z_D 26 M_X4_line 42 68 (.lookupswitch 44 #[(0, 26), (1, 37)]) := ⟨by decide +kernel, rfl⟩
theorem e_X4_line_68 : z_D 1 M_X4_line 68 69 (.aload_n 0) := ⟨by decide +kernel, rfl⟩
theorem e_X4_line_69 : z_D 3 M_X4_line 69 72 (.getfield 12) := ⟨by decide +kernel, rfl⟩
theorem e_X4_line_72 : z_D 1 M_X4_line 72 73 (.iload_n 3) := ⟨by decide +kernel, rfl⟩
theorem e_X4_line_73 : z_D 2 M_X4_line 73 75 (.iload 4) := ⟨by decide +kernel, rfl⟩
theorem e_X4_line_75 : z_D 3 M_X4_line 75 78 (.invokevirtual 169) := ⟨by decide +kernel, rfl⟩
theorem e_X4_line_78 : z_D 1 M_X4_line 78 79 (.ireturn) := ⟨by decide +kernel, rfl⟩
theorem e_X4_line_79 : z_D 2 M_X4_line 79 81 (.iload 4) := ⟨by decide +kernel, rfl⟩
theorem e_X4_line_81 : z_D 1 M_X4_line 81 82 (.iload_n 3) := ⟨by decide +kernel, rfl⟩
theorem e_X4_line_82 : z_D 1 M_X4_line 82 83 (.isub) := ⟨by decide +kernel, rfl⟩
theorem e_X4_line_83 : z_D 1 M_X4_line 83 84 (.iconst 1) := ⟨by decide +kernel, rfl⟩
theorem e_X4_line_84 : z_D 1 M_X4_line 84 85 (.iadd) := ⟨by decide +kernel, rfl⟩
theorem e_X4_line_85 : z_D 1 M_X4_line 85 86 (.ireturn) := ⟨by decide +kernel, rfl⟩
theorem e_X4_line_86 : z_D 1 M_X4_line 86 87 (.iconst 0) := ⟨by decide +kernel, rfl⟩
theorem e_X4_line_87 : z_D 2 M_X4_line 87 89 (.iload 4) := ⟨by decide +kernel, rfl⟩
theorem e_X4_line_89 : z_D 1 M_X4_line 89 90 (.iconst 1) := ⟨by decide +kernel, rfl⟩
theorem e_X4_line_90 : z_D 1 M_X4_line 90 91 (.iadd) := ⟨by decide +kernel, rfl⟩
theorem e_X4_line_91 : z_D 1 M_X4_line 91 92 (.aload_n 0) := ⟨by decide +kernel, rfl⟩
theorem e_X4_line_92 : z_D 3 M_X4_line 92 95 (.getfield 12) := ⟨by decide +kernel, rfl⟩
theorem e_X4_line_95 : z_D 3 M_X4_line 95 98 (.getfield 49) := ⟨by decide +kernel, rfl⟩
theorem e_X4_line_98 : z_D 3 M_X4_line 98 101 (.invokestatic 116) := ⟨by decide +kernel, rfl⟩
theorem e_X4_line_101 : z_D 1 M_X4_line 101 102 (.iload_n 3) := ⟨by decide +kernel, rfl⟩
theorem e_X4_line_102 : z_D 1 M_X4_line 102 103 (.isub) := ⟨by decide +kernel, rfl⟩
theorem e_X4_line_103 : z_D 3 M_X4_line 103 106 (.invokestatic 172) := ⟨by decide +kernel, rfl⟩
theorem e_X4_line_106 : z_D 1 M_X4_line 106 107 (.ireturn) := ⟨by decide +kernel, rfl⟩
theorem e_X4_sign_0 : z_D 1 M_X4_sign 0 1 (.iload_n 1) := ⟨by decide +kernel, rfl⟩
theorem e_X4_sign_1 : z_J M_X4_sign 1 4 8 (7) (.ifCond .lt 7) := ⟨by decide +kernel, rfl, rfl⟩
theorem e_X4_sign_4 : z_D 1 M_X4_sign 4 5 (.iload_n 2) := ⟨by decide +kernel, rfl⟩
theorem e_X4_sign_5 : z_J M_X4_sign 5 8 10 (5) (.ifCond .ge 5) := ⟨by decide +kernel, rfl, rfl⟩
theorem e_X4_sign_8 : z_D 1 M_X4_sign 8 9 (.iconst (-1)) := ⟨by decide +kernel, rfl⟩
theorem e_X4_sign_9 : z_D 1 M_X4_sign 9 10 (.ireturn) := ⟨by decide +kernel, rfl⟩
theorem e_X4_sign_10 : z_D 1 M_X4_sign 10 11 (.aload_n 0) := ⟨by decide +kernel, rfl⟩
theorem e_X4_sign_11 : z_D 3 M_X4_sign 11 14 (.getfield 12) := ⟨by decide +kernel, rfl⟩
theorem e_X4_sign_14 : z_D 1 M_X4_sign 14 15 (.iload_n 1) := ⟨by decide +kernel, rfl⟩
theorem e_X4_sign_15 : z_D 3 M_X4_sign 15 18 (.invokevirtual 163) := ⟨by decide +kernel, rfl⟩
theorem e_X4_sign_18 : z_D 1 M_X4_sign 18 19 (.istore_n 3) := ⟨by decide +kernel, rfl⟩
theorem e_X4_sign_19 : z_D 1 M_X4_sign 19 20 (.iload_n 3) := ⟨by decide +kernel, rfl⟩
theorem e_X4_sign_20 : z_J M_X4_sign 20 23 30 (10) (.ifCond .lt 10) := ⟨by decide +kernel, rfl, rfl⟩
theorem e_X4_sign_23 : z_D 1 M_X4_sign 23 24 (.iload_n 2) := ⟨by decide +kernel, rfl⟩
theorem e_X4_sign_24 : z_D 3 M_X4_sign 24 27 (.sipush 640) := ⟨by decide +kernel, rfl⟩
theorem e_X4_sign_27 : z_J M_X4_sign 27 30 33 (6) (.if_icmp .lt 6) := ⟨by decide +kernel, rfl, rfl⟩
theorem e_X4_sign_30 : z_D 2 M_X4_sign 30 32 (.bipush (-9)) := ⟨by decide +kernel, rfl⟩
theorem e_X4_sign_32 : z_D 1 M_X4_sign 32 33 (.ireturn) := ⟨by decide +kernel, rfl⟩
theorem e_X4_sign_33 : z_D 1 M_X4_sign 33 34 (.aload_n 0) := ⟨by decide +kernel, rfl⟩
theorem e_X4_sign_34 : z_D 3 M_X4_sign 34 37 (.getfield 23) := ⟨by decide +kernel, rfl⟩
theorem e_X4_sign_37 : z_D 1 M_X4_sign 37 38 (.aload_n 0) := ⟨by decide +kernel, rfl⟩
theorem e_X4_sign_38 : z_D 3 M_X4_sign 38 41 (.getfield 12) := ⟨by decide +kernel, rfl⟩
theorem e_X4_sign_41 : z_D 1 M_X4_sign 41 42 (.iload_n 3) := ⟨by decide +kernel, rfl⟩
theorem e_X4_sign_42 : z_D 1 M_X4_sign 42 43 (.aload_n 0) := ⟨by decide +kernel, rfl⟩
theorem e_X4_sign_43 : z_D 3 M_X4_sign 43 46 (.getfield 12) := ⟨by decide +kernel, rfl⟩
theorem e_X4_sign_46 : z_D 1 M_X4_sign 46 47 (.iload_n 3) := ⟨by decide +kernel, rfl⟩
theorem e_X4_sign_47 : z_D 3 M_X4_sign 47 50 (.invokevirtual 166) := ⟨by decide +kernel, rfl⟩
theorem e_X4_sign_50 : z_D 1 M_X4_sign 50 51 (.iload_n 2) := ⟨by decide +kernel, rfl⟩
theorem e_X4_sign_51 : z_D 3 M_X4_sign 51 54 (.invokevirtual 175) := ⟨by decide +kernel, rfl⟩
theorem e_X4_sign_54 : z_D 1 M_X4_sign 54 55 (.ireturn) := ⟨by decide +kernel, rfl⟩
theorem e_X4_cursor_0 : z_D 1 M_X4_cursor 0 1 (.iload_n 1) := ⟨by decide +kernel, rfl⟩
theorem e_X4_cursor_1 : z_J M_X4_cursor 1 4 18 (17) (.ifCond .lt 17) := ⟨by decide +kernel, rfl, rfl⟩
theorem e_X4_cursor_4 : z_D 1 M_X4_cursor 4 5 (.iload_n 1) := ⟨by decide +kernel, rfl⟩
theorem e_X4_cursor_5 : z_D 1 M_X4_cursor 5 6 (.iconst 3) := ⟨by decide +kernel, rfl⟩
theorem e_X4_cursor_6 : z_J M_X4_cursor 6 9 18 (12) (.if_icmp .gt 12) := ⟨by decide +kernel, rfl, rfl⟩
theorem e_X4_cursor_9 : z_D 1 M_X4_cursor 9 10 (.iload_n 2) := ⟨by decide +kernel, rfl⟩
theorem e_X4_cursor_10 : z_J M_X4_cursor 10 13 18 (8) (.ifCond .lt 8) := ⟨by decide +kernel, rfl, rfl⟩
theorem e_X4_cursor_13 : z_D 1 M_X4_cursor 13 14 (.iload_n 2) := ⟨by decide +kernel, rfl⟩
theorem e_X4_cursor_14 : z_D 1 M_X4_cursor 14 15 (.iconst 3) := ⟨by decide +kernel, rfl⟩
theorem e_X4_cursor_15 : z_J M_X4_cursor 15 18 20 (5) (.if_icmp .le 5) := ⟨by decide +kernel, rfl, rfl⟩
theorem e_X4_cursor_18 : z_D 1 M_X4_cursor 18 19 (.iconst (-1)) := ⟨by decide +kernel, rfl⟩
theorem e_X4_cursor_19 : z_D 1 M_X4_cursor 19 20 (.ireturn) := ⟨by decide +kernel, rfl⟩
theorem e_X4_cursor_20 : z_D 1 M_X4_cursor 20 21 (.iload_n 1) := ⟨by decide +kernel, rfl⟩
theorem e_X4_cursor_21 : z_D 1 M_X4_cursor 21 22 (.aload_n 0) := ⟨by decide +kernel, rfl⟩
theorem e_X4_cursor_22 : z_D 3 M_X4_cursor 22 25 (.getfield 12) := ⟨by decide +kernel, rfl⟩
theorem e_X4_cursor_25 : z_D 3 M_X4_cursor 25 28 (.getfield 129) := ⟨by decide +kernel, rfl⟩
theorem e_X4_cursor_28 : z_J M_X4_cursor 28 31 34 (6) (.if_icmp .le 6) := ⟨by decide +kernel, rfl, rfl⟩
theorem e_X4_cursor_31 : z_D 2 M_X4_cursor 31 33 (.bipush (-9)) := ⟨by decide +kernel, rfl⟩
theorem e_X4_cursor_33 : z_D 1 M_X4_cursor 33 34 (.ireturn) := ⟨by decide +kernel, rfl⟩
theorem e_X4_cursor_34 : z_D 1 M_X4_cursor 34 35 (.iload_n 1) := ⟨by decide +kernel, rfl⟩
theorem e_X4_cursor_35 : z_J M_X4_cursor 35 38 48 (13) (.ifCond .ne 13) := ⟨by decide +kernel, rfl, rfl⟩
theorem e_X4_cursor_38 : z_D 1 M_X4_cursor 38 39 (.aload_n 0) := ⟨by decide +kernel, rfl⟩
theorem e_X4_cursor_39 : z_D 3 M_X4_cursor 39 42 (.getfield 12) := ⟨by decide +kernel, rfl⟩
theorem e_X4_cursor_42 : z_D 3 M_X4_cursor 42 45 (.getfield 59) := ⟨by decide +kernel, rfl⟩
theorem e_X4_cursor_45 : z_J M_X4_cursor 45 48 64 (19) (.goto 19) := ⟨by decide +kernel, rfl, rfl⟩
theorem e_X4_cursor_48 : z_D 1 M_X4_cursor 48 49 (.aload_n 0) := ⟨by decide +kernel, rfl⟩
theorem e_X4_cursor_49 : z_D 3 M_X4_cursor 49 52 (.getfield 12) := ⟨by decide +kernel, rfl⟩
theorem e_X4_cursor_52 : z_D 1 M_X4_cursor 52 53 (.aload_n 0) := ⟨by decide +kernel, rfl⟩
theorem e_X4_cursor_53 : z_D 3 M_X4_cursor 53 56 (.getfield 12) := ⟨by decide +kernel, rfl⟩
theorem e_X4_cursor_56 : z_D 3 M_X4_cursor 56 59 (.getfield 129) := ⟨by decide +kernel, rfl⟩
theorem e_X4_cursor_59 : z_D 1 M_X4_cursor 59 60 (.iload_n 1) := ⟨by decide +kernel, rfl⟩
theorem e_X4_cursor_60 : z_D 1 M_X4_cursor 60 61 (.isub) := ⟨by decide +kernel, rfl⟩
theorem e_X4_cursor_61 : z_D 3 M_X4_cursor 61 64 (.invokevirtual 179) := ⟨by decide +kernel, rfl⟩
theorem e_X4_cursor_64 : z_D 1 M_X4_cursor 64 65 (.astore_n 3) := ⟨by decide +kernel, rfl⟩
theorem e_X4_cursor_65 : z_D 1 M_X4_cursor 65 66 (.iload_n 2) := ⟨by decide +kernel, rfl⟩
theorem e_X4_cursor_66 : z_D 26 M_X4_cursor 66 92 (.tableswitch 45 0 2 #[26, 31, 36]) := ⟨by decide +kernel, rfl⟩
theorem e_X4_cursor_92 : z_D 1 M_X4_cursor 92 93 (.aload_n 3) := ⟨by decide +kernel, rfl⟩
theorem e_X4_cursor_93 : z_D 3 M_X4_cursor 93 96 (.getfield 63) := ⟨by decide +kernel, rfl⟩
theorem e_X4_cursor_96 : z_D 1 M_X4_cursor 96 97 (.ireturn) := ⟨by decide +kernel, rfl⟩
theorem e_X4_cursor_97 : z_D 1 M_X4_cursor 97 98 (.aload_n 3) := ⟨by decide +kernel, rfl⟩
theorem e_X4_cursor_98 : z_D 3 M_X4_cursor 98 101 (.getfield 68) := ⟨by decide +kernel, rfl⟩
theorem e_X4_cursor_101 : z_D 1 M_X4_cursor 101 102 (.ireturn) := ⟨by decide +kernel, rfl⟩
theorem e_X4_cursor_102 : z_D 1 M_X4_cursor 102 103 (.aload_n 0) := ⟨by decide +kernel, rfl⟩
theorem e_X4_cursor_103 : z_D 3 M_X4_cursor 103 106 (.getfield 12) := ⟨by decide +kernel, rfl⟩
theorem e_X4_cursor_106 : z_D 1 M_X4_cursor 106 107 (.aload_n 3) := ⟨by decide +kernel, rfl⟩
theorem e_X4_cursor_107 : z_D 3 M_X4_cursor 107 110 (.invokevirtual 183) := ⟨by decide +kernel, rfl⟩
theorem e_X4_cursor_110 : z_D 1 M_X4_cursor 110 111 (.ireturn) := ⟨by decide +kernel, rfl⟩
theorem e_X4_cursor_111 : z_D 1 M_X4_cursor 111 112 (.aload_n 0) := ⟨by decide +kernel, rfl⟩
theorem e_X4_cursor_112 : z_D 3 M_X4_cursor 112 115 (.getfield 12) := ⟨by decide +kernel, rfl⟩
theorem e_X4_cursor_115 : z_D 1 M_X4_cursor 115 116 (.aload_n 3) := ⟨by decide +kernel, rfl⟩
theorem e_X4_cursor_116 : z_D 3 M_X4_cursor 116 119 (.invokevirtual 187) := ⟨by decide +kernel, rfl⟩
theorem e_X4_cursor_119 : z_D 1 M_X4_cursor 119 120 (.ireturn) := ⟨by decide +kernel, rfl⟩
theorem e_X4_ifWidth_0 : z_D 1 M_X4_ifWidth 0 1 (.iload_n 1) := ⟨by decide +kernel, rfl⟩
theorem e_X4_ifWidth_1 : z_D 3 M_X4_ifWidth 1 4 (.invokestatic 138) := ⟨by decide +kernel, rfl⟩
theorem e_X4_ifWidth_4 : z_J M_X4_ifWidth 4 7 22 (18) (.ifCond .eq 18) := ⟨by decide +kernel, rfl, rfl⟩
theorem e_X4_ifWidth_7 : z_D 1 M_X4_ifWidth 7 8 (.aload_n 0) := ⟨by decide +kernel, rfl⟩
theorem e_X4_ifWidth_8 : z_D 3 M_X4_ifWidth 8 11 (.getfield 23) := ⟨by decide +kernel, rfl⟩
theorem e_X4_ifWidth_11 : z_D 1 M_X4_ifWidth 11 12 (.aload_n 0) := ⟨by decide +kernel, rfl⟩
theorem e_X4_ifWidth_12 : z_D 3 M_X4_ifWidth 12 15 (.getfield 12) := ⟨by decide +kernel, rfl⟩
theorem e_X4_ifWidth_15 : z_D 1 M_X4_ifWidth 15 16 (.iload_n 1) := ⟨by decide +kernel, rfl⟩
theorem e_X4_ifWidth_16 : z_D 3 M_X4_ifWidth 16 19 (.invokevirtual 190) := ⟨by decide +kernel, rfl⟩
theorem e_X4_ifWidth_19 : z_J M_X4_ifWidth 19 22 23 (4) (.goto 4) := ⟨by decide +kernel, rfl, rfl⟩
theorem e_X4_ifWidth_22 : z_D 1 M_X4_ifWidth 22 23 (.iconst (-1)) := ⟨by decide +kernel, rfl⟩
theorem e_X4_ifWidth_23 : z_D 1 M_X4_ifWidth 23 24 (.ireturn) := ⟨by decide +kernel, rfl⟩
theorem e_X4_widthFor_0 : z_D 1 M_X4_widthFor 0 1 (.iload_n 1) := ⟨by decide +kernel, rfl⟩
theorem e_X4_widthFor_1 : z_D 1 M_X4_widthFor 1 2 (.iconst 1) := ⟨by decide +kernel, rfl⟩
theorem e_X4_widthFor_2 : z_J M_X4_widthFor 2 5 11 (9) (.if_icmp .lt 9) := ⟨by decide +kernel, rfl, rfl⟩
theorem e_X4_widthFor_5 : z_D 1 M_X4_widthFor 5 6 (.iload_n 1) := ⟨by decide +kernel, rfl⟩
theorem e_X4_widthFor_6 : z_D 2 M_X4_widthFor 6 8 (.bipush 40) := ⟨by decide +kernel, rfl⟩
theorem e_X4_widthFor_8 : z_J M_X4_widthFor 8 11 13 (5) (.if_icmp .le 5) := ⟨by decide +kernel, rfl, rfl⟩
theorem e_X4_widthFor_11 : z_D 1 M_X4_widthFor 11 12 (.iconst (-1)) := ⟨by decide +kernel, rfl⟩
theorem e_X4_widthFor_12 : z_D 1 M_X4_widthFor 12 13 (.ireturn) := ⟨by decide +kernel, rfl⟩
theorem e_X4_widthFor_13 : z_D 1 M_X4_widthFor 13 14 (.iconst 4) := ⟨by decide +kernel, rfl⟩
theorem e_X4_widthFor_14 : z_D 1 M_X4_widthFor 14 15 (.istore_n 2) := ⟨by decide +kernel, rfl⟩
theorem e_X4_widthFor_15 : z_D 1 M_X4_widthFor 15 16 (.iload_n 2) := ⟨by decide +kernel, rfl⟩
theorem e_X4_widthFor_16 : z_D 2 M_X4_widthFor 16 18 (.bipush 20) := ⟨by decide +kernel, rfl⟩
theorem e_X4_widthFor_18 : z_J M_X4_widthFor 18 21 45 (27) (.if_icmp .gt 27) := ⟨by decide +kernel, rfl, rfl⟩
theorem e_X4_widthFor_21 : z_D 1 M_X4_widthFor 21 22 (.aload_n 0) := ⟨by decide +kernel, rfl⟩
theorem e_X4_widthFor_22 : z_D 3 M_X4_widthFor 22 25 (.getfield 23) := ⟨by decide +kernel, rfl⟩
theorem e_X4_widthFor_25 : z_D 1 M_X4_widthFor 25 26 (.aload_n 0) := ⟨by decide +kernel, rfl⟩
theorem e_X4_widthFor_26 : z_D 3 M_X4_widthFor 26 29 (.getfield 12) := ⟨by decide +kernel, rfl⟩
theorem e_X4_widthFor_29 : z_D 1 M_X4_widthFor 29 30 (.iload_n 2) := ⟨by decide +kernel, rfl⟩
theorem e_X4_widthFor_30 : z_D 3 M_X4_widthFor 30 33 (.invokevirtual 190) := ⟨by decide +kernel, rfl⟩
theorem e_X4_widthFor_33 : z_D 1 M_X4_widthFor 33 34 (.iload_n 1) := ⟨by decide +kernel, rfl⟩
theorem e_X4_widthFor_34 : z_J M_X4_widthFor 34 37 39 (5) (.if_icmp .gt 5) := ⟨by decide +kernel, rfl, rfl⟩
theorem e_X4_widthFor_37 : z_D 1 M_X4_widthFor 37 38 (.iload_n 2) := ⟨by decide +kernel, rfl⟩
theorem e_X4_widthFor_38 : z_D 1 M_X4_widthFor 38 39 (.ireturn) := ⟨by decide +kernel, rfl⟩
theorem e_X4_widthFor_39 : z_D 3 M_X4_widthFor 39 42 (.iinc 2 1) := ⟨by decide +kernel, rfl⟩
theorem e_X4_widthFor_42 : z_J M_X4_widthFor 42 45 15 (-27) (.goto (-27)) := ⟨by decide +kernel, rfl, rfl⟩
theorem e_X4_widthFor_45 : z_D 2 M_X4_widthFor 45 47 (.bipush (-9)) := ⟨by decide +kernel, rfl⟩
theorem e_X4_widthFor_47 : z_D 1 M_X4_widthFor 47 48 (.ireturn) := ⟨by decide +kernel, rfl⟩
theorem e_X4_told_0 : z_D 1 M_X4_told 0 1 (.iload_n 1) := ⟨by decide +kernel, rfl⟩
theorem e_X4_told_1 : z_D 59 M_X4_told 1 60 (.tableswitch 155 0 10 #[59, 67, 75, 83, 91, 110, 118, 126, 134, 142, 150]) := ⟨by decide +kernel, rfl⟩
theorem e_X4_told_60 : z_D 1 M_X4_told 60 61 (.aload_n 0) := ⟨by decide +kernel, rfl⟩
theorem e_X4_told_61 : z_D 3 M_X4_told 61 64 (.getfield 12) := ⟨by decide +kernel, rfl⟩
theorem e_X4_told_64 : z_D 3 M_X4_told 64 67 (.getfield 56) := ⟨by decide +kernel, rfl⟩
theorem e_X4_told_67 : z_D 1 M_X4_told 67 68 (.ireturn) := ⟨by decide +kernel, rfl⟩
theorem e_X4_told_68 : z_D 1 M_X4_told 68 69 (.aload_n 0) := ⟨by decide +kernel, rfl⟩
theorem e_X4_told_69 : z_D 3 M_X4_told 69 72 (.getfield 12) := ⟨by decide +kernel, rfl⟩
theorem e_X4_told_72 : z_D 3 M_X4_told 72 75 (.getfield 75) := ⟨by decide +kernel, rfl⟩
theorem e_X4_told_75 : z_D 1 M_X4_told 75 76 (.ireturn) := ⟨by decide +kernel, rfl⟩
theorem e_X4_told_76 : z_D 1 M_X4_told 76 77 (.aload_n 0) := ⟨by decide +kernel, rfl⟩
theorem e_X4_told_77 : z_D 3 M_X4_told 77 80 (.getfield 12) := ⟨by decide +kernel, rfl⟩
theorem e_X4_told_80 : z_D 3 M_X4_told 80 83 (.getfield 78) := ⟨by decide +kernel, rfl⟩
theorem e_X4_told_83 : z_D 1 M_X4_told 83 84 (.ireturn) := ⟨by decide +kernel, rfl⟩
theorem e_X4_told_84 : z_D 1 M_X4_told 84 85 (.aload_n 0) := ⟨by decide +kernel, rfl⟩
theorem e_X4_told_85 : z_D 3 M_X4_told 85 88 (.getfield 12) := ⟨by decide +kernel, rfl⟩
theorem e_X4_told_88 : z_D 3 M_X4_told 88 91 (.getfield 81) := ⟨by decide +kernel, rfl⟩
theorem e_X4_told_91 : z_D 1 M_X4_told 91 92 (.ireturn) := ⟨by decide +kernel, rfl⟩
theorem e_X4_told_92 : z_D 1 M_X4_told 92 93 (.aload_n 0) := ⟨by decide +kernel, rfl⟩
theorem e_X4_told_93 : z_D 3 M_X4_told 93 96 (.getfield 12) := ⟨by decide +kernel, rfl⟩
theorem e_X4_told_96 : z_D 3 M_X4_told 96 99 (.getfield 59) := ⟨by decide +kernel, rfl⟩
theorem e_X4_told_99 : z_D 3 M_X4_told 99 102 (.getfield 91) := ⟨by decide +kernel, rfl⟩
theorem e_X4_told_102 : z_J M_X4_told 102 105 109 (7) (.ifCond .eq 7) := ⟨by decide +kernel, rfl, rfl⟩
theorem e_X4_told_105 : z_D 1 M_X4_told 105 106 (.iconst 1) := ⟨by decide +kernel, rfl⟩
theorem e_X4_told_106 : z_J M_X4_told 106 109 110 (4) (.goto 4) := ⟨by decide +kernel, rfl, rfl⟩
theorem e_X4_told_109 : z_D 1 M_X4_told 109 110 (.iconst 0) := ⟨by decide +kernel, rfl⟩
theorem e_X4_told_110 : z_D 1 M_X4_told 110 111 (.ireturn) := ⟨by decide +kernel, rfl⟩
theorem e_X4_told_111 : z_D 1 M_X4_told 111 112 (.aload_n 0) := ⟨by decide +kernel, rfl⟩
theorem e_X4_told_112 : z_D 3 M_X4_told 112 115 (.getfield 12) := ⟨by decide +kernel, rfl⟩
theorem e_X4_told_115 : z_D 3 M_X4_told 115 118 (.getfield 49) := ⟨by decide +kernel, rfl⟩
theorem e_X4_told_118 : z_D 1 M_X4_told 118 119 (.ireturn) := ⟨by decide +kernel, rfl⟩
theorem e_X4_told_119 : z_D 1 M_X4_told 119 120 (.aload_n 0) := ⟨by decide +kernel, rfl⟩
theorem e_X4_told_120 : z_D 3 M_X4_told 120 123 (.getfield 12) := ⟨by decide +kernel, rfl⟩
theorem e_X4_told_123 : z_D 3 M_X4_told 123 126 (.getfield 129) := ⟨by decide +kernel, rfl⟩
theorem e_X4_told_126 : z_D 1 M_X4_told 126 127 (.ireturn) := ⟨by decide +kernel, rfl⟩
theorem e_X4_told_127 : z_D 1 M_X4_told 127 128 (.aload_n 0) := ⟨by decide +kernel, rfl⟩
theorem e_X4_told_128 : z_D 3 M_X4_told 128 131 (.getfield 12) := ⟨by decide +kernel, rfl⟩
theorem e_X4_told_131 : z_D 3 M_X4_told 131 134 (.invokevirtual 194) := ⟨by decide +kernel, rfl⟩
theorem e_X4_told_134 : z_D 1 M_X4_told 134 135 (.ireturn) := ⟨by decide +kernel, rfl⟩
theorem e_X4_told_135 : z_D 1 M_X4_told 135 136 (.aload_n 0) := ⟨by decide +kernel, rfl⟩
theorem e_X4_told_136 : z_D 3 M_X4_told 136 139 (.getfield 12) := ⟨by decide +kernel, rfl⟩
theorem e_X4_told_139 : z_D 3 M_X4_told 139 142 (.invokevirtual 197) := ⟨by decide +kernel, rfl⟩
theorem e_X4_told_142 : z_D 1 M_X4_told 142 143 (.ireturn) := ⟨by decide +kernel, rfl⟩
theorem e_X4_told_143 : z_D 1 M_X4_told 143 144 (.aload_n 0) := ⟨by decide +kernel, rfl⟩
theorem e_X4_told_144 : z_D 3 M_X4_told 144 147 (.getfield 12) := ⟨by decide +kernel, rfl⟩
theorem e_X4_told_147 : z_D 3 M_X4_told 147 150 (.invokevirtual 84) := ⟨by decide +kernel, rfl⟩
theorem e_X4_told_150 : z_D 1 M_X4_told 150 151 (.ireturn) := ⟨by decide +kernel, rfl⟩
theorem e_X4_told_151 : z_D 1 M_X4_told 151 152 (.aload_n 0) := ⟨by decide +kernel, rfl⟩
theorem e_X4_told_152 : z_D 3 M_X4_told 152 155 (.getfield 31) := ⟨by decide +kernel, rfl⟩
theorem e_X4_told_155 : z_D 1 M_X4_told 155 156 (.ireturn) := ⟨by decide +kernel, rfl⟩
theorem e_X4_told_156 : z_D 1 M_X4_told 156 157 (.iconst (-1)) := ⟨by decide +kernel, rfl⟩
theorem e_X4_told_157 : z_D 1 M_X4_told 157 158 (.ireturn) := ⟨by decide +kernel, rfl⟩
theorem e_X4_undo_0 : z_D 1 M_X4_undo 0 1 (.aload_n 0) := ⟨by decide +kernel, rfl⟩
theorem e_X4_undo_1 : z_D 3 M_X4_undo 1 4 (.getfield 31) := ⟨by decide +kernel, rfl⟩
theorem e_X4_undo_4 : z_J M_X4_undo 4 7 10 (6) (.ifCond .ne 6) := ⟨by decide +kernel, rfl, rfl⟩
theorem e_X4_undo_7 : z_D 2 M_X4_undo 7 9 (.bipush (-2)) := ⟨by decide +kernel, rfl⟩
theorem e_X4_undo_9 : z_D 1 M_X4_undo 9 10 (.ireturn) := ⟨by decide +kernel, rfl⟩
theorem e_X4_undo_10 : z_D 1 M_X4_undo 10 11 (.aload_n 0) := ⟨by decide +kernel, rfl⟩
theorem e_X4_undo_11 : z_D 1 M_X4_undo 11 12 (.aload_n 0) := ⟨by decide +kernel, rfl⟩
theorem e_X4_undo_12 : z_D 3 M_X4_undo 12 15 (.getfield 27) := ⟨by decide +kernel, rfl⟩
theorem e_X4_undo_15 : z_D 2 M_X4_undo 15 17 (.bipush 8) := ⟨by decide +kernel, rfl⟩
theorem e_X4_undo_17 : z_D 1 M_X4_undo 17 18 (.iadd) := ⟨by decide +kernel, rfl⟩
theorem e_X4_undo_18 : z_D 1 M_X4_undo 18 19 (.iconst 1) := ⟨by decide +kernel, rfl⟩
theorem e_X4_undo_19 : z_D 1 M_X4_undo 19 20 (.isub) := ⟨by decide +kernel, rfl⟩
theorem e_X4_undo_20 : z_D 2 M_X4_undo 20 22 (.bipush 8) := ⟨by decide +kernel, rfl⟩
theorem e_X4_undo_22 : z_D 1 M_X4_undo 22 23 (.irem) := ⟨by decide +kernel, rfl⟩
theorem e_X4_undo_23 : z_D 3 M_X4_undo 23 26 (.putfield 27) := ⟨by decide +kernel, rfl⟩
theorem e_X4_undo_26 : z_D 1 M_X4_undo 26 27 (.aload_n 0) := ⟨by decide +kernel, rfl⟩
theorem e_X4_undo_27 : z_D 3 M_X4_undo 27 30 (.getfield 12) := ⟨by decide +kernel, rfl⟩
theorem e_X4_undo_30 : z_D 1 M_X4_undo 30 31 (.aload_n 0) := ⟨by decide +kernel, rfl⟩
theorem e_X4_undo_31 : z_D 1 M_X4_undo 31 32 (.aload_n 0) := ⟨by decide +kernel, rfl⟩
theorem e_X4_undo_32 : z_D 3 M_X4_undo 32 35 (.getfield 27) := ⟨by decide +kernel, rfl⟩
theorem e_X4_undo_35 : z_D 3 M_X4_undo 35 38 (.invokevirtual 200) := ⟨by decide +kernel, rfl⟩
theorem e_X4_undo_38 : z_D 3 M_X4_undo 38 41 (.invokevirtual 204) := ⟨by decide +kernel, rfl⟩
theorem e_X4_undo_41 : z_D 1 M_X4_undo 41 42 (.aload_n 0) := ⟨by decide +kernel, rfl⟩
theorem e_X4_undo_42 : z_D 1 M_X4_undo 42 43 (.dup) := ⟨by decide +kernel, rfl⟩
theorem e_X4_undo_43 : z_D 3 M_X4_undo 43 46 (.getfield 31) := ⟨by decide +kernel, rfl⟩
theorem e_X4_undo_46 : z_D 1 M_X4_undo 46 47 (.iconst 1) := ⟨by decide +kernel, rfl⟩
theorem e_X4_undo_47 : z_D 1 M_X4_undo 47 48 (.isub) := ⟨by decide +kernel, rfl⟩
theorem e_X4_undo_48 : z_D 3 M_X4_undo 48 51 (.putfield 31) := ⟨by decide +kernel, rfl⟩
theorem e_X4_undo_51 : z_D 1 M_X4_undo 51 52 (.aload_n 0) := ⟨by decide +kernel, rfl⟩
theorem e_X4_undo_52 : z_D 3 M_X4_undo 52 55 (.getfield 31) := ⟨by decide +kernel, rfl⟩
theorem e_X4_undo_55 : z_D 1 M_X4_undo 55 56 (.ireturn) := ⟨by decide +kernel, rfl⟩
theorem e_X4_digest_0 : z_D 3 M_X4_digest 0 3 (.ldc2_w 208) := ⟨by decide +kernel, rfl⟩
theorem e_X4_digest_3 : z_D 1 M_X4_digest 3 4 (.lstore_n 1) := ⟨by decide +kernel, rfl⟩
theorem e_X4_digest_4 : z_D 1 M_X4_digest 4 5 (.iconst 0) := ⟨by decide +kernel, rfl⟩
theorem e_X4_digest_5 : z_D 1 M_X4_digest 5 6 (.istore_n 3) := ⟨by decide +kernel, rfl⟩
theorem e_X4_digest_6 : z_D 1 M_X4_digest 6 7 (.iload_n 3) := ⟨by decide +kernel, rfl⟩
theorem e_X4_digest_7 : z_D 2 M_X4_digest 7 9 (.bipush 10) := ⟨by decide +kernel, rfl⟩
theorem e_X4_digest_9 : z_J M_X4_digest 9 12 28 (19) (.if_icmp .gt 19) := ⟨by decide +kernel, rfl, rfl⟩
theorem e_X4_digest_12 : z_D 1 M_X4_digest 12 13 (.lload_n 1) := ⟨by decide +kernel, rfl⟩
theorem e_X4_digest_13 : z_D 1 M_X4_digest 13 14 (.aload_n 0) := ⟨by decide +kernel, rfl⟩
theorem e_X4_digest_14 : z_D 1 M_X4_digest 14 15 (.iload_n 3) := ⟨by decide +kernel, rfl⟩
theorem e_X4_digest_15 : z_D 3 M_X4_digest 15 18 (.invokevirtual 210) := ⟨by decide +kernel, rfl⟩
theorem e_X4_digest_18 : z_D 3 M_X4_digest 18 21 (.invokestatic 213) := ⟨by decide +kernel, rfl⟩
theorem e_X4_digest_21 : z_D 1 M_X4_digest 21 22 (.lstore_n 1) := ⟨by decide +kernel, rfl⟩
theorem e_X4_digest_22 : z_D 3 M_X4_digest 22 25 (.iinc 3 1) := ⟨by decide +kernel, rfl⟩
theorem e_X4_digest_25 : z_J M_X4_digest 25 28 6 (-19) (.goto (-19)) := ⟨by decide +kernel, rfl, rfl⟩
theorem e_X4_digest_28 : z_D 1 M_X4_digest 28 29 (.aload_n 0) := ⟨by decide +kernel, rfl⟩
theorem e_X4_digest_29 : z_D 1 M_X4_digest 29 30 (.aload_n 0) := ⟨by decide +kernel, rfl⟩
theorem e_X4_digest_30 : z_D 1 M_X4_digest 30 31 (.lload_n 1) := ⟨by decide +kernel, rfl⟩
theorem e_X4_digest_31 : z_D 3 M_X4_digest 31 34 (.invokevirtual 217) := ⟨by decide +kernel, rfl⟩
theorem e_X4_digest_34 : z_D 3 M_X4_digest 34 37 (.invokevirtual 221) := ⟨by decide +kernel, rfl⟩
theorem e_X4_digest_37 : z_D 1 M_X4_digest 37 38 (.lstore_n 1) := ⟨by decide +kernel, rfl⟩
theorem e_X4_digest_38 : z_D 1 M_X4_digest 38 39 (.aload_n 0) := ⟨by decide +kernel, rfl⟩
theorem e_X4_digest_39 : z_D 1 M_X4_digest 39 40 (.aload_n 0) := ⟨by decide +kernel, rfl⟩
theorem e_X4_digest_40 : z_D 1 M_X4_digest 40 41 (.lload_n 1) := ⟨by decide +kernel, rfl⟩
theorem e_X4_digest_41 : z_D 3 M_X4_digest 41 44 (.invokevirtual 224) := ⟨by decide +kernel, rfl⟩
theorem e_X4_digest_44 : z_D 3 M_X4_digest 44 47 (.invokevirtual 227) := ⟨by decide +kernel, rfl⟩
theorem e_X4_digest_47 : z_D 1 M_X4_digest 47 48 (.lstore_n 1) := ⟨by decide +kernel, rfl⟩
theorem e_X4_digest_48 : z_D 1 M_X4_digest 48 49 (.iconst 4) := ⟨by decide +kernel, rfl⟩
theorem e_X4_digest_49 : z_D 1 M_X4_digest 49 50 (.istore_n 3) := ⟨by decide +kernel, rfl⟩
theorem e_X4_digest_50 : z_D 1 M_X4_digest 50 51 (.iload_n 3) := ⟨by decide +kernel, rfl⟩
theorem e_X4_digest_51 : z_D 2 M_X4_digest 51 53 (.bipush 20) := ⟨by decide +kernel, rfl⟩
theorem e_X4_digest_53 : z_J M_X4_digest 53 56 72 (19) (.if_icmp .gt 19) := ⟨by decide +kernel, rfl, rfl⟩
theorem e_X4_digest_56 : z_D 1 M_X4_digest 56 57 (.lload_n 1) := ⟨by decide +kernel, rfl⟩
theorem e_X4_digest_57 : z_D 1 M_X4_digest 57 58 (.aload_n 0) := ⟨by decide +kernel, rfl⟩
theorem e_X4_digest_58 : z_D 1 M_X4_digest 58 59 (.iload_n 3) := ⟨by decide +kernel, rfl⟩
theorem e_X4_digest_59 : z_D 3 M_X4_digest 59 62 (.invokevirtual 230) := ⟨by decide +kernel, rfl⟩
theorem e_X4_digest_62 : z_D 3 M_X4_digest 62 65 (.invokestatic 213) := ⟨by decide +kernel, rfl⟩
theorem e_X4_digest_65 : z_D 1 M_X4_digest 65 66 (.lstore_n 1) := ⟨by decide +kernel, rfl⟩
theorem e_X4_digest_66 : z_D 3 M_X4_digest 66 69 (.iinc 3 1) := ⟨by decide +kernel, rfl⟩
theorem e_X4_digest_69 : z_J M_X4_digest 69 72 50 (-19) (.goto (-19)) := ⟨by decide +kernel, rfl, rfl⟩
theorem e_X4_digest_72 : z_D 1 M_X4_digest 72 73 (.lload_n 1) := ⟨by decide +kernel, rfl⟩
theorem e_X4_digest_73 : z_D 1 M_X4_digest 73 74 (.lreturn) := ⟨by decide +kernel, rfl⟩
theorem e_X4_mix_0 : z_D 3 M_X4_mix 0 3 (.ldc2_w 233) := ⟨by decide +kernel, rfl⟩
theorem e_X4_mix_3 : z_D 1 M_X4_mix 3 4 (.lload_n 0) := ⟨by decide +kernel, rfl⟩
theorem e_X4_mix_4 : z_D 1 M_X4_mix 4 5 (.lmul) := ⟨by decide +kernel, rfl⟩
theorem e_X4_mix_5 : z_D 1 M_X4_mix 5 6 (.iload_n 2) := ⟨by decide +kernel, rfl⟩
theorem e_X4_mix_6 : z_D 1 M_X4_mix 6 7 (.i2l) := ⟨by decide +kernel, rfl⟩
theorem e_X4_mix_7 : z_D 1 M_X4_mix 7 8 (.ladd) := ⟨by decide +kernel, rfl⟩
theorem e_X4_mix_8 : z_D 1 M_X4_mix 8 9 (.lreturn) := ⟨by decide +kernel, rfl⟩
theorem e_X4_mixRows_0 : z_D 1 M_X4_mixRows 0 1 (.lload_n 1) := ⟨by decide +kernel, rfl⟩
theorem e_X4_mixRows_1 : z_D 1 M_X4_mixRows 1 2 (.lstore_n 3) := ⟨by decide +kernel, rfl⟩
theorem e_X4_mixRows_2 : z_D 1 M_X4_mixRows 2 3 (.aload_n 0) := ⟨by decide +kernel, rfl⟩
theorem e_X4_mixRows_3 : z_D 3 M_X4_mixRows 3 6 (.getfield 12) := ⟨by decide +kernel, rfl⟩
theorem e_X4_mixRows_6 : z_D 3 M_X4_mixRows 6 9 (.getfield 49) := ⟨by decide +kernel, rfl⟩
theorem e_X4_mixRows_9 : z_D 1 M_X4_mixRows 9 10 (.ineg) := ⟨by decide +kernel, rfl⟩
theorem e_X4_mixRows_10 : z_D 2 M_X4_mixRows 10 12 (.istore 5) := ⟨by decide +kernel, rfl⟩
theorem e_X4_mixRows_12 : z_D 2 M_X4_mixRows 12 14 (.iload 5) := ⟨by decide +kernel, rfl⟩
theorem e_X4_mixRows_14 : z_D 1 M_X4_mixRows 14 15 (.aload_n 0) := ⟨by decide +kernel, rfl⟩
theorem e_X4_mixRows_15 : z_D 3 M_X4_mixRows 15 18 (.getfield 12) := ⟨by decide +kernel, rfl⟩
theorem e_X4_mixRows_18 : z_D 3 M_X4_mixRows 18 21 (.getfield 75) := ⟨by decide +kernel, rfl⟩
theorem e_X4_mixRows_21 : z_J M_X4_mixRows 21 24 58 (37) (.if_icmp .ge 37) := ⟨by decide +kernel, rfl, rfl⟩
theorem e_X4_mixRows_24 : z_D 1 M_X4_mixRows 24 25 (.iconst 0) := ⟨by decide +kernel, rfl⟩
theorem e_X4_mixRows_25 : z_D 2 M_X4_mixRows 25 27 (.istore 6) := ⟨by decide +kernel, rfl⟩
theorem e_X4_mixRows_27 : z_D 2 M_X4_mixRows 27 29 (.iload 6) := ⟨by decide +kernel, rfl⟩
theorem e_X4_mixRows_29 : z_D 1 M_X4_mixRows 29 30 (.iconst 3) := ⟨by decide +kernel, rfl⟩
theorem e_X4_mixRows_30 : z_J M_X4_mixRows 30 33 52 (22) (.if_icmp .gt 22) := ⟨by decide +kernel, rfl, rfl⟩
theorem e_X4_mixRows_33 : z_D 1 M_X4_mixRows 33 34 (.lload_n 3) := ⟨by decide +kernel, rfl⟩
theorem e_X4_mixRows_34 : z_D 1 M_X4_mixRows 34 35 (.aload_n 0) := ⟨by decide +kernel, rfl⟩
theorem e_X4_mixRows_35 : z_D 2 M_X4_mixRows 35 37 (.iload 5) := ⟨by decide +kernel, rfl⟩
theorem e_X4_mixRows_37 : z_D 2 M_X4_mixRows 37 39 (.iload 6) := ⟨by decide +kernel, rfl⟩
theorem e_X4_mixRows_39 : z_D 3 M_X4_mixRows 39 42 (.invokevirtual 235) := ⟨by decide +kernel, rfl⟩
theorem e_X4_mixRows_42 : z_D 3 M_X4_mixRows 42 45 (.invokestatic 213) := ⟨by decide +kernel, rfl⟩
theorem e_X4_mixRows_45 : z_D 1 M_X4_mixRows 45 46 (.lstore_n 3) := ⟨by decide +kernel, rfl⟩
theorem e_X4_mixRows_46 : z_D 3 M_X4_mixRows 46 49 (.iinc 6 1) := ⟨by decide +kernel, rfl⟩
theorem e_X4_mixRows_49 : z_J M_X4_mixRows 49 52 27 (-22) (.goto (-22)) := ⟨by decide +kernel, rfl, rfl⟩
theorem e_X4_mixRows_52 : z_D 3 M_X4_mixRows 52 55 (.iinc 5 1) := ⟨by decide +kernel, rfl⟩
theorem e_X4_mixRows_55 : z_J M_X4_mixRows 55 58 12 (-43) (.goto (-43)) := ⟨by decide +kernel, rfl, rfl⟩
theorem e_X4_mixRows_58 : z_D 1 M_X4_mixRows 58 59 (.lload_n 3) := ⟨by decide +kernel, rfl⟩
theorem e_X4_mixRows_59 : z_D 1 M_X4_mixRows 59 60 (.lreturn) := ⟨by decide +kernel, rfl⟩
theorem e_X4_mixCells_0 : z_D 1 M_X4_mixCells 0 1 (.lload_n 1) := ⟨by decide +kernel, rfl⟩
theorem e_X4_mixCells_1 : z_D 1 M_X4_mixCells 1 2 (.lstore_n 3) := ⟨by decide +kernel, rfl⟩
theorem e_X4_mixCells_2 : z_D 1 M_X4_mixCells 2 3 (.iconst 0) := ⟨by decide +kernel, rfl⟩
theorem e_X4_mixCells_3 : z_D 2 M_X4_mixCells 3 5 (.istore 5) := ⟨by decide +kernel, rfl⟩
theorem e_X4_mixCells_5 : z_D 2 M_X4_mixCells 5 7 (.iload 5) := ⟨by decide +kernel, rfl⟩
theorem e_X4_mixCells_7 : z_D 1 M_X4_mixCells 7 8 (.aload_n 0) := ⟨by decide +kernel, rfl⟩
theorem e_X4_mixCells_8 : z_D 3 M_X4_mixCells 8 11 (.getfield 12) := ⟨by decide +kernel, rfl⟩
theorem e_X4_mixCells_11 : z_D 3 M_X4_mixCells 11 14 (.getfield 75) := ⟨by decide +kernel, rfl⟩
theorem e_X4_mixCells_14 : z_J M_X4_mixCells 14 17 57 (43) (.if_icmp .ge 43) := ⟨by decide +kernel, rfl, rfl⟩
theorem e_X4_mixCells_17 : z_D 1 M_X4_mixCells 17 18 (.iconst 0) := ⟨by decide +kernel, rfl⟩
theorem e_X4_mixCells_18 : z_D 2 M_X4_mixCells 18 20 (.istore 6) := ⟨by decide +kernel, rfl⟩
theorem e_X4_mixCells_20 : z_D 2 M_X4_mixCells 20 22 (.iload 6) := ⟨by decide +kernel, rfl⟩
theorem e_X4_mixCells_22 : z_D 1 M_X4_mixCells 22 23 (.aload_n 0) := ⟨by decide +kernel, rfl⟩
theorem e_X4_mixCells_23 : z_D 3 M_X4_mixCells 23 26 (.getfield 12) := ⟨by decide +kernel, rfl⟩
theorem e_X4_mixCells_26 : z_D 3 M_X4_mixCells 26 29 (.getfield 56) := ⟨by decide +kernel, rfl⟩
theorem e_X4_mixCells_29 : z_J M_X4_mixCells 29 32 51 (22) (.if_icmp .ge 22) := ⟨by decide +kernel, rfl, rfl⟩
theorem e_X4_mixCells_32 : z_D 1 M_X4_mixCells 32 33 (.lload_n 3) := ⟨by decide +kernel, rfl⟩
theorem e_X4_mixCells_33 : z_D 1 M_X4_mixCells 33 34 (.aload_n 0) := ⟨by decide +kernel, rfl⟩
theorem e_X4_mixCells_34 : z_D 2 M_X4_mixCells 34 36 (.iload 5) := ⟨by decide +kernel, rfl⟩
theorem e_X4_mixCells_36 : z_D 2 M_X4_mixCells 36 38 (.iload 6) := ⟨by decide +kernel, rfl⟩
theorem e_X4_mixCells_38 : z_D 3 M_X4_mixCells 38 41 (.invokevirtual 237) := ⟨by decide +kernel, rfl⟩
theorem e_X4_mixCells_41 : z_D 3 M_X4_mixCells 41 44 (.invokestatic 213) := ⟨by decide +kernel, rfl⟩
theorem e_X4_mixCells_44 : z_D 1 M_X4_mixCells 44 45 (.lstore_n 3) := ⟨by decide +kernel, rfl⟩
theorem e_X4_mixCells_45 : z_D 3 M_X4_mixCells 45 48 (.iinc 6 1) := ⟨by decide +kernel, rfl⟩
theorem e_X4_mixCells_48 : z_J M_X4_mixCells 48 51 20 (-28) (.goto (-28)) := ⟨by decide +kernel, rfl, rfl⟩
theorem e_X4_mixCells_51 : z_D 3 M_X4_mixCells 51 54 (.iinc 5 1) := ⟨by decide +kernel, rfl⟩
theorem e_X4_mixCells_54 : z_J M_X4_mixCells 54 57 5 (-49) (.goto (-49)) := ⟨by decide +kernel, rfl, rfl⟩
theorem e_X4_mixCells_57 : z_D 1 M_X4_mixCells 57 58 (.lload_n 3) := ⟨by decide +kernel, rfl⟩
theorem e_X4_mixCells_58 : z_D 1 M_X4_mixCells 58 59 (.lreturn) := ⟨by decide +kernel, rfl⟩
theorem e_X4_mixLines_0 : z_D 1 M_X4_mixLines 0 1 (.lload_n 1) := ⟨by decide +kernel, rfl⟩
theorem e_X4_mixLines_1 : z_D 1 M_X4_mixLines 1 2 (.lstore_n 3) := ⟨by decide +kernel, rfl⟩
theorem e_X4_mixLines_2 : z_D 1 M_X4_mixLines 2 3 (.aload_n 0) := ⟨by decide +kernel, rfl⟩
theorem e_X4_mixLines_3 : z_D 3 M_X4_mixLines 3 6 (.getfield 12) := ⟨by decide +kernel, rfl⟩
theorem e_X4_mixLines_6 : z_D 3 M_X4_mixLines 6 9 (.invokevirtual 194) := ⟨by decide +kernel, rfl⟩
theorem e_X4_mixLines_9 : z_D 2 M_X4_mixLines 9 11 (.istore 5) := ⟨by decide +kernel, rfl⟩
theorem e_X4_mixLines_11 : z_D 1 M_X4_mixLines 11 12 (.iconst 0) := ⟨by decide +kernel, rfl⟩
theorem e_X4_mixLines_12 : z_D 2 M_X4_mixLines 12 14 (.istore 6) := ⟨by decide +kernel, rfl⟩
theorem e_X4_mixLines_14 : z_D 2 M_X4_mixLines 14 16 (.iload 6) := ⟨by decide +kernel, rfl⟩
theorem e_X4_mixLines_16 : z_D 2 M_X4_mixLines 16 18 (.iload 5) := ⟨by decide +kernel, rfl⟩
theorem e_X4_mixLines_18 : z_J M_X4_mixLines 18 21 134 (116) (.if_icmp .ge 116) := ⟨by decide +kernel, rfl, rfl⟩
theorem e_X4_mixLines_21 : z_D 1 M_X4_mixLines 21 22 (.iconst 0) := ⟨by decide +kernel, rfl⟩
theorem e_X4_mixLines_22 : z_D 2 M_X4_mixLines 22 24 (.istore 7) := ⟨by decide +kernel, rfl⟩
theorem e_X4_mixLines_24 : z_D 2 M_X4_mixLines 24 26 (.iload 7) := ⟨by decide +kernel, rfl⟩
theorem e_X4_mixLines_26 : z_D 1 M_X4_mixLines 26 27 (.iconst 2) := ⟨by decide +kernel, rfl⟩
theorem e_X4_mixLines_27 : z_J M_X4_mixLines 27 30 49 (22) (.if_icmp .gt 22) := ⟨by decide +kernel, rfl, rfl⟩
theorem e_X4_mixLines_30 : z_D 1 M_X4_mixLines 30 31 (.lload_n 3) := ⟨by decide +kernel, rfl⟩
theorem e_X4_mixLines_31 : z_D 1 M_X4_mixLines 31 32 (.aload_n 0) := ⟨by decide +kernel, rfl⟩
theorem e_X4_mixLines_32 : z_D 2 M_X4_mixLines 32 34 (.iload 6) := ⟨by decide +kernel, rfl⟩
theorem e_X4_mixLines_34 : z_D 2 M_X4_mixLines 34 36 (.iload 7) := ⟨by decide +kernel, rfl⟩
theorem e_X4_mixLines_36 : z_D 3 M_X4_mixLines 36 39 (.invokevirtual 240) := ⟨by decide +kernel, rfl⟩
theorem e_X4_mixLines_39 : z_D 3 M_X4_mixLines 39 42 (.invokestatic 213) := ⟨by decide +kernel, rfl⟩
theorem e_X4_mixLines_42 : z_D 1 M_X4_mixLines 42 43 (.lstore_n 3) := ⟨by decide +kernel, rfl⟩
theorem e_X4_mixLines_43 : z_D 3 M_X4_mixLines 43 46 (.iinc 7 1) := ⟨by decide +kernel, rfl⟩
theorem e_X4_mixLines_46 : z_J M_X4_mixLines 46 49 24 (-22) (.goto (-22)) := ⟨by decide +kernel, rfl, rfl⟩
theorem e_X4_mixLines_49 : z_D 1 M_X4_mixLines 49 50 (.aload_n 0) := ⟨by decide +kernel, rfl⟩
theorem e_X4_mixLines_50 : z_D 3 M_X4_mixLines 50 53 (.getfield 12) := ⟨by decide +kernel, rfl⟩
theorem e_X4_mixLines_53 : z_D 2 M_X4_mixLines 53 55 (.iload 6) := ⟨by decide +kernel, rfl⟩
theorem e_X4_mixLines_55 : z_D 3 M_X4_mixLines 55 58 (.invokevirtual 163) := ⟨by decide +kernel, rfl⟩
theorem e_X4_mixLines_58 : z_D 2 M_X4_mixLines 58 60 (.istore 7) := ⟨by decide +kernel, rfl⟩
theorem e_X4_mixLines_60 : z_D 1 M_X4_mixLines 60 61 (.aload_n 0) := ⟨by decide +kernel, rfl⟩
theorem e_X4_mixLines_61 : z_D 3 M_X4_mixLines 61 64 (.getfield 23) := ⟨by decide +kernel, rfl⟩
theorem e_X4_mixLines_64 : z_D 1 M_X4_mixLines 64 65 (.aload_n 0) := ⟨by decide +kernel, rfl⟩
theorem e_X4_mixLines_65 : z_D 3 M_X4_mixLines 65 68 (.getfield 12) := ⟨by decide +kernel, rfl⟩
theorem e_X4_mixLines_68 : z_D 2 M_X4_mixLines 68 70 (.iload 7) := ⟨by decide +kernel, rfl⟩
theorem e_X4_mixLines_70 : z_D 1 M_X4_mixLines 70 71 (.aload_n 0) := ⟨by decide +kernel, rfl⟩
theorem e_X4_mixLines_71 : z_D 3 M_X4_mixLines 71 74 (.getfield 12) := ⟨by decide +kernel, rfl⟩
theorem e_X4_mixLines_74 : z_D 2 M_X4_mixLines 74 76 (.iload 7) := ⟨by decide +kernel, rfl⟩
theorem e_X4_mixLines_76 : z_D 3 M_X4_mixLines 76 79 (.invokevirtual 166) := ⟨by decide +kernel, rfl⟩
theorem e_X4_mixLines_79 : z_D 1 M_X4_mixLines 79 80 (.aload_n 0) := ⟨by decide +kernel, rfl⟩
theorem e_X4_mixLines_80 : z_D 3 M_X4_mixLines 80 83 (.getfield 12) := ⟨by decide +kernel, rfl⟩
theorem e_X4_mixLines_83 : z_D 3 M_X4_mixLines 83 86 (.getfield 56) := ⟨by decide +kernel, rfl⟩
theorem e_X4_mixLines_86 : z_D 3 M_X4_mixLines 86 89 (.invokevirtual 243) := ⟨by decide +kernel, rfl⟩
theorem e_X4_mixLines_89 : z_D 1 M_X4_mixLines 89 90 (.iconst 0) := ⟨by decide +kernel, rfl⟩
theorem e_X4_mixLines_90 : z_D 2 M_X4_mixLines 90 92 (.istore 8) := ⟨by decide +kernel, rfl⟩
theorem e_X4_mixLines_92 : z_D 2 M_X4_mixLines 92 94 (.iload 8) := ⟨by decide +kernel, rfl⟩
theorem e_X4_mixLines_94 : z_D 3 M_X4_mixLines 94 97 (.sipush 640) := ⟨by decide +kernel, rfl⟩
theorem e_X4_mixLines_97 : z_J M_X4_mixLines 97 100 128 (31) (.if_icmp .ge 31) := ⟨by decide +kernel, rfl, rfl⟩
theorem e_X4_mixLines_100 : z_D 1 M_X4_mixLines 100 101 (.aload_n 0) := ⟨by decide +kernel, rfl⟩
theorem e_X4_mixLines_101 : z_D 3 M_X4_mixLines 101 104 (.getfield 23) := ⟨by decide +kernel, rfl⟩
theorem e_X4_mixLines_104 : z_D 3 M_X4_mixLines 104 107 (.invokevirtual 247) := ⟨by decide +kernel, rfl⟩
theorem e_X4_mixLines_107 : z_J M_X4_mixLines 107 110 128 (21) (.ifCond .eq 21) := ⟨by decide +kernel, rfl, rfl⟩
theorem e_X4_mixLines_110 : z_D 1 M_X4_mixLines 110 111 (.lload_n 3) := ⟨by decide +kernel, rfl⟩
theorem e_X4_mixLines_111 : z_D 1 M_X4_mixLines 111 112 (.aload_n 0) := ⟨by decide +kernel, rfl⟩
theorem e_X4_mixLines_112 : z_D 3 M_X4_mixLines 112 115 (.getfield 23) := ⟨by decide +kernel, rfl⟩
theorem e_X4_mixLines_115 : z_D 3 M_X4_mixLines 115 118 (.getfield 250) := ⟨by decide +kernel, rfl⟩
theorem e_X4_mixLines_118 : z_D 3 M_X4_mixLines 118 121 (.invokestatic 213) := ⟨by decide +kernel, rfl⟩
theorem e_X4_mixLines_121 : z_D 1 M_X4_mixLines 121 122 (.lstore_n 3) := ⟨by decide +kernel, rfl⟩
theorem e_X4_mixLines_122 : z_D 3 M_X4_mixLines 122 125 (.iinc 8 1) := ⟨by decide +kernel, rfl⟩
theorem e_X4_mixLines_125 : z_J M_X4_mixLines 125 128 92 (-33) (.goto (-33)) := ⟨by decide +kernel, rfl, rfl⟩
theorem e_X4_mixLines_128 : z_D 3 M_X4_mixLines 128 131 (.iinc 6 1) := ⟨by decide +kernel, rfl⟩
theorem e_X4_mixLines_131 : z_J M_X4_mixLines 131 134 14 (-117) (.goto (-117)) := ⟨by decide +kernel, rfl, rfl⟩
theorem e_X4_mixLines_134 : z_D 1 M_X4_mixLines 134 135 (.lload_n 3) := ⟨by decide +kernel, rfl⟩
theorem e_X4_mixLines_135 : z_D 1 M_X4_mixLines 135 136 (.lreturn) := ⟨by decide +kernel, rfl⟩
theorem e_X4_mixCursors_0 : z_D 1 M_X4_mixCursors 0 1 (.lload_n 1) := ⟨by decide +kernel, rfl⟩
theorem e_X4_mixCursors_1 : z_D 1 M_X4_mixCursors 1 2 (.lstore_n 3) := ⟨by decide +kernel, rfl⟩
theorem e_X4_mixCursors_2 : z_D 1 M_X4_mixCursors 2 3 (.iconst 0) := ⟨by decide +kernel, rfl⟩
theorem e_X4_mixCursors_3 : z_D 2 M_X4_mixCursors 3 5 (.istore 5) := ⟨by decide +kernel, rfl⟩
theorem e_X4_mixCursors_5 : z_D 2 M_X4_mixCursors 5 7 (.iload 5) := ⟨by decide +kernel, rfl⟩
theorem e_X4_mixCursors_7 : z_D 1 M_X4_mixCursors 7 8 (.aload_n 0) := ⟨by decide +kernel, rfl⟩
theorem e_X4_mixCursors_8 : z_D 3 M_X4_mixCursors 8 11 (.getfield 12) := ⟨by decide +kernel, rfl⟩
theorem e_X4_mixCursors_11 : z_D 3 M_X4_mixCursors 11 14 (.getfield 129) := ⟨by decide +kernel, rfl⟩
theorem e_X4_mixCursors_14 : z_J M_X4_mixCursors 14 17 51 (37) (.if_icmp .gt 37) := ⟨by decide +kernel, rfl, rfl⟩
theorem e_X4_mixCursors_17 : z_D 1 M_X4_mixCursors 17 18 (.iconst 0) := ⟨by decide +kernel, rfl⟩
theorem e_X4_mixCursors_18 : z_D 2 M_X4_mixCursors 18 20 (.istore 6) := ⟨by decide +kernel, rfl⟩
theorem e_X4_mixCursors_20 : z_D 2 M_X4_mixCursors 20 22 (.iload 6) := ⟨by decide +kernel, rfl⟩
theorem e_X4_mixCursors_22 : z_D 1 M_X4_mixCursors 22 23 (.iconst 3) := ⟨by decide +kernel, rfl⟩
theorem e_X4_mixCursors_23 : z_J M_X4_mixCursors 23 26 45 (22) (.if_icmp .gt 22) := ⟨by decide +kernel, rfl, rfl⟩
theorem e_X4_mixCursors_26 : z_D 1 M_X4_mixCursors 26 27 (.lload_n 3) := ⟨by decide +kernel, rfl⟩
theorem e_X4_mixCursors_27 : z_D 1 M_X4_mixCursors 27 28 (.aload_n 0) := ⟨by decide +kernel, rfl⟩
theorem e_X4_mixCursors_28 : z_D 2 M_X4_mixCursors 28 30 (.iload 5) := ⟨by decide +kernel, rfl⟩
theorem e_X4_mixCursors_30 : z_D 2 M_X4_mixCursors 30 32 (.iload 6) := ⟨by decide +kernel, rfl⟩
theorem e_X4_mixCursors_32 : z_D 3 M_X4_mixCursors 32 35 (.invokevirtual 253) := ⟨by decide +kernel, rfl⟩
theorem e_X4_mixCursors_35 : z_D 3 M_X4_mixCursors 35 38 (.invokestatic 213) := ⟨by decide +kernel, rfl⟩
theorem e_X4_mixCursors_38 : z_D 1 M_X4_mixCursors 38 39 (.lstore_n 3) := ⟨by decide +kernel, rfl⟩
theorem e_X4_mixCursors_39 : z_D 3 M_X4_mixCursors 39 42 (.iinc 6 1) := ⟨by decide +kernel, rfl⟩
theorem e_X4_mixCursors_42 : z_J M_X4_mixCursors 42 45 20 (-22) (.goto (-22)) := ⟨by decide +kernel, rfl, rfl⟩
theorem e_X4_mixCursors_45 : z_D 3 M_X4_mixCursors 45 48 (.iinc 5 1) := ⟨by decide +kernel, rfl⟩
theorem e_X4_mixCursors_48 : z_J M_X4_mixCursors 48 51 5 (-43) (.goto (-43)) := ⟨by decide +kernel, rfl, rfl⟩
theorem e_X4_mixCursors_51 : z_D 1 M_X4_mixCursors 51 52 (.lload_n 3) := ⟨by decide +kernel, rfl⟩
theorem e_X4_mixCursors_52 : z_D 1 M_X4_mixCursors 52 53 (.lreturn) := ⟨by decide +kernel, rfl⟩
theorem e_X4_isControl_0 : z_D 1 M_X4_isControl 0 1 (.iload_n 0) := ⟨by decide +kernel, rfl⟩
theorem e_X4_isControl_1 : z_D 2 M_X4_isControl 1 3 (.bipush 8) := ⟨by decide +kernel, rfl⟩
theorem e_X4_isControl_3 : z_J M_X4_isControl 3 6 24 (21) (.if_icmp .eq 21) := ⟨by decide +kernel, rfl, rfl⟩
theorem e_X4_isControl_6 : z_D 1 M_X4_isControl 6 7 (.iload_n 0) := ⟨by decide +kernel, rfl⟩
theorem e_X4_isControl_7 : z_D 2 M_X4_isControl 7 9 (.bipush 9) := ⟨by decide +kernel, rfl⟩
theorem e_X4_isControl_9 : z_J M_X4_isControl 9 12 24 (15) (.if_icmp .eq 15) := ⟨by decide +kernel, rfl, rfl⟩
theorem e_X4_isControl_12 : z_D 1 M_X4_isControl 12 13 (.iload_n 0) := ⟨by decide +kernel, rfl⟩
theorem e_X4_isControl_13 : z_D 2 M_X4_isControl 13 15 (.bipush 10) := ⟨by decide +kernel, rfl⟩
theorem e_X4_isControl_15 : z_J M_X4_isControl 15 18 24 (9) (.if_icmp .eq 9) := ⟨by decide +kernel, rfl, rfl⟩
theorem e_X4_isControl_18 : z_D 1 M_X4_isControl 18 19 (.iload_n 0) := ⟨by decide +kernel, rfl⟩
theorem e_X4_isControl_19 : z_D 2 M_X4_isControl 19 21 (.bipush 13) := ⟨by decide +kernel, rfl⟩
theorem e_X4_isControl_21 : z_J M_X4_isControl 21 24 28 (7) (.if_icmp .ne 7) := ⟨by decide +kernel, rfl, rfl⟩
theorem e_X4_isControl_24 : z_D 1 M_X4_isControl 24 25 (.iconst 1) := ⟨by decide +kernel, rfl⟩
theorem e_X4_isControl_25 : z_J M_X4_isControl 25 28 29 (4) (.goto 4) := ⟨by decide +kernel, rfl, rfl⟩
theorem e_X4_isControl_28 : z_D 1 M_X4_isControl 28 29 (.iconst 0) := ⟨by decide +kernel, rfl⟩
theorem e_X4_isControl_29 : z_D 1 M_X4_isControl 29 30 (.ireturn) := ⟨by decide +kernel, rfl⟩
theorem e_X4_isWidth_0 : z_D 1 M_X4_isWidth 0 1 (.iload_n 0) := ⟨by decide +kernel, rfl⟩
theorem e_X4_isWidth_1 : z_D 1 M_X4_isWidth 1 2 (.iconst 4) := ⟨by decide +kernel, rfl⟩
theorem e_X4_isWidth_2 : z_J M_X4_isWidth 2 5 15 (13) (.if_icmp .lt 13) := ⟨by decide +kernel, rfl, rfl⟩
theorem e_X4_isWidth_5 : z_D 1 M_X4_isWidth 5 6 (.iload_n 0) := ⟨by decide +kernel, rfl⟩
theorem e_X4_isWidth_6 : z_D 2 M_X4_isWidth 6 8 (.bipush 20) := ⟨by decide +kernel, rfl⟩
theorem e_X4_isWidth_8 : z_J M_X4_isWidth 8 11 15 (7) (.if_icmp .gt 7) := ⟨by decide +kernel, rfl, rfl⟩
theorem e_X4_isWidth_11 : z_D 1 M_X4_isWidth 11 12 (.iconst 1) := ⟨by decide +kernel, rfl⟩
theorem e_X4_isWidth_12 : z_J M_X4_isWidth 12 15 16 (4) (.goto 4) := ⟨by decide +kernel, rfl, rfl⟩
theorem e_X4_isWidth_15 : z_D 1 M_X4_isWidth 15 16 (.iconst 0) := ⟨by decide +kernel, rfl⟩
theorem e_X4_isWidth_16 : z_D 1 M_X4_isWidth 16 17 (.ireturn) := ⟨by decide +kernel, rfl⟩
theorem e_X4_sizeOf_0 : z_D 1 M_X4_sizeOf 0 1 (.iload_n 0) := ⟨by decide +kernel, rfl⟩
theorem e_X4_sizeOf_1 : z_D 2 M_X4_sizeOf 1 3 (.bipush 65) := ⟨by decide +kernel, rfl⟩
theorem e_X4_sizeOf_3 : z_J M_X4_sizeOf 3 6 16 (13) (.if_icmp .lt 13) := ⟨by decide +kernel, rfl, rfl⟩
theorem e_X4_sizeOf_6 : z_D 1 M_X4_sizeOf 6 7 (.iload_n 0) := ⟨by decide +kernel, rfl⟩
theorem e_X4_sizeOf_7 : z_D 2 M_X4_sizeOf 7 9 (.bipush 90) := ⟨by decide +kernel, rfl⟩
theorem e_X4_sizeOf_9 : z_J M_X4_sizeOf 9 12 16 (7) (.if_icmp .gt 7) := ⟨by decide +kernel, rfl, rfl⟩
theorem e_X4_sizeOf_12 : z_D 1 M_X4_sizeOf 12 13 (.iconst 2) := ⟨by decide +kernel, rfl⟩
theorem e_X4_sizeOf_13 : z_J M_X4_sizeOf 13 16 17 (4) (.goto 4) := ⟨by decide +kernel, rfl, rfl⟩
theorem e_X4_sizeOf_16 : z_D 1 M_X4_sizeOf 16 17 (.iconst 1) := ⟨by decide +kernel, rfl⟩
theorem e_X4_sizeOf_17 : z_D 1 M_X4_sizeOf 17 18 (.ireturn) := ⟨by decide +kernel, rfl⟩
theorem e_X4_obey_0 : z_D 1 M_X4_obey 0 1 (.aload_n 0) := ⟨by decide +kernel, rfl⟩
theorem e_X4_obey_1 : z_D 3 M_X4_obey 1 4 (.getfield 12) := ⟨by decide +kernel, rfl⟩
theorem e_X4_obey_4 : z_D 3 M_X4_obey 4 7 (.getfield 59) := ⟨by decide +kernel, rfl⟩
theorem e_X4_obey_7 : z_D 1 M_X4_obey 7 8 (.astore_n 2) := ⟨by decide +kernel, rfl⟩
theorem e_X4_obey_8 : z_D 1 M_X4_obey 8 9 (.iload_n 1) := ⟨by decide +kernel, rfl⟩
theorem e_X4_obey_9 : z_D 27 M_X4_obey 9 36 (.tableswitch 84 8 10 #[27, 44, 73]) := ⟨by decide +kernel, rfl⟩
theorem e_X4_obey_36 : z_D 1 M_X4_obey 36 37 (.aload_n 2) := ⟨by decide +kernel, rfl⟩
theorem e_X4_obey_37 : z_D 1 M_X4_obey 37 38 (.iconst 0) := ⟨by decide +kernel, rfl⟩
theorem e_X4_obey_38 : z_D 1 M_X4_obey 38 39 (.aload_n 2) := ⟨by decide +kernel, rfl⟩
theorem e_X4_obey_39 : z_D 3 M_X4_obey 39 42 (.getfield 68) := ⟨by decide +kernel, rfl⟩
theorem e_X4_obey_42 : z_D 1 M_X4_obey 42 43 (.iconst 1) := ⟨by decide +kernel, rfl⟩
theorem e_X4_obey_43 : z_D 1 M_X4_obey 43 44 (.isub) := ⟨by decide +kernel, rfl⟩
theorem e_X4_obey_44 : z_D 3 M_X4_obey 44 47 (.invokestatic 172) := ⟨by decide +kernel, rfl⟩
theorem e_X4_obey_47 : z_D 3 M_X4_obey 47 50 (.putfield 68) := ⟨by decide +kernel, rfl⟩
theorem e_X4_obey_50 : z_J M_X4_obey 50 53 98 (48) (.goto 48) := ⟨by decide +kernel, rfl, rfl⟩
theorem e_X4_obey_53 : z_D 1 M_X4_obey 53 54 (.aload_n 2) := ⟨by decide +kernel, rfl⟩
theorem e_X4_obey_54 : z_D 1 M_X4_obey 54 55 (.aload_n 0) := ⟨by decide +kernel, rfl⟩
theorem e_X4_obey_55 : z_D 3 M_X4_obey 55 58 (.getfield 12) := ⟨by decide +kernel, rfl⟩
theorem e_X4_obey_58 : z_D 3 M_X4_obey 58 61 (.getfield 56) := ⟨by decide +kernel, rfl⟩
theorem e_X4_obey_61 : z_D 1 M_X4_obey 61 62 (.iconst 1) := ⟨by decide +kernel, rfl⟩
theorem e_X4_obey_62 : z_D 1 M_X4_obey 62 63 (.isub) := ⟨by decide +kernel, rfl⟩
theorem e_X4_obey_63 : z_D 1 M_X4_obey 63 64 (.aload_n 2) := ⟨by decide +kernel, rfl⟩
theorem e_X4_obey_64 : z_D 3 M_X4_obey 64 67 (.getfield 68) := ⟨by decide +kernel, rfl⟩
theorem e_X4_obey_67 : z_D 1 M_X4_obey 67 68 (.iconst 4) := ⟨by decide +kernel, rfl⟩
theorem e_X4_obey_68 : z_D 1 M_X4_obey 68 69 (.idiv) := ⟨by decide +kernel, rfl⟩
theorem e_X4_obey_69 : z_D 1 M_X4_obey 69 70 (.iconst 1) := ⟨by decide +kernel, rfl⟩
theorem e_X4_obey_70 : z_D 1 M_X4_obey 70 71 (.iadd) := ⟨by decide +kernel, rfl⟩
theorem e_X4_obey_71 : z_D 1 M_X4_obey 71 72 (.iconst 4) := ⟨by decide +kernel, rfl⟩
theorem e_X4_obey_72 : z_D 1 M_X4_obey 72 73 (.imul) := ⟨by decide +kernel, rfl⟩
theorem e_X4_obey_73 : z_D 3 M_X4_obey 73 76 (.invokestatic 116) := ⟨by decide +kernel, rfl⟩
theorem e_X4_obey_76 : z_D 3 M_X4_obey 76 79 (.putfield 68) := ⟨by decide +kernel, rfl⟩
theorem e_X4_obey_79 : z_J M_X4_obey 79 82 98 (19) (.goto 19) := ⟨by decide +kernel, rfl, rfl⟩
theorem e_X4_obey_82 : z_D 1 M_X4_obey 82 83 (.aload_n 0) := ⟨by decide +kernel, rfl⟩
theorem e_X4_obey_83 : z_D 3 M_X4_obey 83 86 (.getfield 12) := ⟨by decide +kernel, rfl⟩
theorem e_X4_obey_86 : z_D 3 M_X4_obey 86 89 (.invokevirtual 255) := ⟨by decide +kernel, rfl⟩
theorem e_X4_obey_89 : z_D 1 M_X4_obey 89 90 (.pop) := ⟨by decide +kernel, rfl⟩
theorem e_X4_obey_90 : z_J M_X4_obey 90 93 98 (8) (.goto 8) := ⟨by decide +kernel, rfl, rfl⟩
theorem e_X4_obey_93 : z_D 1 M_X4_obey 93 94 (.aload_n 2) := ⟨by decide +kernel, rfl⟩
theorem e_X4_obey_94 : z_D 1 M_X4_obey 94 95 (.iconst 0) := ⟨by decide +kernel, rfl⟩
theorem e_X4_obey_95 : z_D 3 M_X4_obey 95 98 (.putfield 68) := ⟨by decide +kernel, rfl⟩
theorem e_X4_obey_98 : z_D 1 M_X4_obey 98 99 (.aload_n 2) := ⟨by decide +kernel, rfl⟩
theorem e_X4_obey_99 : z_D 1 M_X4_obey 99 100 (.iconst 0) := ⟨by decide +kernel, rfl⟩
theorem e_X4_obey_100 : z_D 3 M_X4_obey 100 103 (.putfield 91) := ⟨by decide +kernel, rfl⟩
theorem e_X4_obey_103 : z_D 1 M_X4_obey 103 104 (.return_) := ⟨by decide +kernel, rfl⟩
theorem e_X4_stateAt_0 : z_D 1 M_X4_stateAt 0 1 (.iload_n 1) := ⟨by decide +kernel, rfl⟩
theorem e_X4_stateAt_1 : z_J M_X4_stateAt 1 4 22 (21) (.ifCond .lt 21) := ⟨by decide +kernel, rfl, rfl⟩
theorem e_X4_stateAt_4 : z_D 1 M_X4_stateAt 4 5 (.iload_n 1) := ⟨by decide +kernel, rfl⟩
theorem e_X4_stateAt_5 : z_D 1 M_X4_stateAt 5 6 (.aload_n 0) := ⟨by decide +kernel, rfl⟩
theorem e_X4_stateAt_6 : z_D 3 M_X4_stateAt 6 9 (.getfield 16) := ⟨by decide +kernel, rfl⟩
theorem e_X4_stateAt_9 : z_D 1 M_X4_stateAt 9 10 (.arraylength) := ⟨by decide +kernel, rfl⟩
theorem e_X4_stateAt_10 : z_J M_X4_stateAt 10 13 22 (12) (.if_icmp .ge 12) := ⟨by decide +kernel, rfl, rfl⟩
theorem e_X4_stateAt_13 : z_D 1 M_X4_stateAt 13 14 (.aload_n 0) := ⟨by decide +kernel, rfl⟩
theorem e_X4_stateAt_14 : z_D 3 M_X4_stateAt 14 17 (.getfield 16) := ⟨by decide +kernel, rfl⟩
theorem e_X4_stateAt_17 : z_D 1 M_X4_stateAt 17 18 (.iload_n 1) := ⟨by decide +kernel, rfl⟩
theorem e_X4_stateAt_18 : z_D 1 M_X4_stateAt 18 19 (.aaload) := ⟨by decide +kernel, rfl⟩
theorem e_X4_stateAt_19 : z_J M_X4_stateAt 19 22 26 (7) (.goto 7) := ⟨by decide +kernel, rfl, rfl⟩
theorem e_X4_stateAt_22 : z_D 1 M_X4_stateAt 22 23 (.aload_n 0) := ⟨by decide +kernel, rfl⟩
theorem e_X4_stateAt_23 : z_D 3 M_X4_stateAt 23 26 (.getfield 12) := ⟨by decide +kernel, rfl⟩
theorem e_X4_stateAt_26 : z_D 1 M_X4_stateAt 26 27 (.areturn) := ⟨by decide +kernel, rfl⟩
theorem e_X4_remember_0 : z_D 1 M_X4_remember 0 1 (.aload_n 0) := ⟨by decide +kernel, rfl⟩
theorem e_X4_remember_1 : z_D 1 M_X4_remember 1 2 (.aload_n 0) := ⟨by decide +kernel, rfl⟩
theorem e_X4_remember_2 : z_D 3 M_X4_remember 2 5 (.getfield 27) := ⟨by decide +kernel, rfl⟩
theorem e_X4_remember_5 : z_D 3 M_X4_remember 5 8 (.invokevirtual 200) := ⟨by decide +kernel, rfl⟩
theorem e_X4_remember_8 : z_D 1 M_X4_remember 8 9 (.astore_n 1) := ⟨by decide +kernel, rfl⟩
theorem e_X4_remember_9 : z_D 1 M_X4_remember 9 10 (.aload_n 1) := ⟨by decide +kernel, rfl⟩
theorem e_X4_remember_10 : z_D 1 M_X4_remember 10 11 (.aload_n 0) := ⟨by decide +kernel, rfl⟩
theorem e_X4_remember_11 : z_D 3 M_X4_remember 11 14 (.getfield 12) := ⟨by decide +kernel, rfl⟩
theorem e_X4_remember_14 : z_D 3 M_X4_remember 14 17 (.invokevirtual 204) := ⟨by decide +kernel, rfl⟩
theorem e_X4_remember_17 : z_D 1 M_X4_remember 17 18 (.aload_n 0) := ⟨by decide +kernel, rfl⟩
theorem e_X4_remember_18 : z_D 1 M_X4_remember 18 19 (.aload_n 0) := ⟨by decide +kernel, rfl⟩
theorem e_X4_remember_19 : z_D 3 M_X4_remember 19 22 (.getfield 27) := ⟨by decide +kernel, rfl⟩
theorem e_X4_remember_22 : z_D 1 M_X4_remember 22 23 (.iconst 1) := ⟨by decide +kernel, rfl⟩
theorem e_X4_remember_23 : z_D 1 M_X4_remember 23 24 (.iadd) := ⟨by decide +kernel, rfl⟩
theorem e_X4_remember_24 : z_D 2 M_X4_remember 24 26 (.bipush 8) := ⟨by decide +kernel, rfl⟩
theorem e_X4_remember_26 : z_D 1 M_X4_remember 26 27 (.irem) := ⟨by decide +kernel, rfl⟩
theorem e_X4_remember_27 : z_D 3 M_X4_remember 27 30 (.putfield 27) := ⟨by decide +kernel, rfl⟩
theorem e_X4_remember_30 : z_D 1 M_X4_remember 30 31 (.aload_n 0) := ⟨by decide +kernel, rfl⟩
theorem e_X4_remember_31 : z_D 2 M_X4_remember 31 33 (.bipush 8) := ⟨by decide +kernel, rfl⟩
theorem e_X4_remember_33 : z_D 1 M_X4_remember 33 34 (.aload_n 0) := ⟨by decide +kernel, rfl⟩
theorem e_X4_remember_34 : z_D 3 M_X4_remember 34 37 (.getfield 31) := ⟨by decide +kernel, rfl⟩
theorem e_X4_remember_37 : z_D 1 M_X4_remember 37 38 (.iconst 1) := ⟨by decide +kernel, rfl⟩
theorem e_X4_remember_38 : z_D 1 M_X4_remember 38 39 (.iadd) := ⟨by decide +kernel, rfl⟩
theorem e_X4_remember_39 : z_D 3 M_X4_remember 39 42 (.invokestatic 116) := ⟨by decide +kernel, rfl⟩
theorem e_X4_remember_42 : z_D 3 M_X4_remember 42 45 (.putfield 31) := ⟨by decide +kernel, rfl⟩
theorem e_X4_remember_45 : z_D 1 M_X4_remember 45 46 (.aload_n 1) := ⟨by decide +kernel, rfl⟩
theorem e_X4_remember_46 : z_D 1 M_X4_remember 46 47 (.areturn) := ⟨by decide +kernel, rfl⟩
theorem e_X5_init_0 : z_D 1 M_X5_init 0 1 (.aload_n 0) := ⟨by decide +kernel, rfl⟩
theorem e_X5_init_1 : z_D 3 M_X5_init 1 4 (.invokespecial 1) := ⟨by decide +kernel, rfl⟩
theorem e_X5_init_4 : z_D 1 M_X5_init 4 5 (.aload_n 0) := ⟨by decide +kernel, rfl⟩
theorem e_X5_init_5 : z_D 3 M_X5_init 5 8 (.sipush 6471) := ⟨by decide +kernel, rfl⟩
theorem e_X5_init_8 : z_D 2 M_X5_init 8 10 (.newarray .int) := ⟨by decide +kernel, rfl⟩
theorem e_X5_init_10 : z_D 3 M_X5_init 10 13 (.putfield 7) := ⟨by decide +kernel, rfl⟩
theorem e_X5_init_13 : z_D 1 M_X5_init 13 14 (.aload_n 0) := ⟨by decide +kernel, rfl⟩
theorem e_X5_init_14 : z_D 3 M_X5_init 14 17 (.sipush 704) := ⟨by decide +kernel, rfl⟩
theorem e_X5_init_17 : z_D 2 M_X5_init 17 19 (.newarray .int) := ⟨by decide +kernel, rfl⟩
theorem e_X5_init_19 : z_D 3 M_X5_init 19 22 (.putfield 13) := ⟨by decide +kernel, rfl⟩
theorem e_X5_init_22 : z_D 1 M_X5_init 22 23 (.aload_n 0) := ⟨by decide +kernel, rfl⟩
theorem e_X5_init_23 : z_D 1 M_X5_init 23 24 (.iconst 4) := ⟨by decide +kernel, rfl⟩
theorem e_X5_init_24 : z_D 2 M_X5_init 24 26 (.newarray .int) := ⟨by decide +kernel, rfl⟩
theorem e_X5_init_26 : z_D 3 M_X5_init 26 29 (.putfield 16) := ⟨by decide +kernel, rfl⟩
theorem e_X5_init_29 : z_D 1 M_X5_init 29 30 (.aload_n 0) := ⟨by decide +kernel, rfl⟩
theorem e_X5_init_30 : z_D 1 M_X5_init 30 31 (.iconst 4) := ⟨by decide +kernel, rfl⟩
theorem e_X5_init_31 : z_D 2 M_X5_init 31 33 (.newarray .int) := ⟨by decide +kernel, rfl⟩
theorem e_X5_init_33 : z_D 3 M_X5_init 33 36 (.putfield 19) := ⟨by decide +kernel, rfl⟩
theorem e_X5_init_36 : z_D 1 M_X5_init 36 37 (.aload_n 0) := ⟨by decide +kernel, rfl⟩
theorem e_X5_init_37 : z_D 1 M_X5_init 37 38 (.iconst 4) := ⟨by decide +kernel, rfl⟩
theorem e_X5_init_38 : z_D 2 M_X5_init 38 40 (.newarray .int) := ⟨by decide +kernel, rfl⟩
theorem e_X5_init_40 : z_D 3 M_X5_init 40 43 (.putfield 22) := ⟨by decide +kernel, rfl⟩
theorem e_X5_init_43 : z_D 1 M_X5_init 43 44 (.aload_n 0) := ⟨by decide +kernel, rfl⟩
theorem e_X5_init_44 : z_D 1 M_X5_init 44 45 (.iconst 4) := ⟨by decide +kernel, rfl⟩
theorem e_X5_init_45 : z_D 2 M_X5_init 45 47 (.newarray .int) := ⟨by decide +kernel, rfl⟩
theorem e_X5_init_47 : z_D 3 M_X5_init 47 50 (.putfield 25) := ⟨by decide +kernel, rfl⟩
theorem e_X5_init_50 : z_D 1 M_X5_init 50 51 (.aload_n 0) := ⟨by decide +kernel, rfl⟩
theorem e_X5_init_51 : z_D 1 M_X5_init 51 52 (.iconst 4) := ⟨by decide +kernel, rfl⟩
theorem e_X5_init_52 : z_D 2 M_X5_init 52 54 (.newarray .boolean) := ⟨by decide +kernel, rfl⟩
theorem e_X5_init_54 : z_D 3 M_X5_init 54 57 (.putfield 28) := ⟨by decide +kernel, rfl⟩
theorem e_X5_init_57 : z_D 1 M_X5_init 57 58 (.aload_n 0) := ⟨by decide +kernel, rfl⟩
theorem e_X5_init_58 : z_D 3 M_X5_init 58 61 (.getfield 7) := ⟨by decide +kernel, rfl⟩
theorem e_X5_init_61 : z_D 1 M_X5_init 61 62 (.iconst 0) := ⟨by decide +kernel, rfl⟩
theorem e_X5_init_62 : z_D 2 M_X5_init 62 64 (.bipush 10) := ⟨by decide +kernel, rfl⟩
theorem e_X5_init_64 : z_D 1 M_X5_init 64 65 (.iastore) := ⟨by decide +kernel, rfl⟩
theorem e_X5_init_65 : z_D 1 M_X5_init 65 66 (.aload_n 0) := ⟨by decide +kernel, rfl⟩
theorem e_X5_init_66 : z_D 3 M_X5_init 66 69 (.getfield 7) := ⟨by decide +kernel, rfl⟩
theorem e_X5_init_69 : z_D 1 M_X5_init 69 70 (.iconst 1) := ⟨by decide +kernel, rfl⟩
theorem e_X5_init_70 : z_D 1 M_X5_init 70 71 (.iconst 4) := ⟨by decide +kernel, rfl⟩
theorem e_X5_init_71 : z_D 1 M_X5_init 71 72 (.iastore) := ⟨by decide +kernel, rfl⟩
theorem e_X5_init_72 : z_D 1 M_X5_init 72 73 (.aload_n 0) := ⟨by decide +kernel, rfl⟩
theorem e_X5_init_73 : z_D 3 M_X5_init 73 76 (.getfield 7) := ⟨by decide +kernel, rfl⟩
theorem e_X5_init_76 : z_D 1 M_X5_init 76 77 (.iconst 3) := ⟨by decide +kernel, rfl⟩
theorem e_X5_init_77 : z_D 1 M_X5_init 77 78 (.iconst 3) := ⟨by decide +kernel, rfl⟩
theorem e_X5_init_78 : z_D 1 M_X5_init 78 79 (.iastore) := ⟨by decide +kernel, rfl⟩
theorem e_X5_init_79 : z_D 1 M_X5_init 79 80 (.iconst 0) := ⟨by decide +kernel, rfl⟩
theorem e_X5_init_80 : z_D 1 M_X5_init 80 81 (.istore_n 1) := ⟨by decide +kernel, rfl⟩
theorem e_X5_init_81 : z_D 1 M_X5_init 81 82 (.iload_n 1) := ⟨by decide +kernel, rfl⟩
theorem e_X5_init_82 : z_D 2 M_X5_init 82 84 (.bipush 32) := ⟨by decide +kernel, rfl⟩
theorem e_X5_init_84 : z_J M_X5_init 84 87 98 (14) (.if_icmp .ge 14) := ⟨by decide +kernel, rfl, rfl⟩
theorem e_X5_init_87 : z_D 1 M_X5_init 87 88 (.aload_n 0) := ⟨by decide +kernel, rfl⟩
theorem e_X5_init_88 : z_D 1 M_X5_init 88 89 (.iload_n 1) := ⟨by decide +kernel, rfl⟩
theorem e_X5_init_89 : z_D 3 M_X5_init 89 92 (.invokevirtual 32) := ⟨by decide +kernel, rfl⟩
theorem e_X5_init_92 : z_D 3 M_X5_init 92 95 (.iinc 1 1) := ⟨by decide +kernel, rfl⟩
theorem e_X5_init_95 : z_J M_X5_init 95 98 81 (-14) (.goto (-14)) := ⟨by decide +kernel, rfl, rfl⟩
theorem e_X5_init_98 : z_D 1 M_X5_init 98 99 (.return_) := ⟨by decide +kernel, rfl⟩
theorem e_X5_in_0 : z_D 1 M_X5_in 0 1 (.iload_n 0) := ⟨by decide +kernel, rfl⟩
theorem e_X5_in_1 : z_D 1 M_X5_in 1 2 (.iload_n 1) := ⟨by decide +kernel, rfl⟩
end
section
theorem e_X5_in_2 : z_J M_X5_in 2 5 14 (12) (.if_icmp .lt 12) := ⟨by decide +kernel, rfl, rfl⟩
theorem e_X5_in_5 : z_D 1 M_X5_in 5 6 (.iload_n 0) := ⟨by decide +kernel, rfl⟩
theorem e_X5_in_6 : z_D 1 M_X5_in 6 7 (.iload_n 2) := ⟨by decide +kernel, rfl⟩
theorem e_X5_in_7 : z_J M_X5_in 7 10 14 (7) (.if_icmp .gt 7) := ⟨by decide +kernel, rfl, rfl⟩
theorem e_X5_in_10 : z_D 1 M_X5_in 10 11 (.iconst 1) := ⟨by decide +kernel, rfl⟩
theorem e_X5_in_11 : z_J M_X5_in 11 14 15 (4) (.goto 4) := ⟨by decide +kernel, rfl, rfl⟩
theorem e_X5_in_14 : z_D 1 M_X5_in 14 15 (.iconst 0) := ⟨by decide +kernel, rfl⟩
theorem e_X5_in_15 : z_D 1 M_X5_in 15 16 (.ireturn) := ⟨by decide +kernel, rfl⟩
theorem e_X5_records_0 : z_D 1 M_X5_records 0 1 (.aload_n 0) := ⟨by decide +kernel, rfl⟩
theorem e_X5_records_1 : z_D 3 M_X5_records 1 4 (.getfield 36) := ⟨by decide +kernel, rfl⟩
theorem e_X5_records_4 : z_D 2 M_X5_records 4 6 (.bipush 8) := ⟨by decide +kernel, rfl⟩
theorem e_X5_records_6 : z_J M_X5_records 6 9 52 (46) (.if_icmp .ne 46) := ⟨by decide +kernel, rfl, rfl⟩
theorem e_X5_records_9 : z_D 3 M_X5_records 9 12 (.sipush 719) := ⟨by decide +kernel, rfl⟩
theorem e_X5_records_12 : z_D 1 M_X5_records 12 13 (.istore_n 1) := ⟨by decide +kernel, rfl⟩
theorem e_X5_records_13 : z_D 1 M_X5_records 13 14 (.iload_n 1) := ⟨by decide +kernel, rfl⟩
theorem e_X5_records_14 : z_D 3 M_X5_records 14 17 (.sipush 5752) := ⟨by decide +kernel, rfl⟩
theorem e_X5_records_17 : z_J M_X5_records 17 20 42 (25) (.if_icmp .ge 25) := ⟨by decide +kernel, rfl, rfl⟩
theorem e_X5_records_20 : z_D 1 M_X5_records 20 21 (.aload_n 0) := ⟨by decide +kernel, rfl⟩
theorem e_X5_records_21 : z_D 3 M_X5_records 21 24 (.getfield 7) := ⟨by decide +kernel, rfl⟩
theorem e_X5_records_24 : z_D 1 M_X5_records 24 25 (.iload_n 1) := ⟨by decide +kernel, rfl⟩
theorem e_X5_records_25 : z_D 1 M_X5_records 25 26 (.aload_n 0) := ⟨by decide +kernel, rfl⟩
theorem e_X5_records_26 : z_D 3 M_X5_records 26 29 (.getfield 7) := ⟨by decide +kernel, rfl⟩
theorem e_X5_records_29 : z_D 1 M_X5_records 29 30 (.iload_n 1) := ⟨by decide +kernel, rfl⟩
theorem e_X5_records_30 : z_D 3 M_X5_records 30 33 (.sipush 719) := ⟨by decide +kernel, rfl⟩
theorem e_X5_records_33 : z_D 1 M_X5_records 33 34 (.iadd) := ⟨by decide +kernel, rfl⟩
theorem e_X5_records_34 : z_D 1 M_X5_records 34 35 (.iaload) := ⟨by decide +kernel, rfl⟩
theorem e_X5_records_35 : z_D 1 M_X5_records 35 36 (.iastore) := ⟨by decide +kernel, rfl⟩
theorem e_X5_records_36 : z_D 3 M_X5_records 36 39 (.iinc 1 1) := ⟨by decide +kernel, rfl⟩
theorem e_X5_records_39 : z_J M_X5_records 39 42 13 (-26) (.goto (-26)) := ⟨by decide +kernel, rfl, rfl⟩
theorem e_X5_records_42 : z_D 1 M_X5_records 42 43 (.aload_n 0) := ⟨by decide +kernel, rfl⟩
theorem e_X5_records_43 : z_D 1 M_X5_records 43 44 (.dup) := ⟨by decide +kernel, rfl⟩
theorem e_X5_records_44 : z_D 3 M_X5_records 44 47 (.getfield 36) := ⟨by decide +kernel, rfl⟩
theorem e_X5_records_47 : z_D 1 M_X5_records 47 48 (.iconst 1) := ⟨by decide +kernel, rfl⟩
theorem e_X5_records_48 : z_D 1 M_X5_records 48 49 (.isub) := ⟨by decide +kernel, rfl⟩
theorem e_X5_records_49 : z_D 3 M_X5_records 49 52 (.putfield 36) := ⟨by decide +kernel, rfl⟩
theorem e_X5_records_52 : z_D 1 M_X5_records 52 53 (.aload_n 0) := ⟨by decide +kernel, rfl⟩
theorem e_X5_records_53 : z_D 1 M_X5_records 53 54 (.dup) := ⟨by decide +kernel, rfl⟩
theorem e_X5_records_54 : z_D 3 M_X5_records 54 57 (.getfield 36) := ⟨by decide +kernel, rfl⟩
theorem e_X5_records_57 : z_D 1 M_X5_records 57 58 (.iconst 1) := ⟨by decide +kernel, rfl⟩
theorem e_X5_records_58 : z_D 1 M_X5_records 58 59 (.iadd) := ⟨by decide +kernel, rfl⟩
theorem e_X5_records_59 : z_D 3 M_X5_records 59 62 (.putfield 36) := ⟨by decide +kernel, rfl⟩
theorem e_X5_records_62 : z_D 1 M_X5_records 62 63 (.iconst 0) := ⟨by decide +kernel, rfl⟩
theorem e_X5_records_63 : z_D 1 M_X5_records 63 64 (.istore_n 1) := ⟨by decide +kernel, rfl⟩
theorem e_X5_records_64 : z_D 1 M_X5_records 64 65 (.iload_n 1) := ⟨by decide +kernel, rfl⟩
theorem e_X5_records_65 : z_D 3 M_X5_records 65 68 (.sipush 719) := ⟨by decide +kernel, rfl⟩
theorem e_X5_records_68 : z_J M_X5_records 68 71 98 (30) (.if_icmp .ge 30) := ⟨by decide +kernel, rfl, rfl⟩
theorem e_X5_records_71 : z_D 1 M_X5_records 71 72 (.aload_n 0) := ⟨by decide +kernel, rfl⟩
theorem e_X5_records_72 : z_D 3 M_X5_records 72 75 (.getfield 7) := ⟨by decide +kernel, rfl⟩
theorem e_X5_records_75 : z_D 3 M_X5_records 75 78 (.sipush 719) := ⟨by decide +kernel, rfl⟩
theorem e_X5_records_78 : z_D 1 M_X5_records 78 79 (.aload_n 0) := ⟨by decide +kernel, rfl⟩
theorem e_X5_records_79 : z_D 3 M_X5_records 79 82 (.getfield 36) := ⟨by decide +kernel, rfl⟩
theorem e_X5_records_82 : z_D 1 M_X5_records 82 83 (.imul) := ⟨by decide +kernel, rfl⟩
theorem e_X5_records_83 : z_D 1 M_X5_records 83 84 (.iload_n 1) := ⟨by decide +kernel, rfl⟩
theorem e_X5_records_84 : z_D 1 M_X5_records 84 85 (.iadd) := ⟨by decide +kernel, rfl⟩
theorem e_X5_records_85 : z_D 1 M_X5_records 85 86 (.aload_n 0) := ⟨by decide +kernel, rfl⟩
theorem e_X5_records_86 : z_D 3 M_X5_records 86 89 (.getfield 7) := ⟨by decide +kernel, rfl⟩
theorem e_X5_records_89 : z_D 1 M_X5_records 89 90 (.iload_n 1) := ⟨by decide +kernel, rfl⟩
theorem e_X5_records_90 : z_D 1 M_X5_records 90 91 (.iaload) := ⟨by decide +kernel, rfl⟩
theorem e_X5_records_91 : z_D 1 M_X5_records 91 92 (.iastore) := ⟨by decide +kernel, rfl⟩
theorem e_X5_records_92 : z_D 3 M_X5_records 92 95 (.iinc 1 1) := ⟨by decide +kernel, rfl⟩
theorem e_X5_records_95 : z_J M_X5_records 95 98 64 (-31) (.goto (-31)) := ⟨by decide +kernel, rfl, rfl⟩
theorem e_X5_records_98 : z_D 1 M_X5_records 98 99 (.return_) := ⟨by decide +kernel, rfl⟩
theorem e_X5_at_0 : z_D 2 M_X5_at 0 2 (.bipush 15) := ⟨by decide +kernel, rfl⟩
theorem e_X5_at_2 : z_D 2 M_X5_at 2 4 (.bipush 22) := ⟨by decide +kernel, rfl⟩
theorem e_X5_at_4 : z_D 1 M_X5_at 4 5 (.iload_n 0) := ⟨by decide +kernel, rfl⟩
theorem e_X5_at_5 : z_D 1 M_X5_at 5 6 (.imul) := ⟨by decide +kernel, rfl⟩
theorem e_X5_at_6 : z_D 1 M_X5_at 6 7 (.iadd) := ⟨by decide +kernel, rfl⟩
theorem e_X5_at_7 : z_D 1 M_X5_at 7 8 (.iload_n 1) := ⟨by decide +kernel, rfl⟩
theorem e_X5_at_8 : z_D 1 M_X5_at 8 9 (.iadd) := ⟨by decide +kernel, rfl⟩
theorem e_X5_at_9 : z_D 1 M_X5_at 9 10 (.ireturn) := ⟨by decide +kernel, rfl⟩
theorem e_X5_code_0 : z_D 1 M_X5_code 0 1 (.aload_n 0) := ⟨by decide +kernel, rfl⟩
theorem e_X5_code_1 : z_D 3 M_X5_code 1 4 (.getfield 7) := ⟨by decide +kernel, rfl⟩
theorem e_X5_code_4 : z_D 1 M_X5_code 4 5 (.iload_n 1) := ⟨by decide +kernel, rfl⟩
theorem e_X5_code_5 : z_D 1 M_X5_code 5 6 (.iload_n 2) := ⟨by decide +kernel, rfl⟩
theorem e_X5_code_6 : z_D 3 M_X5_code 6 9 (.invokestatic 40) := ⟨by decide +kernel, rfl⟩
theorem e_X5_code_9 : z_D 1 M_X5_code 9 10 (.iaload) := ⟨by decide +kernel, rfl⟩
theorem e_X5_code_10 : z_D 1 M_X5_code 10 11 (.ireturn) := ⟨by decide +kernel, rfl⟩
theorem e_X5_isIt_0 : z_D 1 M_X5_isIt 0 1 (.aload_n 0) := ⟨by decide +kernel, rfl⟩
theorem e_X5_isIt_1 : z_D 3 M_X5_isIt 1 4 (.getfield 7) := ⟨by decide +kernel, rfl⟩
theorem e_X5_isIt_4 : z_D 1 M_X5_isIt 4 5 (.iload_n 1) := ⟨by decide +kernel, rfl⟩
theorem e_X5_isIt_5 : z_D 1 M_X5_isIt 5 6 (.iload_n 2) := ⟨by decide +kernel, rfl⟩
theorem e_X5_isIt_6 : z_D 3 M_X5_isIt 6 9 (.invokestatic 40) := ⟨by decide +kernel, rfl⟩
theorem e_X5_isIt_9 : z_D 1 M_X5_isIt 9 10 (.iaload) := ⟨by decide +kernel, rfl⟩
theorem e_X5_isIt_10 : z_D 1 M_X5_isIt 10 11 (.iconst 1) := ⟨by decide +kernel, rfl⟩
theorem e_X5_isIt_11 : z_J M_X5_isIt 11 14 18 (7) (.if_icmp .ne 7) := ⟨by decide +kernel, rfl, rfl⟩
theorem e_X5_isIt_14 : z_D 1 M_X5_isIt 14 15 (.iconst 1) := ⟨by decide +kernel, rfl⟩
theorem e_X5_isIt_15 : z_J M_X5_isIt 15 18 19 (4) (.goto 4) := ⟨by decide +kernel, rfl, rfl⟩
theorem e_X5_isIt_18 : z_D 1 M_X5_isIt 18 19 (.iconst 0) := ⟨by decide +kernel, rfl⟩
theorem e_X5_isIt_19 : z_D 1 M_X5_isIt 19 20 (.ireturn) := ⟨by decide +kernel, rfl⟩
theorem e_X5_blanks_0 : z_D 1 M_X5_blanks 0 1 (.iconst 0) := ⟨by decide +kernel, rfl⟩
theorem e_X5_blanks_1 : z_D 1 M_X5_blanks 1 2 (.istore_n 2) := ⟨by decide +kernel, rfl⟩
theorem e_X5_blanks_2 : z_D 1 M_X5_blanks 2 3 (.iload_n 2) := ⟨by decide +kernel, rfl⟩
theorem e_X5_blanks_3 : z_D 2 M_X5_blanks 3 5 (.bipush 20) := ⟨by decide +kernel, rfl⟩
theorem e_X5_blanks_5 : z_J M_X5_blanks 5 8 26 (21) (.if_icmp .ge 21) := ⟨by decide +kernel, rfl, rfl⟩
theorem e_X5_blanks_8 : z_D 1 M_X5_blanks 8 9 (.aload_n 0) := ⟨by decide +kernel, rfl⟩
theorem e_X5_blanks_9 : z_D 3 M_X5_blanks 9 12 (.getfield 7) := ⟨by decide +kernel, rfl⟩
theorem e_X5_blanks_12 : z_D 1 M_X5_blanks 12 13 (.iload_n 1) := ⟨by decide +kernel, rfl⟩
theorem e_X5_blanks_13 : z_D 1 M_X5_blanks 13 14 (.iload_n 2) := ⟨by decide +kernel, rfl⟩
theorem e_X5_blanks_14 : z_D 3 M_X5_blanks 14 17 (.invokestatic 40) := ⟨by decide +kernel, rfl⟩
theorem e_X5_blanks_17 : z_D 2 M_X5_blanks 17 19 (.bipush 32) := ⟨by decide +kernel, rfl⟩
theorem e_X5_blanks_19 : z_D 1 M_X5_blanks 19 20 (.iastore) := ⟨by decide +kernel, rfl⟩
theorem e_X5_blanks_20 : z_D 3 M_X5_blanks 20 23 (.iinc 2 1) := ⟨by decide +kernel, rfl⟩
theorem e_X5_blanks_23 : z_J M_X5_blanks 23 26 2 (-21) (.goto (-21)) := ⟨by decide +kernel, rfl, rfl⟩
theorem e_X5_blanks_26 : z_D 1 M_X5_blanks 26 27 (.aload_n 0) := ⟨by decide +kernel, rfl⟩
theorem e_X5_blanks_27 : z_D 1 M_X5_blanks 27 28 (.iload_n 1) := ⟨by decide +kernel, rfl⟩
theorem e_X5_blanks_28 : z_D 3 M_X5_blanks 28 31 (.invokevirtual 44) := ⟨by decide +kernel, rfl⟩
theorem e_X5_blanks_31 : z_D 1 M_X5_blanks 31 32 (.return_) := ⟨by decide +kernel, rfl⟩
theorem e_X5_unwraps_0 : z_D 1 M_X5_unwraps 0 1 (.aload_n 0) := ⟨by decide +kernel, rfl⟩
theorem e_X5_unwraps_1 : z_D 3 M_X5_unwraps 1 4 (.getfield 7) := ⟨by decide +kernel, rfl⟩
theorem e_X5_unwraps_4 : z_D 1 M_X5_unwraps 4 5 (.iload_n 1) := ⟨by decide +kernel, rfl⟩
theorem e_X5_unwraps_5 : z_D 2 M_X5_unwraps 5 7 (.bipush 20) := ⟨by decide +kernel, rfl⟩
theorem e_X5_unwraps_7 : z_D 3 M_X5_unwraps 7 10 (.invokestatic 40) := ⟨by decide +kernel, rfl⟩
theorem e_X5_unwraps_10 : z_D 1 M_X5_unwraps 10 11 (.iconst 0) := ⟨by decide +kernel, rfl⟩
theorem e_X5_unwraps_11 : z_D 1 M_X5_unwraps 11 12 (.iastore) := ⟨by decide +kernel, rfl⟩
theorem e_X5_unwraps_12 : z_D 1 M_X5_unwraps 12 13 (.aload_n 0) := ⟨by decide +kernel, rfl⟩
theorem e_X5_unwraps_13 : z_D 3 M_X5_unwraps 13 16 (.getfield 7) := ⟨by decide +kernel, rfl⟩
theorem e_X5_unwraps_16 : z_D 1 M_X5_unwraps 16 17 (.iload_n 1) := ⟨by decide +kernel, rfl⟩
theorem e_X5_unwraps_17 : z_D 2 M_X5_unwraps 17 19 (.bipush 21) := ⟨by decide +kernel, rfl⟩
theorem e_X5_unwraps_19 : z_D 3 M_X5_unwraps 19 22 (.invokestatic 40) := ⟨by decide +kernel, rfl⟩
theorem e_X5_unwraps_22 : z_D 1 M_X5_unwraps 22 23 (.iconst 0) := ⟨by decide +kernel, rfl⟩
theorem e_X5_unwraps_23 : z_D 1 M_X5_unwraps 23 24 (.iastore) := ⟨by decide +kernel, rfl⟩
theorem e_X5_unwraps_24 : z_D 1 M_X5_unwraps 24 25 (.return_) := ⟨by decide +kernel, rfl⟩
theorem e_X5_copies_0 : z_D 1 M_X5_copies 0 1 (.iconst 0) := ⟨by decide +kernel, rfl⟩
theorem e_X5_copies_1 : z_D 1 M_X5_copies 1 2 (.istore_n 3) := ⟨by decide +kernel, rfl⟩
theorem e_X5_copies_2 : z_D 1 M_X5_copies 2 3 (.iload_n 3) := ⟨by decide +kernel, rfl⟩
theorem e_X5_copies_3 : z_D 2 M_X5_copies 3 5 (.bipush 22) := ⟨by decide +kernel, rfl⟩
theorem e_X5_copies_5 : z_J M_X5_copies 5 8 34 (29) (.if_icmp .ge 29) := ⟨by decide +kernel, rfl, rfl⟩
theorem e_X5_copies_8 : z_D 1 M_X5_copies 8 9 (.aload_n 0) := ⟨by decide +kernel, rfl⟩
theorem e_X5_copies_9 : z_D 3 M_X5_copies 9 12 (.getfield 7) := ⟨by decide +kernel, rfl⟩
theorem e_X5_copies_12 : z_D 1 M_X5_copies 12 13 (.iload_n 2) := ⟨by decide +kernel, rfl⟩
theorem e_X5_copies_13 : z_D 1 M_X5_copies 13 14 (.iload_n 3) := ⟨by decide +kernel, rfl⟩
theorem e_X5_copies_14 : z_D 3 M_X5_copies 14 17 (.invokestatic 40) := ⟨by decide +kernel, rfl⟩
theorem e_X5_copies_17 : z_D 1 M_X5_copies 17 18 (.aload_n 0) := ⟨by decide +kernel, rfl⟩
theorem e_X5_copies_18 : z_D 3 M_X5_copies 18 21 (.getfield 7) := ⟨by decide +kernel, rfl⟩
theorem e_X5_copies_21 : z_D 1 M_X5_copies 21 22 (.iload_n 1) := ⟨by decide +kernel, rfl⟩
theorem e_X5_copies_22 : z_D 1 M_X5_copies 22 23 (.iload_n 3) := ⟨by decide +kernel, rfl⟩
theorem e_X5_copies_23 : z_D 3 M_X5_copies 23 26 (.invokestatic 40) := ⟨by decide +kernel, rfl⟩
theorem e_X5_copies_26 : z_D 1 M_X5_copies 26 27 (.iaload) := ⟨by decide +kernel, rfl⟩
theorem e_X5_copies_27 : z_D 1 M_X5_copies 27 28 (.iastore) := ⟨by decide +kernel, rfl⟩
theorem e_X5_copies_28 : z_D 3 M_X5_copies 28 31 (.iinc 3 1) := ⟨by decide +kernel, rfl⟩
theorem e_X5_copies_31 : z_J M_X5_copies 31 34 2 (-29) (.goto (-29)) := ⟨by decide +kernel, rfl, rfl⟩
theorem e_X5_copies_34 : z_D 1 M_X5_copies 34 35 (.return_) := ⟨by decide +kernel, rfl⟩
theorem e_X5_isWide_0 : z_D 1 M_X5_isWide 0 1 (.iload_n 0) := ⟨by decide +kernel, rfl⟩
theorem e_X5_isWide_1 : z_D 2 M_X5_isWide 1 3 (.bipush 65) := ⟨by decide +kernel, rfl⟩
theorem e_X5_isWide_3 : z_D 2 M_X5_isWide 3 5 (.bipush 90) := ⟨by decide +kernel, rfl⟩
theorem e_X5_isWide_5 : z_D 3 M_X5_isWide 5 8 (.invokestatic 47) := ⟨by decide +kernel, rfl⟩
theorem e_X5_isWide_8 : z_D 1 M_X5_isWide 8 9 (.ireturn) := ⟨by decide +kernel, rfl⟩
theorem e_X5_isRight_0 : z_D 1 M_X5_isRight 0 1 (.iload_n 0) := ⟨by decide +kernel, rfl⟩
theorem e_X5_isRight_1 : z_D 3 M_X5_isRight 1 4 (.sipush 128) := ⟨by decide +kernel, rfl⟩
theorem e_X5_isRight_4 : z_J M_X5_isRight 4 7 11 (7) (.if_icmp .lt 7) := ⟨by decide +kernel, rfl, rfl⟩
theorem e_X5_isRight_7 : z_D 1 M_X5_isRight 7 8 (.iconst 1) := ⟨by decide +kernel, rfl⟩
theorem e_X5_isRight_8 : z_J M_X5_isRight 8 11 12 (4) (.goto 4) := ⟨by decide +kernel, rfl, rfl⟩
theorem e_X5_isRight_11 : z_D 1 M_X5_isRight 11 12 (.iconst 0) := ⟨by decide +kernel, rfl⟩
theorem e_X5_isRight_12 : z_D 1 M_X5_isRight 12 13 (.ireturn) := ⟨by decide +kernel, rfl⟩
theorem e_X5_unwrapsAhead_0 : z_D 1 M_X5_unwrapsAhead 0 1 (.iload_n 1) := ⟨by decide +kernel, rfl⟩
theorem e_X5_unwrapsAhead_1 : z_J M_X5_unwrapsAhead 1 4 17 (16) (.ifCond .le 16) := ⟨by decide +kernel, rfl, rfl⟩
theorem e_X5_unwrapsAhead_4 : z_D 1 M_X5_unwrapsAhead 4 5 (.aload_n 0) := ⟨by decide +kernel, rfl⟩
theorem e_X5_unwrapsAhead_5 : z_D 2 M_X5_unwrapsAhead 5 7 (.bipush 24) := ⟨by decide +kernel, rfl⟩
theorem e_X5_unwrapsAhead_7 : z_D 1 M_X5_unwrapsAhead 7 8 (.iload_n 1) := ⟨by decide +kernel, rfl⟩
theorem e_X5_unwrapsAhead_8 : z_D 1 M_X5_unwrapsAhead 8 9 (.iadd) := ⟨by decide +kernel, rfl⟩
theorem e_X5_unwrapsAhead_9 : z_D 1 M_X5_unwrapsAhead 9 10 (.iconst 1) := ⟨by decide +kernel, rfl⟩
theorem e_X5_unwrapsAhead_10 : z_D 1 M_X5_unwrapsAhead 10 11 (.isub) := ⟨by decide +kernel, rfl⟩
theorem e_X5_unwrapsAhead_11 : z_D 3 M_X5_unwrapsAhead 11 14 (.invokevirtual 44) := ⟨by decide +kernel, rfl⟩
theorem e_X5_unwrapsAhead_14 : z_J M_X5_unwrapsAhead 14 17 40 (26) (.goto 26) := ⟨by decide +kernel, rfl, rfl⟩
theorem e_X5_unwrapsAhead_17 : z_D 1 M_X5_unwrapsAhead 17 18 (.aload_n 0) := ⟨by decide +kernel, rfl⟩
theorem e_X5_unwrapsAhead_18 : z_D 3 M_X5_unwrapsAhead 18 21 (.getfield 7) := ⟨by decide +kernel, rfl⟩
theorem e_X5_unwrapsAhead_21 : z_D 2 M_X5_unwrapsAhead 21 23 (.bipush 14) := ⟨by decide +kernel, rfl⟩
theorem e_X5_unwrapsAhead_23 : z_D 1 M_X5_unwrapsAhead 23 24 (.iaload) := ⟨by decide +kernel, rfl⟩
theorem e_X5_unwrapsAhead_24 : z_J M_X5_unwrapsAhead 24 27 40 (16) (.ifCond .le 16) := ⟨by decide +kernel, rfl, rfl⟩
theorem e_X5_unwrapsAhead_27 : z_D 1 M_X5_unwrapsAhead 27 28 (.aload_n 0) := ⟨by decide +kernel, rfl⟩
theorem e_X5_unwrapsAhead_28 : z_D 1 M_X5_unwrapsAhead 28 29 (.aload_n 0) := ⟨by decide +kernel, rfl⟩
theorem e_X5_unwrapsAhead_29 : z_D 3 M_X5_unwrapsAhead 29 32 (.getfield 7) := ⟨by decide +kernel, rfl⟩
theorem e_X5_unwrapsAhead_32 : z_D 2 M_X5_unwrapsAhead 32 34 (.bipush 14) := ⟨by decide +kernel, rfl⟩
theorem e_X5_unwrapsAhead_34 : z_D 1 M_X5_unwrapsAhead 34 35 (.iaload) := ⟨by decide +kernel, rfl⟩
theorem e_X5_unwrapsAhead_35 : z_D 1 M_X5_unwrapsAhead 35 36 (.iconst 1) := ⟨by decide +kernel, rfl⟩
theorem e_X5_unwrapsAhead_36 : z_D 1 M_X5_unwrapsAhead 36 37 (.isub) := ⟨by decide +kernel, rfl⟩
theorem e_X5_unwrapsAhead_37 : z_D 3 M_X5_unwrapsAhead 37 40 (.invokevirtual 44) := ⟨by decide +kernel, rfl⟩
theorem e_X5_unwrapsAhead_40 : z_D 1 M_X5_unwrapsAhead 40 41 (.return_) := ⟨by decide +kernel, rfl⟩
theorem e_X5_sets_0 : z_D 1 M_X5_sets 0 1 (.aload_n 0) := ⟨by decide +kernel, rfl⟩
theorem e_X5_sets_1 : z_D 3 M_X5_sets 1 4 (.getfield 7) := ⟨by decide +kernel, rfl⟩
theorem e_X5_sets_4 : z_D 2 M_X5_sets 4 6 (.bipush 24) := ⟨by decide +kernel, rfl⟩
theorem e_X5_sets_6 : z_D 1 M_X5_sets 6 7 (.iload_n 1) := ⟨by decide +kernel, rfl⟩
theorem e_X5_sets_7 : z_D 1 M_X5_sets 7 8 (.iadd) := ⟨by decide +kernel, rfl⟩
theorem e_X5_sets_8 : z_D 1 M_X5_sets 8 9 (.iload_n 2) := ⟨by decide +kernel, rfl⟩
theorem e_X5_sets_9 : z_D 3 M_X5_sets 9 12 (.invokestatic 40) := ⟨by decide +kernel, rfl⟩
theorem e_X5_sets_12 : z_D 1 M_X5_sets 12 13 (.iload_n 3) := ⟨by decide +kernel, rfl⟩
theorem e_X5_sets_13 : z_D 1 M_X5_sets 13 14 (.iastore) := ⟨by decide +kernel, rfl⟩
theorem e_X5_sets_14 : z_D 1 M_X5_sets 14 15 (.iload_n 2) := ⟨by decide +kernel, rfl⟩
theorem e_X5_sets_15 : z_D 1 M_X5_sets 15 16 (.aload_n 0) := ⟨by decide +kernel, rfl⟩
theorem e_X5_sets_16 : z_D 3 M_X5_sets 16 19 (.getfield 7) := ⟨by decide +kernel, rfl⟩
theorem e_X5_sets_19 : z_D 1 M_X5_sets 19 20 (.iconst 0) := ⟨by decide +kernel, rfl⟩
theorem e_X5_sets_20 : z_D 1 M_X5_sets 20 21 (.iaload) := ⟨by decide +kernel, rfl⟩
theorem e_X5_sets_21 : z_D 1 M_X5_sets 21 22 (.iconst 1) := ⟨by decide +kernel, rfl⟩
theorem e_X5_sets_22 : z_D 1 M_X5_sets 22 23 (.isub) := ⟨by decide +kernel, rfl⟩
theorem e_X5_sets_23 : z_J M_X5_sets 23 26 34 (11) (.if_icmp .ne 11) := ⟨by decide +kernel, rfl, rfl⟩
theorem e_X5_sets_26 : z_D 1 M_X5_sets 26 27 (.aload_n 0) := ⟨by decide +kernel, rfl⟩
theorem e_X5_sets_27 : z_D 2 M_X5_sets 27 29 (.bipush 24) := ⟨by decide +kernel, rfl⟩
theorem e_X5_sets_29 : z_D 1 M_X5_sets 29 30 (.iload_n 1) := ⟨by decide +kernel, rfl⟩
theorem e_X5_sets_30 : z_D 1 M_X5_sets 30 31 (.iadd) := ⟨by decide +kernel, rfl⟩
theorem e_X5_sets_31 : z_D 3 M_X5_sets 31 34 (.invokevirtual 44) := ⟨by decide +kernel, rfl⟩
theorem e_X5_sets_34 : z_D 1 M_X5_sets 34 35 (.return_) := ⟨by decide +kernel, rfl⟩
theorem e_X5_frees_0 : z_D 1 M_X5_frees 0 1 (.iload_n 2) := ⟨by decide +kernel, rfl⟩
theorem e_X5_frees_1 : z_J M_X5_frees 1 4 29 (28) (.ifCond .le 28) := ⟨by decide +kernel, rfl, rfl⟩
theorem e_X5_frees_4 : z_D 1 M_X5_frees 4 5 (.aload_n 0) := ⟨by decide +kernel, rfl⟩
theorem e_X5_frees_5 : z_D 2 M_X5_frees 5 7 (.bipush 24) := ⟨by decide +kernel, rfl⟩
theorem e_X5_frees_7 : z_D 1 M_X5_frees 7 8 (.iload_n 1) := ⟨by decide +kernel, rfl⟩
theorem e_X5_frees_8 : z_D 1 M_X5_frees 8 9 (.iadd) := ⟨by decide +kernel, rfl⟩
theorem e_X5_frees_9 : z_D 1 M_X5_frees 9 10 (.iload_n 2) := ⟨by decide +kernel, rfl⟩
theorem e_X5_frees_10 : z_D 3 M_X5_frees 10 13 (.invokevirtual 51) := ⟨by decide +kernel, rfl⟩
theorem e_X5_frees_13 : z_D 3 M_X5_frees 13 16 (.invokestatic 54) := ⟨by decide +kernel, rfl⟩
theorem e_X5_frees_16 : z_J M_X5_frees 16 19 29 (13) (.ifCond .eq 13) := ⟨by decide +kernel, rfl, rfl⟩
theorem e_X5_frees_19 : z_D 1 M_X5_frees 19 20 (.aload_n 0) := ⟨by decide +kernel, rfl⟩
theorem e_X5_frees_20 : z_D 1 M_X5_frees 20 21 (.iload_n 1) := ⟨by decide +kernel, rfl⟩
theorem e_X5_frees_21 : z_D 1 M_X5_frees 21 22 (.iload_n 2) := ⟨by decide +kernel, rfl⟩
theorem e_X5_frees_22 : z_D 1 M_X5_frees 22 23 (.iconst 1) := ⟨by decide +kernel, rfl⟩
theorem e_X5_frees_23 : z_D 1 M_X5_frees 23 24 (.isub) := ⟨by decide +kernel, rfl⟩
theorem e_X5_frees_24 : z_D 2 M_X5_frees 24 26 (.bipush 32) := ⟨by decide +kernel, rfl⟩
theorem e_X5_frees_26 : z_D 3 M_X5_frees 26 29 (.invokevirtual 58) := ⟨by decide +kernel, rfl⟩
theorem e_X5_frees_29 : z_D 1 M_X5_frees 29 30 (.iload_n 3) := ⟨by decide +kernel, rfl⟩
theorem e_X5_frees_30 : z_D 1 M_X5_frees 30 31 (.iconst 1) := ⟨by decide +kernel, rfl⟩
theorem e_X5_frees_31 : z_D 1 M_X5_frees 31 32 (.iadd) := ⟨by decide +kernel, rfl⟩
theorem e_X5_frees_32 : z_D 1 M_X5_frees 32 33 (.aload_n 0) := ⟨by decide +kernel, rfl⟩
theorem e_X5_frees_33 : z_D 3 M_X5_frees 33 36 (.getfield 7) := ⟨by decide +kernel, rfl⟩
theorem e_X5_frees_36 : z_D 1 M_X5_frees 36 37 (.iconst 0) := ⟨by decide +kernel, rfl⟩
theorem e_X5_frees_37 : z_D 1 M_X5_frees 37 38 (.iaload) := ⟨by decide +kernel, rfl⟩
theorem e_X5_frees_38 : z_J M_X5_frees 38 41 66 (28) (.if_icmp .ge 28) := ⟨by decide +kernel, rfl, rfl⟩
theorem e_X5_frees_41 : z_D 1 M_X5_frees 41 42 (.aload_n 0) := ⟨by decide +kernel, rfl⟩
theorem e_X5_frees_42 : z_D 2 M_X5_frees 42 44 (.bipush 24) := ⟨by decide +kernel, rfl⟩
theorem e_X5_frees_44 : z_D 1 M_X5_frees 44 45 (.iload_n 1) := ⟨by decide +kernel, rfl⟩
theorem e_X5_frees_45 : z_D 1 M_X5_frees 45 46 (.iadd) := ⟨by decide +kernel, rfl⟩
theorem e_X5_frees_46 : z_D 1 M_X5_frees 46 47 (.iload_n 3) := ⟨by decide +kernel, rfl⟩
theorem e_X5_frees_47 : z_D 3 M_X5_frees 47 50 (.invokevirtual 51) := ⟨by decide +kernel, rfl⟩
theorem e_X5_frees_50 : z_D 3 M_X5_frees 50 53 (.invokestatic 62) := ⟨by decide +kernel, rfl⟩
theorem e_X5_frees_53 : z_J M_X5_frees 53 56 66 (13) (.ifCond .eq 13) := ⟨by decide +kernel, rfl, rfl⟩
theorem e_X5_frees_56 : z_D 1 M_X5_frees 56 57 (.aload_n 0) := ⟨by decide +kernel, rfl⟩
theorem e_X5_frees_57 : z_D 1 M_X5_frees 57 58 (.iload_n 1) := ⟨by decide +kernel, rfl⟩
theorem e_X5_frees_58 : z_D 1 M_X5_frees 58 59 (.iload_n 3) := ⟨by decide +kernel, rfl⟩
theorem e_X5_frees_59 : z_D 1 M_X5_frees 59 60 (.iconst 1) := ⟨by decide +kernel, rfl⟩
theorem e_X5_frees_60 : z_D 1 M_X5_frees 60 61 (.iadd) := ⟨by decide +kernel, rfl⟩
theorem e_X5_frees_61 : z_D 2 M_X5_frees 61 63 (.bipush 32) := ⟨by decide +kernel, rfl⟩
theorem e_X5_frees_63 : z_D 3 M_X5_frees 63 66 (.invokevirtual 58) := ⟨by decide +kernel, rfl⟩
theorem e_X5_frees_66 : z_D 1 M_X5_frees 66 67 (.return_) := ⟨by decide +kernel, rfl⟩
theorem e_X5_erases_0 : z_D 1 M_X5_erases 0 1 (.aload_n 0) := ⟨by decide +kernel, rfl⟩
theorem e_X5_erases_1 : z_D 1 M_X5_erases 1 2 (.iload_n 1) := ⟨by decide +kernel, rfl⟩
theorem e_X5_erases_2 : z_D 1 M_X5_erases 2 3 (.iload_n 2) := ⟨by decide +kernel, rfl⟩
theorem e_X5_erases_3 : z_D 1 M_X5_erases 3 4 (.iload_n 3) := ⟨by decide +kernel, rfl⟩
theorem e_X5_erases_4 : z_D 3 M_X5_erases 4 7 (.invokevirtual 65) := ⟨by decide +kernel, rfl⟩
theorem e_X5_erases_7 : z_D 1 M_X5_erases 7 8 (.iload_n 2) := ⟨by decide +kernel, rfl⟩
theorem e_X5_erases_8 : z_D 2 M_X5_erases 8 10 (.istore 4) := ⟨by decide +kernel, rfl⟩
theorem e_X5_erases_10 : z_D 2 M_X5_erases 10 12 (.iload 4) := ⟨by decide +kernel, rfl⟩
theorem e_X5_erases_12 : z_D 1 M_X5_erases 12 13 (.iload_n 3) := ⟨by decide +kernel, rfl⟩
theorem e_X5_erases_13 : z_J M_X5_erases 13 16 31 (18) (.if_icmp .gt 18) := ⟨by decide +kernel, rfl, rfl⟩
theorem e_X5_erases_16 : z_D 1 M_X5_erases 16 17 (.aload_n 0) := ⟨by decide +kernel, rfl⟩
theorem e_X5_erases_17 : z_D 1 M_X5_erases 17 18 (.iload_n 1) := ⟨by decide +kernel, rfl⟩
theorem e_X5_erases_18 : z_D 2 M_X5_erases 18 20 (.iload 4) := ⟨by decide +kernel, rfl⟩
theorem e_X5_erases_20 : z_D 2 M_X5_erases 20 22 (.bipush 32) := ⟨by decide +kernel, rfl⟩
theorem e_X5_erases_22 : z_D 3 M_X5_erases 22 25 (.invokevirtual 58) := ⟨by decide +kernel, rfl⟩
theorem e_X5_erases_25 : z_D 3 M_X5_erases 25 28 (.iinc 4 1) := ⟨by decide +kernel, rfl⟩
theorem e_X5_erases_28 : z_J M_X5_erases 28 31 10 (-18) (.goto (-18)) := ⟨by decide +kernel, rfl, rfl⟩
theorem e_X5_erases_31 : z_D 1 M_X5_erases 31 32 (.return_) := ⟨by decide +kernel, rfl⟩
theorem e_X5_usedCells_0 : z_D 1 M_X5_usedCells 0 1 (.aload_n 0) := ⟨by decide +kernel, rfl⟩
theorem e_X5_usedCells_1 : z_D 3 M_X5_usedCells 1 4 (.getfield 7) := ⟨by decide +kernel, rfl⟩
theorem e_X5_usedCells_4 : z_D 1 M_X5_usedCells 4 5 (.iconst 0) := ⟨by decide +kernel, rfl⟩
theorem e_X5_usedCells_5 : z_D 1 M_X5_usedCells 5 6 (.iaload) := ⟨by decide +kernel, rfl⟩
theorem e_X5_usedCells_6 : z_D 1 M_X5_usedCells 6 7 (.istore_n 2) := ⟨by decide +kernel, rfl⟩
theorem e_X5_usedCells_7 : z_D 1 M_X5_usedCells 7 8 (.iload_n 2) := ⟨by decide +kernel, rfl⟩
theorem e_X5_usedCells_8 : z_J M_X5_usedCells 8 11 30 (22) (.ifCond .le 22) := ⟨by decide +kernel, rfl, rfl⟩
theorem e_X5_usedCells_11 : z_D 1 M_X5_usedCells 11 12 (.aload_n 0) := ⟨by decide +kernel, rfl⟩
theorem e_X5_usedCells_12 : z_D 1 M_X5_usedCells 12 13 (.iload_n 1) := ⟨by decide +kernel, rfl⟩
theorem e_X5_usedCells_13 : z_D 1 M_X5_usedCells 13 14 (.iload_n 2) := ⟨by decide +kernel, rfl⟩
theorem e_X5_usedCells_14 : z_D 1 M_X5_usedCells 14 15 (.iconst 1) := ⟨by decide +kernel, rfl⟩
theorem e_X5_usedCells_15 : z_D 1 M_X5_usedCells 15 16 (.isub) := ⟨by decide +kernel, rfl⟩
theorem e_X5_usedCells_16 : z_D 3 M_X5_usedCells 16 19 (.invokevirtual 51) := ⟨by decide +kernel, rfl⟩
theorem e_X5_usedCells_19 : z_D 2 M_X5_usedCells 19 21 (.bipush 32) := ⟨by decide +kernel, rfl⟩
theorem e_X5_usedCells_21 : z_J M_X5_usedCells 21 24 30 (9) (.if_icmp .ne 9) := ⟨by decide +kernel, rfl, rfl⟩
theorem e_X5_usedCells_24 : z_D 3 M_X5_usedCells 24 27 (.iinc 2 (-1)) := ⟨by decide +kernel, rfl⟩
theorem e_X5_usedCells_27 : z_J M_X5_usedCells 27 30 7 (-20) (.goto (-20)) := ⟨by decide +kernel, rfl, rfl⟩
theorem e_X5_usedCells_30 : z_D 1 M_X5_usedCells 30 31 (.iload_n 2) := ⟨by decide +kernel, rfl⟩
theorem e_X5_usedCells_31 : z_D 1 M_X5_usedCells 31 32 (.ireturn) := ⟨by decide +kernel, rfl⟩
theorem e_X5_filled_0 : z_D 1 M_X5_filled 0 1 (.iconst 0) := ⟨by decide +kernel, rfl⟩
theorem e_X5_filled_1 : z_D 1 M_X5_filled 1 2 (.istore_n 2) := ⟨by decide +kernel, rfl⟩
theorem e_X5_filled_2 : z_D 1 M_X5_filled 2 3 (.iconst 0) := ⟨by decide +kernel, rfl⟩
theorem e_X5_filled_3 : z_D 1 M_X5_filled 3 4 (.istore_n 3) := ⟨by decide +kernel, rfl⟩
theorem e_X5_filled_4 : z_D 1 M_X5_filled 4 5 (.iload_n 3) := ⟨by decide +kernel, rfl⟩
theorem e_X5_filled_5 : z_D 1 M_X5_filled 5 6 (.aload_n 0) := ⟨by decide +kernel, rfl⟩
theorem e_X5_filled_6 : z_D 3 M_X5_filled 6 9 (.getfield 7) := ⟨by decide +kernel, rfl⟩
theorem e_X5_filled_9 : z_D 1 M_X5_filled 9 10 (.iconst 0) := ⟨by decide +kernel, rfl⟩
theorem e_X5_filled_10 : z_D 1 M_X5_filled 10 11 (.iaload) := ⟨by decide +kernel, rfl⟩
theorem e_X5_filled_11 : z_J M_X5_filled 11 14 39 (28) (.if_icmp .ge 28) := ⟨by decide +kernel, rfl, rfl⟩
theorem e_X5_filled_14 : z_D 1 M_X5_filled 14 15 (.iload_n 2) := ⟨by decide +kernel, rfl⟩
theorem e_X5_filled_15 : z_D 1 M_X5_filled 15 16 (.aload_n 0) := ⟨by decide +kernel, rfl⟩
theorem e_X5_filled_16 : z_D 1 M_X5_filled 16 17 (.iload_n 1) := ⟨by decide +kernel, rfl⟩
theorem e_X5_filled_17 : z_D 1 M_X5_filled 17 18 (.iload_n 3) := ⟨by decide +kernel, rfl⟩
theorem e_X5_filled_18 : z_D 3 M_X5_filled 18 21 (.invokevirtual 51) := ⟨by decide +kernel, rfl⟩
theorem e_X5_filled_21 : z_D 2 M_X5_filled 21 23 (.bipush 32) := ⟨by decide +kernel, rfl⟩
theorem e_X5_filled_23 : z_J M_X5_filled 23 26 30 (7) (.if_icmp .ne 7) := ⟨by decide +kernel, rfl, rfl⟩
theorem e_X5_filled_26 : z_D 1 M_X5_filled 26 27 (.iconst 0) := ⟨by decide +kernel, rfl⟩
theorem e_X5_filled_27 : z_J M_X5_filled 27 30 31 (4) (.goto 4) := ⟨by decide +kernel, rfl, rfl⟩
theorem e_X5_filled_30 : z_D 1 M_X5_filled 30 31 (.iconst 1) := ⟨by decide +kernel, rfl⟩
theorem e_X5_filled_31 : z_D 1 M_X5_filled 31 32 (.iadd) := ⟨by decide +kernel, rfl⟩
theorem e_X5_filled_32 : z_D 1 M_X5_filled 32 33 (.istore_n 2) := ⟨by decide +kernel, rfl⟩
theorem e_X5_filled_33 : z_D 3 M_X5_filled 33 36 (.iinc 3 1) := ⟨by decide +kernel, rfl⟩
theorem e_X5_filled_36 : z_J M_X5_filled 36 39 4 (-32) (.goto (-32)) := ⟨by decide +kernel, rfl, rfl⟩
theorem e_X5_filled_39 : z_D 1 M_X5_filled 39 40 (.iload_n 2) := ⟨by decide +kernel, rfl⟩
theorem e_X5_filled_40 : z_D 1 M_X5_filled 40 41 (.ireturn) := ⟨by decide +kernel, rfl⟩
theorem e_X5_filledAll_0 : z_D 1 M_X5_filledAll 0 1 (.iconst 0) := ⟨by decide +kernel, rfl⟩
theorem e_X5_filledAll_1 : z_D 1 M_X5_filledAll 1 2 (.istore_n 1) := ⟨by decide +kernel, rfl⟩
theorem e_X5_filledAll_2 : z_D 1 M_X5_filledAll 2 3 (.iconst 0) := ⟨by decide +kernel, rfl⟩
theorem e_X5_filledAll_3 : z_D 1 M_X5_filledAll 3 4 (.istore_n 2) := ⟨by decide +kernel, rfl⟩
theorem e_X5_filledAll_4 : z_D 1 M_X5_filledAll 4 5 (.iload_n 2) := ⟨by decide +kernel, rfl⟩
theorem e_X5_filledAll_5 : z_D 1 M_X5_filledAll 5 6 (.aload_n 0) := ⟨by decide +kernel, rfl⟩
theorem e_X5_filledAll_6 : z_D 3 M_X5_filledAll 6 9 (.getfield 7) := ⟨by decide +kernel, rfl⟩
theorem e_X5_filledAll_9 : z_D 1 M_X5_filledAll 9 10 (.iconst 1) := ⟨by decide +kernel, rfl⟩
theorem e_X5_filledAll_10 : z_D 1 M_X5_filledAll 10 11 (.iaload) := ⟨by decide +kernel, rfl⟩
theorem e_X5_filledAll_11 : z_J M_X5_filledAll 11 14 31 (20) (.if_icmp .ge 20) := ⟨by decide +kernel, rfl, rfl⟩
theorem e_X5_filledAll_14 : z_D 1 M_X5_filledAll 14 15 (.iload_n 1) := ⟨by decide +kernel, rfl⟩
theorem e_X5_filledAll_15 : z_D 1 M_X5_filledAll 15 16 (.aload_n 0) := ⟨by decide +kernel, rfl⟩
theorem e_X5_filledAll_16 : z_D 2 M_X5_filledAll 16 18 (.bipush 24) := ⟨by decide +kernel, rfl⟩
theorem e_X5_filledAll_18 : z_D 1 M_X5_filledAll 18 19 (.iload_n 2) := ⟨by decide +kernel, rfl⟩
theorem e_X5_filledAll_19 : z_D 1 M_X5_filledAll 19 20 (.iadd) := ⟨by decide +kernel, rfl⟩
theorem e_X5_filledAll_20 : z_D 3 M_X5_filledAll 20 23 (.invokevirtual 68) := ⟨by decide +kernel, rfl⟩
theorem e_X5_filledAll_23 : z_D 1 M_X5_filledAll 23 24 (.iadd) := ⟨by decide +kernel, rfl⟩
theorem e_X5_filledAll_24 : z_D 1 M_X5_filledAll 24 25 (.istore_n 1) := ⟨by decide +kernel, rfl⟩
theorem e_X5_filledAll_25 : z_D 3 M_X5_filledAll 25 28 (.iinc 2 1) := ⟨by decide +kernel, rfl⟩
theorem e_X5_filledAll_28 : z_J M_X5_filledAll 28 31 4 (-24) (.goto (-24)) := ⟨by decide +kernel, rfl, rfl⟩
theorem e_X5_filledAll_31 : z_D 1 M_X5_filledAll 31 32 (.iload_n 1) := ⟨by decide +kernel, rfl⟩
theorem e_X5_filledAll_32 : z_D 1 M_X5_filledAll 32 33 (.ireturn) := ⟨by decide +kernel, rfl⟩
theorem e_X5_keepsRow_0 : z_D 1 M_X5_keepsRow 0 1 (.aload_n 0) := ⟨by decide +kernel, rfl⟩
theorem e_X5_keepsRow_1 : z_D 3 M_X5_keepsRow 1 4 (.getfield 7) := ⟨by decide +kernel, rfl⟩
theorem e_X5_keepsRow_4 : z_D 2 M_X5_keepsRow 4 6 (.bipush 14) := ⟨by decide +kernel, rfl⟩
theorem e_X5_keepsRow_6 : z_D 1 M_X5_keepsRow 6 7 (.iaload) := ⟨by decide +kernel, rfl⟩
theorem e_X5_keepsRow_7 : z_D 2 M_X5_keepsRow 7 9 (.bipush 24) := ⟨by decide +kernel, rfl⟩
theorem e_X5_keepsRow_9 : z_J M_X5_keepsRow 9 12 45 (36) (.if_icmp .ne 36) := ⟨by decide +kernel, rfl, rfl⟩
theorem e_X5_keepsRow_12 : z_D 1 M_X5_keepsRow 12 13 (.iconst 1) := ⟨by decide +kernel, rfl⟩
theorem e_X5_keepsRow_13 : z_D 1 M_X5_keepsRow 13 14 (.istore_n 2) := ⟨by decide +kernel, rfl⟩
theorem e_X5_keepsRow_14 : z_D 1 M_X5_keepsRow 14 15 (.iload_n 2) := ⟨by decide +kernel, rfl⟩
theorem e_X5_keepsRow_15 : z_D 2 M_X5_keepsRow 15 17 (.bipush 24) := ⟨by decide +kernel, rfl⟩
theorem e_X5_keepsRow_17 : z_J M_X5_keepsRow 17 20 34 (17) (.if_icmp .ge 17) := ⟨by decide +kernel, rfl, rfl⟩
theorem e_X5_keepsRow_20 : z_D 1 M_X5_keepsRow 20 21 (.aload_n 0) := ⟨by decide +kernel, rfl⟩
theorem e_X5_keepsRow_21 : z_D 1 M_X5_keepsRow 21 22 (.iload_n 2) := ⟨by decide +kernel, rfl⟩
theorem e_X5_keepsRow_22 : z_D 1 M_X5_keepsRow 22 23 (.iload_n 2) := ⟨by decide +kernel, rfl⟩
theorem e_X5_keepsRow_23 : z_D 1 M_X5_keepsRow 23 24 (.iconst 1) := ⟨by decide +kernel, rfl⟩
theorem e_X5_keepsRow_24 : z_D 1 M_X5_keepsRow 24 25 (.isub) := ⟨by decide +kernel, rfl⟩
theorem e_X5_keepsRow_25 : z_D 3 M_X5_keepsRow 25 28 (.invokevirtual 72) := ⟨by decide +kernel, rfl⟩
theorem e_X5_keepsRow_28 : z_D 3 M_X5_keepsRow 28 31 (.iinc 2 1) := ⟨by decide +kernel, rfl⟩
theorem e_X5_keepsRow_31 : z_J M_X5_keepsRow 31 34 14 (-17) (.goto (-17)) := ⟨by decide +kernel, rfl, rfl⟩
theorem e_X5_keepsRow_34 : z_D 1 M_X5_keepsRow 34 35 (.aload_n 0) := ⟨by decide +kernel, rfl⟩
theorem e_X5_keepsRow_35 : z_D 3 M_X5_keepsRow 35 38 (.getfield 7) := ⟨by decide +kernel, rfl⟩
theorem e_X5_keepsRow_38 : z_D 2 M_X5_keepsRow 38 40 (.bipush 14) := ⟨by decide +kernel, rfl⟩
theorem e_X5_keepsRow_40 : z_D 1 M_X5_keepsRow 40 41 (.dup2) := ⟨by decide +kernel, rfl⟩
theorem e_X5_keepsRow_41 : z_D 1 M_X5_keepsRow 41 42 (.iaload) := ⟨by decide +kernel, rfl⟩
theorem e_X5_keepsRow_42 : z_D 1 M_X5_keepsRow 42 43 (.iconst 1) := ⟨by decide +kernel, rfl⟩
theorem e_X5_keepsRow_43 : z_D 1 M_X5_keepsRow 43 44 (.isub) := ⟨by decide +kernel, rfl⟩
theorem e_X5_keepsRow_44 : z_D 1 M_X5_keepsRow 44 45 (.iastore) := ⟨by decide +kernel, rfl⟩
theorem e_X5_keepsRow_45 : z_D 1 M_X5_keepsRow 45 46 (.aload_n 0) := ⟨by decide +kernel, rfl⟩
theorem e_X5_keepsRow_46 : z_D 1 M_X5_keepsRow 46 47 (.iload_n 1) := ⟨by decide +kernel, rfl⟩
theorem e_X5_keepsRow_47 : z_D 1 M_X5_keepsRow 47 48 (.aload_n 0) := ⟨by decide +kernel, rfl⟩
theorem e_X5_keepsRow_48 : z_D 3 M_X5_keepsRow 48 51 (.getfield 7) := ⟨by decide +kernel, rfl⟩
theorem e_X5_keepsRow_51 : z_D 2 M_X5_keepsRow 51 53 (.bipush 14) := ⟨by decide +kernel, rfl⟩
theorem e_X5_keepsRow_53 : z_D 1 M_X5_keepsRow 53 54 (.iaload) := ⟨by decide +kernel, rfl⟩
theorem e_X5_keepsRow_54 : z_D 3 M_X5_keepsRow 54 57 (.invokevirtual 72) := ⟨by decide +kernel, rfl⟩
theorem e_X5_keepsRow_57 : z_D 1 M_X5_keepsRow 57 58 (.aload_n 0) := ⟨by decide +kernel, rfl⟩
theorem e_X5_keepsRow_58 : z_D 3 M_X5_keepsRow 58 61 (.getfield 7) := ⟨by decide +kernel, rfl⟩
theorem e_X5_keepsRow_61 : z_D 2 M_X5_keepsRow 61 63 (.bipush 14) := ⟨by decide +kernel, rfl⟩
theorem e_X5_keepsRow_63 : z_D 1 M_X5_keepsRow 63 64 (.dup2) := ⟨by decide +kernel, rfl⟩
theorem e_X5_keepsRow_64 : z_D 1 M_X5_keepsRow 64 65 (.iaload) := ⟨by decide +kernel, rfl⟩
theorem e_X5_keepsRow_65 : z_D 1 M_X5_keepsRow 65 66 (.iconst 1) := ⟨by decide +kernel, rfl⟩
theorem e_X5_keepsRow_66 : z_D 1 M_X5_keepsRow 66 67 (.iadd) := ⟨by decide +kernel, rfl⟩
theorem e_X5_keepsRow_67 : z_D 1 M_X5_keepsRow 67 68 (.iastore) := ⟨by decide +kernel, rfl⟩
theorem e_X5_keepsRow_68 : z_D 1 M_X5_keepsRow 68 69 (.return_) := ⟨by decide +kernel, rfl⟩
theorem e_X5_scrolls_0 : z_D 1 M_X5_scrolls 0 1 (.aload_n 0) := ⟨by decide +kernel, rfl⟩
theorem e_X5_scrolls_1 : z_D 3 M_X5_scrolls 1 4 (.getfield 7) := ⟨by decide +kernel, rfl⟩
theorem e_X5_scrolls_4 : z_D 1 M_X5_scrolls 4 5 (.iconst 2) := ⟨by decide +kernel, rfl⟩
theorem e_X5_scrolls_5 : z_D 1 M_X5_scrolls 5 6 (.iaload) := ⟨by decide +kernel, rfl⟩
theorem e_X5_scrolls_6 : z_D 1 M_X5_scrolls 6 7 (.istore_n 1) := ⟨by decide +kernel, rfl⟩
theorem e_X5_scrolls_7 : z_D 1 M_X5_scrolls 7 8 (.aload_n 0) := ⟨by decide +kernel, rfl⟩
theorem e_X5_scrolls_8 : z_D 3 M_X5_scrolls 8 11 (.getfield 7) := ⟨by decide +kernel, rfl⟩
theorem e_X5_scrolls_11 : z_D 1 M_X5_scrolls 11 12 (.iconst 3) := ⟨by decide +kernel, rfl⟩
theorem e_X5_scrolls_12 : z_D 1 M_X5_scrolls 12 13 (.iaload) := ⟨by decide +kernel, rfl⟩
theorem e_X5_scrolls_13 : z_D 1 M_X5_scrolls 13 14 (.istore_n 2) := ⟨by decide +kernel, rfl⟩
theorem e_X5_scrolls_14 : z_D 1 M_X5_scrolls 14 15 (.iload_n 1) := ⟨by decide +kernel, rfl⟩
theorem e_X5_scrolls_15 : z_J M_X5_scrolls 15 18 27 (12) (.ifCond .ne 12) := ⟨by decide +kernel, rfl, rfl⟩
theorem e_X5_scrolls_18 : z_D 1 M_X5_scrolls 18 19 (.aload_n 0) := ⟨by decide +kernel, rfl⟩
theorem e_X5_scrolls_19 : z_D 2 M_X5_scrolls 19 21 (.bipush 24) := ⟨by decide +kernel, rfl⟩
theorem e_X5_scrolls_21 : z_D 3 M_X5_scrolls 21 24 (.invokevirtual 76) := ⟨by decide +kernel, rfl⟩
theorem e_X5_scrolls_24 : z_J M_X5_scrolls 24 27 32 (8) (.goto 8) := ⟨by decide +kernel, rfl, rfl⟩
theorem e_X5_scrolls_27 : z_D 1 M_X5_scrolls 27 28 (.aload_n 0) := ⟨by decide +kernel, rfl⟩
theorem e_X5_scrolls_28 : z_D 1 M_X5_scrolls 28 29 (.iload_n 1) := ⟨by decide +kernel, rfl⟩
theorem e_X5_scrolls_29 : z_D 3 M_X5_scrolls 29 32 (.invokevirtual 79) := ⟨by decide +kernel, rfl⟩
theorem e_X5_scrolls_32 : z_D 1 M_X5_scrolls 32 33 (.iload_n 1) := ⟨by decide +kernel, rfl⟩
theorem e_X5_scrolls_33 : z_D 1 M_X5_scrolls 33 34 (.istore_n 3) := ⟨by decide +kernel, rfl⟩
theorem e_X5_scrolls_34 : z_D 1 M_X5_scrolls 34 35 (.iload_n 3) := ⟨by decide +kernel, rfl⟩
theorem e_X5_scrolls_35 : z_D 1 M_X5_scrolls 35 36 (.iload_n 2) := ⟨by decide +kernel, rfl⟩
theorem e_X5_scrolls_36 : z_J M_X5_scrolls 36 39 59 (23) (.if_icmp .ge 23) := ⟨by decide +kernel, rfl, rfl⟩
theorem e_X5_scrolls_39 : z_D 1 M_X5_scrolls 39 40 (.aload_n 0) := ⟨by decide +kernel, rfl⟩
theorem e_X5_scrolls_40 : z_D 2 M_X5_scrolls 40 42 (.bipush 24) := ⟨by decide +kernel, rfl⟩
theorem e_X5_scrolls_42 : z_D 1 M_X5_scrolls 42 43 (.iload_n 3) := ⟨by decide +kernel, rfl⟩
theorem e_X5_scrolls_43 : z_D 1 M_X5_scrolls 43 44 (.iadd) := ⟨by decide +kernel, rfl⟩
theorem e_X5_scrolls_44 : z_D 1 M_X5_scrolls 44 45 (.iconst 1) := ⟨by decide +kernel, rfl⟩
theorem e_X5_scrolls_45 : z_D 1 M_X5_scrolls 45 46 (.iadd) := ⟨by decide +kernel, rfl⟩
theorem e_X5_scrolls_46 : z_D 2 M_X5_scrolls 46 48 (.bipush 24) := ⟨by decide +kernel, rfl⟩
theorem e_X5_scrolls_48 : z_D 1 M_X5_scrolls 48 49 (.iload_n 3) := ⟨by decide +kernel, rfl⟩
theorem e_X5_scrolls_49 : z_D 1 M_X5_scrolls 49 50 (.iadd) := ⟨by decide +kernel, rfl⟩
theorem e_X5_scrolls_50 : z_D 3 M_X5_scrolls 50 53 (.invokevirtual 72) := ⟨by decide +kernel, rfl⟩
theorem e_X5_scrolls_53 : z_D 3 M_X5_scrolls 53 56 (.iinc 3 1) := ⟨by decide +kernel, rfl⟩
theorem e_X5_scrolls_56 : z_J M_X5_scrolls 56 59 34 (-22) (.goto (-22)) := ⟨by decide +kernel, rfl, rfl⟩
theorem e_X5_scrolls_59 : z_D 1 M_X5_scrolls 59 60 (.aload_n 0) := ⟨by decide +kernel, rfl⟩
theorem e_X5_scrolls_60 : z_D 2 M_X5_scrolls 60 62 (.bipush 24) := ⟨by decide +kernel, rfl⟩
theorem e_X5_scrolls_62 : z_D 1 M_X5_scrolls 62 63 (.iload_n 2) := ⟨by decide +kernel, rfl⟩
theorem e_X5_scrolls_63 : z_D 1 M_X5_scrolls 63 64 (.iadd) := ⟨by decide +kernel, rfl⟩
theorem e_X5_scrolls_64 : z_D 1 M_X5_scrolls 64 65 (.iconst 1) := ⟨by decide +kernel, rfl⟩
theorem e_X5_scrolls_65 : z_D 1 M_X5_scrolls 65 66 (.isub) := ⟨by decide +kernel, rfl⟩
theorem e_X5_scrolls_66 : z_D 3 M_X5_scrolls 66 69 (.invokevirtual 44) := ⟨by decide +kernel, rfl⟩
theorem e_X5_scrolls_69 : z_D 1 M_X5_scrolls 69 70 (.aload_n 0) := ⟨by decide +kernel, rfl⟩
theorem e_X5_scrolls_70 : z_D 2 M_X5_scrolls 70 72 (.bipush 24) := ⟨by decide +kernel, rfl⟩
theorem e_X5_scrolls_72 : z_D 1 M_X5_scrolls 72 73 (.iload_n 2) := ⟨by decide +kernel, rfl⟩
theorem e_X5_scrolls_73 : z_D 1 M_X5_scrolls 73 74 (.iadd) := ⟨by decide +kernel, rfl⟩
theorem e_X5_scrolls_74 : z_D 3 M_X5_scrolls 74 77 (.invokevirtual 32) := ⟨by decide +kernel, rfl⟩
theorem e_X5_scrolls_77 : z_D 1 M_X5_scrolls 77 78 (.return_) := ⟨by decide +kernel, rfl⟩
theorem e_X5_feedsLine_0 : z_D 1 M_X5_feedsLine 0 1 (.aload_n 0) := ⟨by decide +kernel, rfl⟩
theorem e_X5_feedsLine_1 : z_D 3 M_X5_feedsLine 1 4 (.getfield 7) := ⟨by decide +kernel, rfl⟩
theorem e_X5_feedsLine_4 : z_D 1 M_X5_feedsLine 4 5 (.iconst 4) := ⟨by decide +kernel, rfl⟩
theorem e_X5_feedsLine_5 : z_D 1 M_X5_feedsLine 5 6 (.iaload) := ⟨by decide +kernel, rfl⟩
theorem e_X5_feedsLine_6 : z_D 1 M_X5_feedsLine 6 7 (.aload_n 0) := ⟨by decide +kernel, rfl⟩
theorem e_X5_feedsLine_7 : z_D 3 M_X5_feedsLine 7 10 (.getfield 7) := ⟨by decide +kernel, rfl⟩
theorem e_X5_feedsLine_10 : z_D 1 M_X5_feedsLine 10 11 (.iconst 3) := ⟨by decide +kernel, rfl⟩
theorem e_X5_feedsLine_11 : z_D 1 M_X5_feedsLine 11 12 (.iaload) := ⟨by decide +kernel, rfl⟩
theorem e_X5_feedsLine_12 : z_J M_X5_feedsLine 12 15 21 (9) (.if_icmp .ne 9) := ⟨by decide +kernel, rfl, rfl⟩
theorem e_X5_feedsLine_15 : z_D 1 M_X5_feedsLine 15 16 (.aload_n 0) := ⟨by decide +kernel, rfl⟩
theorem e_X5_feedsLine_16 : z_D 3 M_X5_feedsLine 16 19 (.invokevirtual 82) := ⟨by decide +kernel, rfl⟩
theorem e_X5_feedsLine_19 : z_D 1 M_X5_feedsLine 19 20 (.iconst 1) := ⟨by decide +kernel, rfl⟩
theorem e_X5_feedsLine_20 : z_D 1 M_X5_feedsLine 20 21 (.ireturn) := ⟨by decide +kernel, rfl⟩
theorem e_X5_feedsLine_21 : z_D 1 M_X5_feedsLine 21 22 (.aload_n 0) := ⟨by decide +kernel, rfl⟩
theorem e_X5_feedsLine_22 : z_D 3 M_X5_feedsLine 22 25 (.getfield 7) := ⟨by decide +kernel, rfl⟩
theorem e_X5_feedsLine_25 : z_D 1 M_X5_feedsLine 25 26 (.iconst 4) := ⟨by decide +kernel, rfl⟩
theorem e_X5_feedsLine_26 : z_D 1 M_X5_feedsLine 26 27 (.iaload) := ⟨by decide +kernel, rfl⟩
theorem e_X5_feedsLine_27 : z_D 1 M_X5_feedsLine 27 28 (.aload_n 0) := ⟨by decide +kernel, rfl⟩
theorem e_X5_feedsLine_28 : z_D 3 M_X5_feedsLine 28 31 (.getfield 7) := ⟨by decide +kernel, rfl⟩
theorem e_X5_feedsLine_31 : z_D 1 M_X5_feedsLine 31 32 (.iconst 1) := ⟨by decide +kernel, rfl⟩
theorem e_X5_feedsLine_32 : z_D 1 M_X5_feedsLine 32 33 (.iaload) := ⟨by decide +kernel, rfl⟩
theorem e_X5_feedsLine_33 : z_D 1 M_X5_feedsLine 33 34 (.iconst 1) := ⟨by decide +kernel, rfl⟩
theorem e_X5_feedsLine_34 : z_D 1 M_X5_feedsLine 34 35 (.isub) := ⟨by decide +kernel, rfl⟩
theorem e_X5_feedsLine_35 : z_J M_X5_feedsLine 35 38 40 (5) (.if_icmp .ne 5) := ⟨by decide +kernel, rfl, rfl⟩
theorem e_X5_feedsLine_38 : z_D 1 M_X5_feedsLine 38 39 (.iconst 0) := ⟨by decide +kernel, rfl⟩
theorem e_X5_feedsLine_39 : z_D 1 M_X5_feedsLine 39 40 (.ireturn) := ⟨by decide +kernel, rfl⟩
theorem e_X5_feedsLine_40 : z_D 1 M_X5_feedsLine 40 41 (.aload_n 0) := ⟨by decide +kernel, rfl⟩
theorem e_X5_feedsLine_41 : z_D 3 M_X5_feedsLine 41 44 (.getfield 7) := ⟨by decide +kernel, rfl⟩
theorem e_X5_feedsLine_44 : z_D 1 M_X5_feedsLine 44 45 (.iconst 4) := ⟨by decide +kernel, rfl⟩
theorem e_X5_feedsLine_45 : z_D 1 M_X5_feedsLine 45 46 (.dup2) := ⟨by decide +kernel, rfl⟩
theorem e_X5_feedsLine_46 : z_D 1 M_X5_feedsLine 46 47 (.iaload) := ⟨by decide +kernel, rfl⟩
theorem e_X5_feedsLine_47 : z_D 1 M_X5_feedsLine 47 48 (.iconst 1) := ⟨by decide +kernel, rfl⟩
theorem e_X5_feedsLine_48 : z_D 1 M_X5_feedsLine 48 49 (.iadd) := ⟨by decide +kernel, rfl⟩
theorem e_X5_feedsLine_49 : z_D 1 M_X5_feedsLine 49 50 (.iastore) := ⟨by decide +kernel, rfl⟩
theorem e_X5_feedsLine_50 : z_D 1 M_X5_feedsLine 50 51 (.iconst 1) := ⟨by decide +kernel, rfl⟩
theorem e_X5_feedsLine_51 : z_D 1 M_X5_feedsLine 51 52 (.ireturn) := ⟨by decide +kernel, rfl⟩
theorem e_X5_goesOn_0 : z_D 1 M_X5_goesOn 0 1 (.aload_n 0) := ⟨by decide +kernel, rfl⟩
theorem e_X5_goesOn_1 : z_D 3 M_X5_goesOn 1 4 (.invokevirtual 85) := ⟨by decide +kernel, rfl⟩
theorem e_X5_goesOn_4 : z_D 1 M_X5_goesOn 4 5 (.istore_n 2) := ⟨by decide +kernel, rfl⟩
theorem e_X5_goesOn_5 : z_D 1 M_X5_goesOn 5 6 (.aload_n 0) := ⟨by decide +kernel, rfl⟩
theorem e_X5_goesOn_6 : z_D 3 M_X5_goesOn 6 9 (.getfield 7) := ⟨by decide +kernel, rfl⟩
theorem e_X5_goesOn_9 : z_D 1 M_X5_goesOn 9 10 (.iconst 5) := ⟨by decide +kernel, rfl⟩
theorem e_X5_goesOn_10 : z_D 1 M_X5_goesOn 10 11 (.iconst 0) := ⟨by decide +kernel, rfl⟩
theorem e_X5_goesOn_11 : z_D 1 M_X5_goesOn 11 12 (.iastore) := ⟨by decide +kernel, rfl⟩
theorem e_X5_goesOn_12 : z_D 1 M_X5_goesOn 12 13 (.iload_n 2) := ⟨by decide +kernel, rfl⟩
theorem e_X5_goesOn_13 : z_J M_X5_goesOn 13 16 70 (57) (.ifCond .eq 57) := ⟨by decide +kernel, rfl, rfl⟩
theorem e_X5_goesOn_16 : z_D 2 M_X5_goesOn 16 18 (.bipush 24) := ⟨by decide +kernel, rfl⟩
theorem e_X5_goesOn_18 : z_D 1 M_X5_goesOn 18 19 (.aload_n 0) := ⟨by decide +kernel, rfl⟩
theorem e_X5_goesOn_19 : z_D 3 M_X5_goesOn 19 22 (.getfield 7) := ⟨by decide +kernel, rfl⟩
theorem e_X5_goesOn_22 : z_D 1 M_X5_goesOn 22 23 (.iconst 4) := ⟨by decide +kernel, rfl⟩
theorem e_X5_goesOn_23 : z_D 1 M_X5_goesOn 23 24 (.iaload) := ⟨by decide +kernel, rfl⟩
theorem e_X5_goesOn_24 : z_D 1 M_X5_goesOn 24 25 (.iadd) := ⟨by decide +kernel, rfl⟩
theorem e_X5_goesOn_25 : z_D 1 M_X5_goesOn 25 26 (.iconst 1) := ⟨by decide +kernel, rfl⟩
theorem e_X5_goesOn_26 : z_D 1 M_X5_goesOn 26 27 (.isub) := ⟨by decide +kernel, rfl⟩
theorem e_X5_goesOn_27 : z_D 1 M_X5_goesOn 27 28 (.istore_n 3) := ⟨by decide +kernel, rfl⟩
theorem e_X5_goesOn_28 : z_D 1 M_X5_goesOn 28 29 (.aload_n 0) := ⟨by decide +kernel, rfl⟩
theorem e_X5_goesOn_29 : z_D 3 M_X5_goesOn 29 32 (.getfield 7) := ⟨by decide +kernel, rfl⟩
theorem e_X5_goesOn_32 : z_D 1 M_X5_goesOn 32 33 (.iload_n 3) := ⟨by decide +kernel, rfl⟩
theorem e_X5_goesOn_33 : z_D 2 M_X5_goesOn 33 35 (.bipush 20) := ⟨by decide +kernel, rfl⟩
theorem e_X5_goesOn_35 : z_D 3 M_X5_goesOn 35 38 (.invokestatic 40) := ⟨by decide +kernel, rfl⟩
theorem e_X5_goesOn_38 : z_D 1 M_X5_goesOn 38 39 (.iconst 1) := ⟨by decide +kernel, rfl⟩
theorem e_X5_goesOn_39 : z_D 1 M_X5_goesOn 39 40 (.iastore) := ⟨by decide +kernel, rfl⟩
theorem e_X5_goesOn_40 : z_D 1 M_X5_goesOn 40 41 (.aload_n 0) := ⟨by decide +kernel, rfl⟩
theorem e_X5_goesOn_41 : z_D 3 M_X5_goesOn 41 44 (.getfield 7) := ⟨by decide +kernel, rfl⟩
theorem e_X5_goesOn_44 : z_D 1 M_X5_goesOn 44 45 (.iload_n 3) := ⟨by decide +kernel, rfl⟩
theorem e_X5_goesOn_45 : z_D 2 M_X5_goesOn 45 47 (.bipush 21) := ⟨by decide +kernel, rfl⟩
theorem e_X5_goesOn_47 : z_D 3 M_X5_goesOn 47 50 (.invokestatic 40) := ⟨by decide +kernel, rfl⟩
theorem e_X5_goesOn_50 : z_D 1 M_X5_goesOn 50 51 (.iload_n 1) := ⟨by decide +kernel, rfl⟩
theorem e_X5_goesOn_51 : z_J M_X5_goesOn 51 54 58 (7) (.ifCond .eq 7) := ⟨by decide +kernel, rfl, rfl⟩
theorem e_X5_goesOn_54 : z_D 1 M_X5_goesOn 54 55 (.iconst 1) := ⟨by decide +kernel, rfl⟩
theorem e_X5_goesOn_55 : z_J M_X5_goesOn 55 58 69 (14) (.goto 14) := ⟨by decide +kernel, rfl, rfl⟩
theorem e_X5_goesOn_58 : z_D 1 M_X5_goesOn 58 59 (.aload_n 0) := ⟨by decide +kernel, rfl⟩
theorem e_X5_goesOn_59 : z_D 3 M_X5_goesOn 59 62 (.getfield 7) := ⟨by decide +kernel, rfl⟩
theorem e_X5_goesOn_62 : z_D 1 M_X5_goesOn 62 63 (.iload_n 3) := ⟨by decide +kernel, rfl⟩
theorem e_X5_goesOn_63 : z_D 2 M_X5_goesOn 63 65 (.bipush 21) := ⟨by decide +kernel, rfl⟩
theorem e_X5_goesOn_65 : z_D 3 M_X5_goesOn 65 68 (.invokestatic 40) := ⟨by decide +kernel, rfl⟩
theorem e_X5_goesOn_68 : z_D 1 M_X5_goesOn 68 69 (.iaload) := ⟨by decide +kernel, rfl⟩
theorem e_X5_goesOn_69 : z_D 1 M_X5_goesOn 69 70 (.iastore) := ⟨by decide +kernel, rfl⟩
theorem e_X5_goesOn_70 : z_D 1 M_X5_goesOn 70 71 (.return_) := ⟨by decide +kernel, rfl⟩
theorem e_X5_writes_0 : z_D 1 M_X5_writes 0 1 (.aload_n 0) := ⟨by decide +kernel, rfl⟩
theorem e_X5_writes_1 : z_D 3 M_X5_writes 1 4 (.getfield 7) := ⟨by decide +kernel, rfl⟩
theorem e_X5_writes_4 : z_D 2 M_X5_writes 4 6 (.bipush 6) := ⟨by decide +kernel, rfl⟩
theorem e_X5_writes_6 : z_D 1 M_X5_writes 6 7 (.iaload) := ⟨by decide +kernel, rfl⟩
theorem e_X5_writes_7 : z_D 1 M_X5_writes 7 8 (.iconst 1) := ⟨by decide +kernel, rfl⟩
theorem e_X5_writes_8 : z_J M_X5_writes 8 11 24 (16) (.if_icmp .ne 16) := ⟨by decide +kernel, rfl, rfl⟩
theorem e_X5_writes_11 : z_D 1 M_X5_writes 11 12 (.aload_n 0) := ⟨by decide +kernel, rfl⟩
theorem e_X5_writes_12 : z_D 3 M_X5_writes 12 15 (.getfield 7) := ⟨by decide +kernel, rfl⟩
theorem e_X5_writes_15 : z_D 2 M_X5_writes 15 17 (.bipush 6) := ⟨by decide +kernel, rfl⟩
theorem e_X5_writes_17 : z_D 1 M_X5_writes 17 18 (.iconst 0) := ⟨by decide +kernel, rfl⟩
theorem e_X5_writes_18 : z_D 1 M_X5_writes 18 19 (.iastore) := ⟨by decide +kernel, rfl⟩
theorem e_X5_writes_19 : z_D 1 M_X5_writes 19 20 (.aload_n 0) := ⟨by decide +kernel, rfl⟩
theorem e_X5_writes_20 : z_D 1 M_X5_writes 20 21 (.iconst 0) := ⟨by decide +kernel, rfl⟩
theorem e_X5_writes_21 : z_D 3 M_X5_writes 21 24 (.invokevirtual 89) := ⟨by decide +kernel, rfl⟩
theorem e_X5_writes_24 : z_D 1 M_X5_writes 24 25 (.iload_n 1) := ⟨by decide +kernel, rfl⟩
theorem e_X5_writes_25 : z_D 3 M_X5_writes 25 28 (.invokestatic 62) := ⟨by decide +kernel, rfl⟩
theorem e_X5_writes_28 : z_J M_X5_writes 28 31 35 (7) (.ifCond .eq 7) := ⟨by decide +kernel, rfl, rfl⟩
theorem e_X5_writes_31 : z_D 1 M_X5_writes 31 32 (.iconst 2) := ⟨by decide +kernel, rfl⟩
theorem e_X5_writes_32 : z_J M_X5_writes 32 35 36 (4) (.goto 4) := ⟨by decide +kernel, rfl, rfl⟩
theorem e_X5_writes_35 : z_D 1 M_X5_writes 35 36 (.iconst 1) := ⟨by decide +kernel, rfl⟩
theorem e_X5_writes_36 : z_D 1 M_X5_writes 36 37 (.istore_n 2) := ⟨by decide +kernel, rfl⟩
theorem e_X5_writes_37 : z_D 1 M_X5_writes 37 38 (.iload_n 2) := ⟨by decide +kernel, rfl⟩
theorem e_X5_writes_38 : z_D 1 M_X5_writes 38 39 (.iconst 2) := ⟨by decide +kernel, rfl⟩
theorem e_X5_writes_39 : z_J M_X5_writes 39 42 86 (47) (.if_icmp .ne 47) := ⟨by decide +kernel, rfl, rfl⟩
theorem e_X5_writes_42 : z_D 1 M_X5_writes 42 43 (.aload_n 0) := ⟨by decide +kernel, rfl⟩
theorem e_X5_writes_43 : z_D 3 M_X5_writes 43 46 (.getfield 7) := ⟨by decide +kernel, rfl⟩
theorem e_X5_writes_46 : z_D 1 M_X5_writes 46 47 (.iconst 5) := ⟨by decide +kernel, rfl⟩
theorem e_X5_writes_47 : z_D 1 M_X5_writes 47 48 (.iaload) := ⟨by decide +kernel, rfl⟩
theorem e_X5_writes_48 : z_D 1 M_X5_writes 48 49 (.aload_n 0) := ⟨by decide +kernel, rfl⟩
theorem e_X5_writes_49 : z_D 3 M_X5_writes 49 52 (.getfield 7) := ⟨by decide +kernel, rfl⟩
theorem e_X5_writes_52 : z_D 1 M_X5_writes 52 53 (.iconst 0) := ⟨by decide +kernel, rfl⟩
theorem e_X5_writes_53 : z_D 1 M_X5_writes 53 54 (.iaload) := ⟨by decide +kernel, rfl⟩
theorem e_X5_writes_54 : z_D 1 M_X5_writes 54 55 (.iconst 1) := ⟨by decide +kernel, rfl⟩
theorem e_X5_writes_55 : z_D 1 M_X5_writes 55 56 (.isub) := ⟨by decide +kernel, rfl⟩
theorem e_X5_writes_56 : z_J M_X5_writes 56 59 86 (30) (.if_icmp .ne 30) := ⟨by decide +kernel, rfl, rfl⟩
theorem e_X5_writes_59 : z_D 1 M_X5_writes 59 60 (.aload_n 0) := ⟨by decide +kernel, rfl⟩
theorem e_X5_writes_60 : z_D 1 M_X5_writes 60 61 (.aload_n 0) := ⟨by decide +kernel, rfl⟩
theorem e_X5_writes_61 : z_D 3 M_X5_writes 61 64 (.getfield 7) := ⟨by decide +kernel, rfl⟩
theorem e_X5_writes_64 : z_D 1 M_X5_writes 64 65 (.iconst 4) := ⟨by decide +kernel, rfl⟩
theorem e_X5_writes_65 : z_D 1 M_X5_writes 65 66 (.iaload) := ⟨by decide +kernel, rfl⟩
theorem e_X5_writes_66 : z_D 1 M_X5_writes 66 67 (.aload_n 0) := ⟨by decide +kernel, rfl⟩
theorem e_X5_writes_67 : z_D 3 M_X5_writes 67 70 (.getfield 7) := ⟨by decide +kernel, rfl⟩
theorem e_X5_writes_70 : z_D 1 M_X5_writes 70 71 (.iconst 5) := ⟨by decide +kernel, rfl⟩
theorem e_X5_writes_71 : z_D 1 M_X5_writes 71 72 (.iaload) := ⟨by decide +kernel, rfl⟩
theorem e_X5_writes_72 : z_D 1 M_X5_writes 72 73 (.aload_n 0) := ⟨by decide +kernel, rfl⟩
theorem e_X5_writes_73 : z_D 3 M_X5_writes 73 76 (.getfield 7) := ⟨by decide +kernel, rfl⟩
theorem e_X5_writes_76 : z_D 1 M_X5_writes 76 77 (.iconst 5) := ⟨by decide +kernel, rfl⟩
theorem e_X5_writes_77 : z_D 1 M_X5_writes 77 78 (.iaload) := ⟨by decide +kernel, rfl⟩
theorem e_X5_writes_78 : z_D 3 M_X5_writes 78 81 (.invokevirtual 93) := ⟨by decide +kernel, rfl⟩
theorem e_X5_writes_81 : z_D 1 M_X5_writes 81 82 (.aload_n 0) := ⟨by decide +kernel, rfl⟩
theorem e_X5_writes_82 : z_D 1 M_X5_writes 82 83 (.iconst 1) := ⟨by decide +kernel, rfl⟩
theorem e_X5_writes_83 : z_D 3 M_X5_writes 83 86 (.invokevirtual 89) := ⟨by decide +kernel, rfl⟩
theorem e_X5_writes_86 : z_D 1 M_X5_writes 86 87 (.aload_n 0) := ⟨by decide +kernel, rfl⟩
theorem e_X5_writes_87 : z_D 3 M_X5_writes 87 90 (.getfield 7) := ⟨by decide +kernel, rfl⟩
theorem e_X5_writes_90 : z_D 1 M_X5_writes 90 91 (.iconst 5) := ⟨by decide +kernel, rfl⟩
theorem e_X5_writes_91 : z_D 1 M_X5_writes 91 92 (.iaload) := ⟨by decide +kernel, rfl⟩
theorem e_X5_writes_92 : z_D 1 M_X5_writes 92 93 (.istore_n 3) := ⟨by decide +kernel, rfl⟩
theorem e_X5_writes_93 : z_D 1 M_X5_writes 93 94 (.aload_n 0) := ⟨by decide +kernel, rfl⟩
theorem e_X5_writes_94 : z_D 1 M_X5_writes 94 95 (.aload_n 0) := ⟨by decide +kernel, rfl⟩
theorem e_X5_writes_95 : z_D 3 M_X5_writes 95 98 (.getfield 7) := ⟨by decide +kernel, rfl⟩
theorem e_X5_writes_98 : z_D 1 M_X5_writes 98 99 (.iconst 4) := ⟨by decide +kernel, rfl⟩
theorem e_X5_writes_99 : z_D 1 M_X5_writes 99 100 (.iaload) := ⟨by decide +kernel, rfl⟩
theorem e_X5_writes_100 : z_D 1 M_X5_writes 100 101 (.iload_n 3) := ⟨by decide +kernel, rfl⟩
theorem e_X5_writes_101 : z_D 1 M_X5_writes 101 102 (.iload_n 3) := ⟨by decide +kernel, rfl⟩
theorem e_X5_writes_102 : z_D 1 M_X5_writes 102 103 (.iload_n 2) := ⟨by decide +kernel, rfl⟩
theorem e_X5_writes_103 : z_D 1 M_X5_writes 103 104 (.iadd) := ⟨by decide +kernel, rfl⟩
theorem e_X5_writes_104 : z_D 1 M_X5_writes 104 105 (.iconst 1) := ⟨by decide +kernel, rfl⟩
theorem e_X5_writes_105 : z_D 1 M_X5_writes 105 106 (.isub) := ⟨by decide +kernel, rfl⟩
theorem e_X5_writes_106 : z_D 3 M_X5_writes 106 109 (.invokevirtual 65) := ⟨by decide +kernel, rfl⟩
theorem e_X5_writes_109 : z_D 1 M_X5_writes 109 110 (.aload_n 0) := ⟨by decide +kernel, rfl⟩
theorem e_X5_writes_110 : z_D 1 M_X5_writes 110 111 (.aload_n 0) := ⟨by decide +kernel, rfl⟩
theorem e_X5_writes_111 : z_D 3 M_X5_writes 111 114 (.getfield 7) := ⟨by decide +kernel, rfl⟩
theorem e_X5_writes_114 : z_D 1 M_X5_writes 114 115 (.iconst 4) := ⟨by decide +kernel, rfl⟩
theorem e_X5_writes_115 : z_D 1 M_X5_writes 115 116 (.iaload) := ⟨by decide +kernel, rfl⟩
theorem e_X5_writes_116 : z_D 1 M_X5_writes 116 117 (.iload_n 3) := ⟨by decide +kernel, rfl⟩
theorem e_X5_writes_117 : z_D 1 M_X5_writes 117 118 (.iload_n 1) := ⟨by decide +kernel, rfl⟩
theorem e_X5_writes_118 : z_D 3 M_X5_writes 118 121 (.invokevirtual 58) := ⟨by decide +kernel, rfl⟩
theorem e_X5_writes_121 : z_D 1 M_X5_writes 121 122 (.iload_n 2) := ⟨by decide +kernel, rfl⟩
theorem e_X5_writes_122 : z_D 1 M_X5_writes 122 123 (.iconst 2) := ⟨by decide +kernel, rfl⟩
theorem e_X5_writes_123 : z_J M_X5_writes 123 126 144 (21) (.if_icmp .ne 21) := ⟨by decide +kernel, rfl, rfl⟩
theorem e_X5_writes_126 : z_D 1 M_X5_writes 126 127 (.aload_n 0) := ⟨by decide +kernel, rfl⟩
theorem e_X5_writes_127 : z_D 1 M_X5_writes 127 128 (.aload_n 0) := ⟨by decide +kernel, rfl⟩
theorem e_X5_writes_128 : z_D 3 M_X5_writes 128 131 (.getfield 7) := ⟨by decide +kernel, rfl⟩
theorem e_X5_writes_131 : z_D 1 M_X5_writes 131 132 (.iconst 4) := ⟨by decide +kernel, rfl⟩
theorem e_X5_writes_132 : z_D 1 M_X5_writes 132 133 (.iaload) := ⟨by decide +kernel, rfl⟩
theorem e_X5_writes_133 : z_D 1 M_X5_writes 133 134 (.iload_n 3) := ⟨by decide +kernel, rfl⟩
theorem e_X5_writes_134 : z_D 1 M_X5_writes 134 135 (.iconst 1) := ⟨by decide +kernel, rfl⟩
theorem e_X5_writes_135 : z_D 1 M_X5_writes 135 136 (.iadd) := ⟨by decide +kernel, rfl⟩
theorem e_X5_writes_136 : z_D 1 M_X5_writes 136 137 (.iload_n 1) := ⟨by decide +kernel, rfl⟩
theorem e_X5_writes_137 : z_D 3 M_X5_writes 137 140 (.sipush 128) := ⟨by decide +kernel, rfl⟩
theorem e_X5_writes_140 : z_D 1 M_X5_writes 140 141 (.iadd) := ⟨by decide +kernel, rfl⟩
theorem e_X5_writes_141 : z_D 3 M_X5_writes 141 144 (.invokevirtual 58) := ⟨by decide +kernel, rfl⟩
theorem e_X5_writes_144 : z_D 1 M_X5_writes 144 145 (.aload_n 0) := ⟨by decide +kernel, rfl⟩
theorem e_X5_writes_145 : z_D 3 M_X5_writes 145 148 (.getfield 7) := ⟨by decide +kernel, rfl⟩
theorem e_X5_writes_148 : z_D 1 M_X5_writes 148 149 (.iconst 5) := ⟨by decide +kernel, rfl⟩
theorem e_X5_writes_149 : z_D 1 M_X5_writes 149 150 (.iload_n 3) := ⟨by decide +kernel, rfl⟩
theorem e_X5_writes_150 : z_D 1 M_X5_writes 150 151 (.iload_n 2) := ⟨by decide +kernel, rfl⟩
theorem e_X5_writes_151 : z_D 1 M_X5_writes 151 152 (.iadd) := ⟨by decide +kernel, rfl⟩
theorem e_X5_writes_152 : z_D 1 M_X5_writes 152 153 (.aload_n 0) := ⟨by decide +kernel, rfl⟩
theorem e_X5_writes_153 : z_D 3 M_X5_writes 153 156 (.getfield 7) := ⟨by decide +kernel, rfl⟩
theorem e_X5_writes_156 : z_D 1 M_X5_writes 156 157 (.iconst 0) := ⟨by decide +kernel, rfl⟩
theorem e_X5_writes_157 : z_D 1 M_X5_writes 157 158 (.iaload) := ⟨by decide +kernel, rfl⟩
theorem e_X5_writes_158 : z_J M_X5_writes 158 161 167 (9) (.if_icmp .ge 9) := ⟨by decide +kernel, rfl, rfl⟩
theorem e_X5_writes_161 : z_D 1 M_X5_writes 161 162 (.iload_n 3) := ⟨by decide +kernel, rfl⟩
theorem e_X5_writes_162 : z_D 1 M_X5_writes 162 163 (.iload_n 2) := ⟨by decide +kernel, rfl⟩
theorem e_X5_writes_163 : z_D 1 M_X5_writes 163 164 (.iadd) := ⟨by decide +kernel, rfl⟩
theorem e_X5_writes_164 : z_J M_X5_writes 164 167 175 (11) (.goto 11) := ⟨by decide +kernel, rfl, rfl⟩
theorem e_X5_writes_167 : z_D 1 M_X5_writes 167 168 (.aload_n 0) := ⟨by decide +kernel, rfl⟩
theorem e_X5_writes_168 : z_D 3 M_X5_writes 168 171 (.getfield 7) := ⟨by decide +kernel, rfl⟩
theorem e_X5_writes_171 : z_D 1 M_X5_writes 171 172 (.iconst 0) := ⟨by decide +kernel, rfl⟩
theorem e_X5_writes_172 : z_D 1 M_X5_writes 172 173 (.iaload) := ⟨by decide +kernel, rfl⟩
theorem e_X5_writes_173 : z_D 1 M_X5_writes 173 174 (.iconst 1) := ⟨by decide +kernel, rfl⟩
theorem e_X5_writes_174 : z_D 1 M_X5_writes 174 175 (.isub) := ⟨by decide +kernel, rfl⟩
theorem e_X5_writes_175 : z_D 1 M_X5_writes 175 176 (.iastore) := ⟨by decide +kernel, rfl⟩
theorem e_X5_writes_176 : z_D 1 M_X5_writes 176 177 (.aload_n 0) := ⟨by decide +kernel, rfl⟩
theorem e_X5_writes_177 : z_D 3 M_X5_writes 177 180 (.getfield 7) := ⟨by decide +kernel, rfl⟩
theorem e_X5_writes_180 : z_D 2 M_X5_writes 180 182 (.bipush 6) := ⟨by decide +kernel, rfl⟩
theorem e_X5_writes_182 : z_D 1 M_X5_writes 182 183 (.iload_n 3) := ⟨by decide +kernel, rfl⟩
theorem e_X5_writes_183 : z_D 1 M_X5_writes 183 184 (.iload_n 2) := ⟨by decide +kernel, rfl⟩
theorem e_X5_writes_184 : z_D 1 M_X5_writes 184 185 (.iadd) := ⟨by decide +kernel, rfl⟩
theorem e_X5_writes_185 : z_D 1 M_X5_writes 185 186 (.aload_n 0) := ⟨by decide +kernel, rfl⟩
theorem e_X5_writes_186 : z_D 3 M_X5_writes 186 189 (.getfield 7) := ⟨by decide +kernel, rfl⟩
theorem e_X5_writes_189 : z_D 1 M_X5_writes 189 190 (.iconst 0) := ⟨by decide +kernel, rfl⟩
theorem e_X5_writes_190 : z_D 1 M_X5_writes 190 191 (.iaload) := ⟨by decide +kernel, rfl⟩
theorem e_X5_writes_191 : z_J M_X5_writes 191 194 198 (7) (.if_icmp .ne 7) := ⟨by decide +kernel, rfl, rfl⟩
theorem e_X5_writes_194 : z_D 1 M_X5_writes 194 195 (.iconst 1) := ⟨by decide +kernel, rfl⟩
theorem e_X5_writes_195 : z_J M_X5_writes 195 198 199 (4) (.goto 4) := ⟨by decide +kernel, rfl, rfl⟩
theorem e_X5_writes_198 : z_D 1 M_X5_writes 198 199 (.iconst 0) := ⟨by decide +kernel, rfl⟩
theorem e_X5_writes_199 : z_D 1 M_X5_writes 199 200 (.iastore) := ⟨by decide +kernel, rfl⟩
theorem e_X5_writes_200 : z_D 1 M_X5_writes 200 201 (.return_) := ⟨by decide +kernel, rfl⟩
theorem e_X5_moves_0 : z_D 1 M_X5_moves 0 1 (.aload_n 0) := ⟨by decide +kernel, rfl⟩
theorem e_X5_moves_1 : z_D 3 M_X5_moves 1 4 (.getfield 7) := ⟨by decide +kernel, rfl⟩
theorem e_X5_moves_4 : z_D 1 M_X5_moves 4 5 (.iconst 5) := ⟨by decide +kernel, rfl⟩
theorem e_X5_moves_5 : z_D 1 M_X5_moves 5 6 (.iaload) := ⟨by decide +kernel, rfl⟩
theorem e_X5_moves_6 : z_D 1 M_X5_moves 6 7 (.istore_n 2) := ⟨by decide +kernel, rfl⟩
theorem e_X5_moves_7 : z_D 1 M_X5_moves 7 8 (.iload_n 1) := ⟨by decide +kernel, rfl⟩
theorem e_X5_moves_8 : z_D 2 M_X5_moves 8 10 (.bipush 10) := ⟨by decide +kernel, rfl⟩
theorem e_X5_moves_10 : z_J M_X5_moves 10 13 18 (8) (.if_icmp .ne 8) := ⟨by decide +kernel, rfl, rfl⟩
theorem e_X5_moves_13 : z_D 1 M_X5_moves 13 14 (.aload_n 0) := ⟨by decide +kernel, rfl⟩
theorem e_X5_moves_14 : z_D 3 M_X5_moves 14 17 (.invokevirtual 85) := ⟨by decide +kernel, rfl⟩
theorem e_X5_moves_17 : z_D 1 M_X5_moves 17 18 (.pop) := ⟨by decide +kernel, rfl⟩
theorem e_X5_moves_18 : z_D 1 M_X5_moves 18 19 (.iconst 4) := ⟨by decide +kernel, rfl⟩
theorem e_X5_moves_19 : z_D 1 M_X5_moves 19 20 (.iload_n 2) := ⟨by decide +kernel, rfl⟩
theorem e_X5_moves_20 : z_D 1 M_X5_moves 20 21 (.iconst 4) := ⟨by decide +kernel, rfl⟩
theorem e_X5_moves_21 : z_D 1 M_X5_moves 21 22 (.idiv) := ⟨by decide +kernel, rfl⟩
theorem e_X5_moves_22 : z_D 1 M_X5_moves 22 23 (.iconst 1) := ⟨by decide +kernel, rfl⟩
theorem e_X5_moves_23 : z_D 1 M_X5_moves 23 24 (.iadd) := ⟨by decide +kernel, rfl⟩
theorem e_X5_moves_24 : z_D 1 M_X5_moves 24 25 (.imul) := ⟨by decide +kernel, rfl⟩
theorem e_X5_moves_25 : z_D 1 M_X5_moves 25 26 (.istore_n 3) := ⟨by decide +kernel, rfl⟩
theorem e_X5_moves_26 : z_D 1 M_X5_moves 26 27 (.iload_n 3) := ⟨by decide +kernel, rfl⟩
theorem e_X5_moves_27 : z_D 1 M_X5_moves 27 28 (.aload_n 0) := ⟨by decide +kernel, rfl⟩
theorem e_X5_moves_28 : z_D 3 M_X5_moves 28 31 (.getfield 7) := ⟨by decide +kernel, rfl⟩
theorem e_X5_moves_31 : z_D 1 M_X5_moves 31 32 (.iconst 0) := ⟨by decide +kernel, rfl⟩
theorem e_X5_moves_32 : z_D 1 M_X5_moves 32 33 (.iaload) := ⟨by decide +kernel, rfl⟩
theorem e_X5_moves_33 : z_J M_X5_moves 33 36 40 (7) (.if_icmp .ge 7) := ⟨by decide +kernel, rfl, rfl⟩
theorem e_X5_moves_36 : z_D 1 M_X5_moves 36 37 (.iload_n 3) := ⟨by decide +kernel, rfl⟩
theorem e_X5_moves_37 : z_J M_X5_moves 37 40 48 (11) (.goto 11) := ⟨by decide +kernel, rfl, rfl⟩
theorem e_X5_moves_40 : z_D 1 M_X5_moves 40 41 (.aload_n 0) := ⟨by decide +kernel, rfl⟩
theorem e_X5_moves_41 : z_D 3 M_X5_moves 41 44 (.getfield 7) := ⟨by decide +kernel, rfl⟩
theorem e_X5_moves_44 : z_D 1 M_X5_moves 44 45 (.iconst 0) := ⟨by decide +kernel, rfl⟩
theorem e_X5_moves_45 : z_D 1 M_X5_moves 45 46 (.iaload) := ⟨by decide +kernel, rfl⟩
theorem e_X5_moves_46 : z_D 1 M_X5_moves 46 47 (.iconst 1) := ⟨by decide +kernel, rfl⟩
theorem e_X5_moves_47 : z_D 1 M_X5_moves 47 48 (.isub) := ⟨by decide +kernel, rfl⟩
theorem e_X5_moves_48 : z_D 1 M_X5_moves 48 49 (.istore_n 3) := ⟨by decide +kernel, rfl⟩
theorem e_X5_moves_49 : z_D 1 M_X5_moves 49 50 (.aload_n 0) := ⟨by decide +kernel, rfl⟩
theorem e_X5_moves_50 : z_D 3 M_X5_moves 50 53 (.getfield 7) := ⟨by decide +kernel, rfl⟩
theorem e_X5_moves_53 : z_D 1 M_X5_moves 53 54 (.iconst 5) := ⟨by decide +kernel, rfl⟩
theorem e_X5_moves_54 : z_D 1 M_X5_moves 54 55 (.iload_n 1) := ⟨by decide +kernel, rfl⟩
theorem e_X5_moves_55 : z_D 2 M_X5_moves 55 57 (.bipush 8) := ⟨by decide +kernel, rfl⟩
theorem e_X5_moves_57 : z_J M_X5_moves 57 60 74 (17) (.if_icmp .ne 17) := ⟨by decide +kernel, rfl, rfl⟩
theorem e_X5_moves_60 : z_D 1 M_X5_moves 60 61 (.iload_n 2) := ⟨by decide +kernel, rfl⟩
theorem e_X5_moves_61 : z_J M_X5_moves 61 64 70 (9) (.ifCond .le 9) := ⟨by decide +kernel, rfl, rfl⟩
theorem e_X5_moves_64 : z_D 1 M_X5_moves 64 65 (.iload_n 2) := ⟨by decide +kernel, rfl⟩
theorem e_X5_moves_65 : z_D 1 M_X5_moves 65 66 (.iconst 1) := ⟨by decide +kernel, rfl⟩
theorem e_X5_moves_66 : z_D 1 M_X5_moves 66 67 (.isub) := ⟨by decide +kernel, rfl⟩
theorem e_X5_moves_67 : z_J M_X5_moves 67 70 95 (28) (.goto 28) := ⟨by decide +kernel, rfl, rfl⟩
theorem e_X5_moves_70 : z_D 1 M_X5_moves 70 71 (.iconst 0) := ⟨by decide +kernel, rfl⟩
theorem e_X5_moves_71 : z_J M_X5_moves 71 74 95 (24) (.goto 24) := ⟨by decide +kernel, rfl, rfl⟩
theorem e_X5_moves_74 : z_D 1 M_X5_moves 74 75 (.iload_n 1) := ⟨by decide +kernel, rfl⟩
theorem e_X5_moves_75 : z_D 2 M_X5_moves 75 77 (.bipush 9) := ⟨by decide +kernel, rfl⟩
theorem e_X5_moves_77 : z_J M_X5_moves 77 80 84 (7) (.if_icmp .ne 7) := ⟨by decide +kernel, rfl, rfl⟩
theorem e_X5_moves_80 : z_D 1 M_X5_moves 80 81 (.iload_n 3) := ⟨by decide +kernel, rfl⟩
theorem e_X5_moves_81 : z_J M_X5_moves 81 84 95 (14) (.goto 14) := ⟨by decide +kernel, rfl, rfl⟩
theorem e_X5_moves_84 : z_D 1 M_X5_moves 84 85 (.iload_n 1) := ⟨by decide +kernel, rfl⟩
theorem e_X5_moves_85 : z_D 2 M_X5_moves 85 87 (.bipush 13) := ⟨by decide +kernel, rfl⟩
theorem e_X5_moves_87 : z_J M_X5_moves 87 90 94 (7) (.if_icmp .ne 7) := ⟨by decide +kernel, rfl, rfl⟩
theorem e_X5_moves_90 : z_D 1 M_X5_moves 90 91 (.iconst 0) := ⟨by decide +kernel, rfl⟩
theorem e_X5_moves_91 : z_J M_X5_moves 91 94 95 (4) (.goto 4) := ⟨by decide +kernel, rfl, rfl⟩
theorem e_X5_moves_94 : z_D 1 M_X5_moves 94 95 (.iload_n 2) := ⟨by decide +kernel, rfl⟩
theorem e_X5_moves_95 : z_D 1 M_X5_moves 95 96 (.iastore) := ⟨by decide +kernel, rfl⟩
theorem e_X5_moves_96 : z_D 1 M_X5_moves 96 97 (.aload_n 0) := ⟨by decide +kernel, rfl⟩
theorem e_X5_moves_97 : z_D 3 M_X5_moves 97 100 (.getfield 7) := ⟨by decide +kernel, rfl⟩
theorem e_X5_moves_100 : z_D 2 M_X5_moves 100 102 (.bipush 6) := ⟨by decide +kernel, rfl⟩
theorem e_X5_moves_102 : z_D 1 M_X5_moves 102 103 (.iconst 0) := ⟨by decide +kernel, rfl⟩
theorem e_X5_moves_103 : z_D 1 M_X5_moves 103 104 (.iastore) := ⟨by decide +kernel, rfl⟩
theorem e_X5_moves_104 : z_D 1 M_X5_moves 104 105 (.return_) := ⟨by decide +kernel, rfl⟩
theorem e_X5_feed_0 : z_D 1 M_X5_feed 0 1 (.iload_n 1) := ⟨by decide +kernel, rfl⟩
theorem e_X5_feed_1 : z_D 2 M_X5_feed 1 3 (.bipush 8) := ⟨by decide +kernel, rfl⟩
theorem e_X5_feed_3 : z_D 2 M_X5_feed 3 5 (.bipush 10) := ⟨by decide +kernel, rfl⟩
theorem e_X5_feed_5 : z_D 3 M_X5_feed 5 8 (.invokestatic 47) := ⟨by decide +kernel, rfl⟩
theorem e_X5_feed_8 : z_J M_X5_feed 8 11 17 (9) (.ifCond .ne 9) := ⟨by decide +kernel, rfl, rfl⟩
theorem e_X5_feed_11 : z_D 1 M_X5_feed 11 12 (.iload_n 1) := ⟨by decide +kernel, rfl⟩
end
section
theorem e_X5_feed_12 : z_D 2 M_X5_feed 12 14 (.bipush 13) := ⟨by decide +kernel, rfl⟩
theorem e_X5_feed_14 : z_J M_X5_feed 14 17 21 (7) (.if_icmp .ne 7) := ⟨by decide +kernel, rfl, rfl⟩
theorem e_X5_feed_17 : z_D 1 M_X5_feed 17 18 (.iconst 1) := ⟨by decide +kernel, rfl⟩
theorem e_X5_feed_18 : z_J M_X5_feed 18 21 22 (4) (.goto 4) := ⟨by decide +kernel, rfl, rfl⟩
theorem e_X5_feed_21 : z_D 1 M_X5_feed 21 22 (.iconst 0) := ⟨by decide +kernel, rfl⟩
theorem e_X5_feed_22 : z_D 1 M_X5_feed 22 23 (.istore_n 2) := ⟨by decide +kernel, rfl⟩
theorem e_X5_feed_23 : z_D 1 M_X5_feed 23 24 (.iload_n 2) := ⟨by decide +kernel, rfl⟩
theorem e_X5_feed_24 : z_J M_X5_feed 24 27 40 (16) (.ifCond .ne 16) := ⟨by decide +kernel, rfl, rfl⟩
theorem e_X5_feed_27 : z_D 1 M_X5_feed 27 28 (.iload_n 1) := ⟨by decide +kernel, rfl⟩
theorem e_X5_feed_28 : z_D 2 M_X5_feed 28 30 (.bipush 32) := ⟨by decide +kernel, rfl⟩
theorem e_X5_feed_30 : z_D 2 M_X5_feed 30 32 (.bipush 126) := ⟨by decide +kernel, rfl⟩
theorem e_X5_feed_32 : z_D 3 M_X5_feed 32 35 (.invokestatic 47) := ⟨by decide +kernel, rfl⟩
theorem e_X5_feed_35 : z_J M_X5_feed 35 38 40 (5) (.ifCond .ne 5) := ⟨by decide +kernel, rfl, rfl⟩
theorem e_X5_feed_38 : z_D 1 M_X5_feed 38 39 (.iconst (-1)) := ⟨by decide +kernel, rfl⟩
theorem e_X5_feed_39 : z_D 1 M_X5_feed 39 40 (.ireturn) := ⟨by decide +kernel, rfl⟩
theorem e_X5_feed_40 : z_D 1 M_X5_feed 40 41 (.aload_n 0) := ⟨by decide +kernel, rfl⟩
theorem e_X5_feed_41 : z_D 3 M_X5_feed 41 44 (.invokevirtual 96) := ⟨by decide +kernel, rfl⟩
theorem e_X5_feed_44 : z_D 1 M_X5_feed 44 45 (.iload_n 2) := ⟨by decide +kernel, rfl⟩
theorem e_X5_feed_45 : z_J M_X5_feed 45 48 56 (11) (.ifCond .eq 11) := ⟨by decide +kernel, rfl, rfl⟩
theorem e_X5_feed_48 : z_D 1 M_X5_feed 48 49 (.aload_n 0) := ⟨by decide +kernel, rfl⟩
theorem e_X5_feed_49 : z_D 1 M_X5_feed 49 50 (.iload_n 1) := ⟨by decide +kernel, rfl⟩
theorem e_X5_feed_50 : z_D 3 M_X5_feed 50 53 (.invokevirtual 99) := ⟨by decide +kernel, rfl⟩
theorem e_X5_feed_53 : z_J M_X5_feed 53 56 61 (8) (.goto 8) := ⟨by decide +kernel, rfl, rfl⟩
theorem e_X5_feed_56 : z_D 1 M_X5_feed 56 57 (.aload_n 0) := ⟨by decide +kernel, rfl⟩
theorem e_X5_feed_57 : z_D 1 M_X5_feed 57 58 (.iload_n 1) := ⟨by decide +kernel, rfl⟩
theorem e_X5_feed_58 : z_D 3 M_X5_feed 58 61 (.invokevirtual 102) := ⟨by decide +kernel, rfl⟩
theorem e_X5_feed_61 : z_D 1 M_X5_feed 61 62 (.aload_n 0) := ⟨by decide +kernel, rfl⟩
theorem e_X5_feed_62 : z_D 3 M_X5_feed 62 65 (.getfield 7) := ⟨by decide +kernel, rfl⟩
theorem e_X5_feed_65 : z_D 2 M_X5_feed 65 67 (.bipush 14) := ⟨by decide +kernel, rfl⟩
theorem e_X5_feed_67 : z_D 1 M_X5_feed 67 68 (.iaload) := ⟨by decide +kernel, rfl⟩
theorem e_X5_feed_68 : z_D 1 M_X5_feed 68 69 (.ireturn) := ⟨by decide +kernel, rfl⟩
theorem e_X5_isRow_0 : z_D 1 M_X5_isRow 0 1 (.iload_n 1) := ⟨by decide +kernel, rfl⟩
theorem e_X5_isRow_1 : z_D 1 M_X5_isRow 1 2 (.iconst 0) := ⟨by decide +kernel, rfl⟩
theorem e_X5_isRow_2 : z_D 1 M_X5_isRow 2 3 (.aload_n 0) := ⟨by decide +kernel, rfl⟩
theorem e_X5_isRow_3 : z_D 3 M_X5_isRow 3 6 (.getfield 7) := ⟨by decide +kernel, rfl⟩
theorem e_X5_isRow_6 : z_D 1 M_X5_isRow 6 7 (.iconst 1) := ⟨by decide +kernel, rfl⟩
theorem e_X5_isRow_7 : z_D 1 M_X5_isRow 7 8 (.iaload) := ⟨by decide +kernel, rfl⟩
theorem e_X5_isRow_8 : z_D 1 M_X5_isRow 8 9 (.iconst 1) := ⟨by decide +kernel, rfl⟩
theorem e_X5_isRow_9 : z_D 1 M_X5_isRow 9 10 (.isub) := ⟨by decide +kernel, rfl⟩
theorem e_X5_isRow_10 : z_D 3 M_X5_isRow 10 13 (.invokestatic 47) := ⟨by decide +kernel, rfl⟩
theorem e_X5_isRow_13 : z_D 1 M_X5_isRow 13 14 (.ireturn) := ⟨by decide +kernel, rfl⟩
theorem e_X5_isColumn_0 : z_D 1 M_X5_isColumn 0 1 (.iload_n 1) := ⟨by decide +kernel, rfl⟩
theorem e_X5_isColumn_1 : z_D 1 M_X5_isColumn 1 2 (.iconst 0) := ⟨by decide +kernel, rfl⟩
theorem e_X5_isColumn_2 : z_D 1 M_X5_isColumn 2 3 (.aload_n 0) := ⟨by decide +kernel, rfl⟩
theorem e_X5_isColumn_3 : z_D 3 M_X5_isColumn 3 6 (.getfield 7) := ⟨by decide +kernel, rfl⟩
theorem e_X5_isColumn_6 : z_D 1 M_X5_isColumn 6 7 (.iconst 0) := ⟨by decide +kernel, rfl⟩
theorem e_X5_isColumn_7 : z_D 1 M_X5_isColumn 7 8 (.iaload) := ⟨by decide +kernel, rfl⟩
theorem e_X5_isColumn_8 : z_D 1 M_X5_isColumn 8 9 (.iconst 1) := ⟨by decide +kernel, rfl⟩
theorem e_X5_isColumn_9 : z_D 1 M_X5_isColumn 9 10 (.isub) := ⟨by decide +kernel, rfl⟩
theorem e_X5_isColumn_10 : z_D 3 M_X5_isColumn 10 13 (.invokestatic 47) := ⟨by decide +kernel, rfl⟩
theorem e_X5_isColumn_13 : z_D 1 M_X5_isColumn 13 14 (.ireturn) := ⟨by decide +kernel, rfl⟩
theorem e_X5_goes_0 : z_D 1 M_X5_goes 0 1 (.aload_n 0) := ⟨by decide +kernel, rfl⟩
theorem e_X5_goes_1 : z_D 3 M_X5_goes 1 4 (.getfield 7) := ⟨by decide +kernel, rfl⟩
theorem e_X5_goes_4 : z_D 1 M_X5_goes 4 5 (.iconst 4) := ⟨by decide +kernel, rfl⟩
theorem e_X5_goes_5 : z_D 1 M_X5_goes 5 6 (.iload_n 1) := ⟨by decide +kernel, rfl⟩
theorem e_X5_goes_6 : z_D 1 M_X5_goes 6 7 (.iastore) := ⟨by decide +kernel, rfl⟩
theorem e_X5_goes_7 : z_D 1 M_X5_goes 7 8 (.aload_n 0) := ⟨by decide +kernel, rfl⟩
theorem e_X5_goes_8 : z_D 3 M_X5_goes 8 11 (.getfield 7) := ⟨by decide +kernel, rfl⟩
theorem e_X5_goes_11 : z_D 1 M_X5_goes 11 12 (.iconst 5) := ⟨by decide +kernel, rfl⟩
theorem e_X5_goes_12 : z_D 1 M_X5_goes 12 13 (.iload_n 2) := ⟨by decide +kernel, rfl⟩
theorem e_X5_goes_13 : z_D 1 M_X5_goes 13 14 (.iastore) := ⟨by decide +kernel, rfl⟩
theorem e_X5_goes_14 : z_D 1 M_X5_goes 14 15 (.aload_n 0) := ⟨by decide +kernel, rfl⟩
theorem e_X5_goes_15 : z_D 3 M_X5_goes 15 18 (.getfield 7) := ⟨by decide +kernel, rfl⟩
theorem e_X5_goes_18 : z_D 2 M_X5_goes 18 20 (.bipush 6) := ⟨by decide +kernel, rfl⟩
theorem e_X5_goes_20 : z_D 1 M_X5_goes 20 21 (.iconst 0) := ⟨by decide +kernel, rfl⟩
theorem e_X5_goes_21 : z_D 1 M_X5_goes 21 22 (.iastore) := ⟨by decide +kernel, rfl⟩
theorem e_X5_goes_22 : z_D 1 M_X5_goes 22 23 (.return_) := ⟨by decide +kernel, rfl⟩
theorem e_X5_moveTo_0 : z_D 1 M_X5_moveTo 0 1 (.aload_n 0) := ⟨by decide +kernel, rfl⟩
theorem e_X5_moveTo_1 : z_D 1 M_X5_moveTo 1 2 (.iload_n 1) := ⟨by decide +kernel, rfl⟩
theorem e_X5_moveTo_2 : z_D 3 M_X5_moveTo 2 5 (.invokevirtual 105) := ⟨by decide +kernel, rfl⟩
theorem e_X5_moveTo_5 : z_J M_X5_moveTo 5 8 16 (11) (.ifCond .eq 11) := ⟨by decide +kernel, rfl, rfl⟩
theorem e_X5_moveTo_8 : z_D 1 M_X5_moveTo 8 9 (.aload_n 0) := ⟨by decide +kernel, rfl⟩
theorem e_X5_moveTo_9 : z_D 1 M_X5_moveTo 9 10 (.iload_n 2) := ⟨by decide +kernel, rfl⟩
theorem e_X5_moveTo_10 : z_D 3 M_X5_moveTo 10 13 (.invokevirtual 108) := ⟨by decide +kernel, rfl⟩
theorem e_X5_moveTo_13 : z_J M_X5_moveTo 13 16 18 (5) (.ifCond .ne 5) := ⟨by decide +kernel, rfl, rfl⟩
theorem e_X5_moveTo_16 : z_D 1 M_X5_moveTo 16 17 (.iconst (-1)) := ⟨by decide +kernel, rfl⟩
theorem e_X5_moveTo_17 : z_D 1 M_X5_moveTo 17 18 (.ireturn) := ⟨by decide +kernel, rfl⟩
theorem e_X5_moveTo_18 : z_D 1 M_X5_moveTo 18 19 (.aload_n 0) := ⟨by decide +kernel, rfl⟩
theorem e_X5_moveTo_19 : z_D 3 M_X5_moveTo 19 22 (.invokevirtual 96) := ⟨by decide +kernel, rfl⟩
theorem e_X5_moveTo_22 : z_D 1 M_X5_moveTo 22 23 (.aload_n 0) := ⟨by decide +kernel, rfl⟩
theorem e_X5_moveTo_23 : z_D 3 M_X5_moveTo 23 26 (.getfield 7) := ⟨by decide +kernel, rfl⟩
theorem e_X5_moveTo_26 : z_D 1 M_X5_moveTo 26 27 (.iconst 0) := ⟨by decide +kernel, rfl⟩
theorem e_X5_moveTo_27 : z_D 1 M_X5_moveTo 27 28 (.iaload) := ⟨by decide +kernel, rfl⟩
theorem e_X5_moveTo_28 : z_D 1 M_X5_moveTo 28 29 (.aload_n 0) := ⟨by decide +kernel, rfl⟩
theorem e_X5_moveTo_29 : z_D 3 M_X5_moveTo 29 32 (.getfield 7) := ⟨by decide +kernel, rfl⟩
theorem e_X5_moveTo_32 : z_D 1 M_X5_moveTo 32 33 (.iconst 4) := ⟨by decide +kernel, rfl⟩
theorem e_X5_moveTo_33 : z_D 1 M_X5_moveTo 33 34 (.iaload) := ⟨by decide +kernel, rfl⟩
theorem e_X5_moveTo_34 : z_D 1 M_X5_moveTo 34 35 (.imul) := ⟨by decide +kernel, rfl⟩
theorem e_X5_moveTo_35 : z_D 1 M_X5_moveTo 35 36 (.aload_n 0) := ⟨by decide +kernel, rfl⟩
theorem e_X5_moveTo_36 : z_D 3 M_X5_moveTo 36 39 (.getfield 7) := ⟨by decide +kernel, rfl⟩
theorem e_X5_moveTo_39 : z_D 1 M_X5_moveTo 39 40 (.iconst 5) := ⟨by decide +kernel, rfl⟩
theorem e_X5_moveTo_40 : z_D 1 M_X5_moveTo 40 41 (.iaload) := ⟨by decide +kernel, rfl⟩
theorem e_X5_moveTo_41 : z_D 1 M_X5_moveTo 41 42 (.iadd) := ⟨by decide +kernel, rfl⟩
theorem e_X5_moveTo_42 : z_D 1 M_X5_moveTo 42 43 (.istore_n 3) := ⟨by decide +kernel, rfl⟩
theorem e_X5_moveTo_43 : z_D 1 M_X5_moveTo 43 44 (.aload_n 0) := ⟨by decide +kernel, rfl⟩
theorem e_X5_moveTo_44 : z_D 1 M_X5_moveTo 44 45 (.iload_n 1) := ⟨by decide +kernel, rfl⟩
theorem e_X5_moveTo_45 : z_D 1 M_X5_moveTo 45 46 (.iload_n 2) := ⟨by decide +kernel, rfl⟩
theorem e_X5_moveTo_46 : z_D 3 M_X5_moveTo 46 49 (.invokevirtual 111) := ⟨by decide +kernel, rfl⟩
theorem e_X5_moveTo_49 : z_D 1 M_X5_moveTo 49 50 (.iload_n 3) := ⟨by decide +kernel, rfl⟩
theorem e_X5_moveTo_50 : z_D 1 M_X5_moveTo 50 51 (.ireturn) := ⟨by decide +kernel, rfl⟩
theorem e_X5_setRegion_0 : z_D 1 M_X5_setRegion 0 1 (.aload_n 0) := ⟨by decide +kernel, rfl⟩
theorem e_X5_setRegion_1 : z_D 1 M_X5_setRegion 1 2 (.iload_n 1) := ⟨by decide +kernel, rfl⟩
theorem e_X5_setRegion_2 : z_D 3 M_X5_setRegion 2 5 (.invokevirtual 105) := ⟨by decide +kernel, rfl⟩
theorem e_X5_setRegion_5 : z_J M_X5_setRegion 5 8 21 (16) (.ifCond .eq 16) := ⟨by decide +kernel, rfl, rfl⟩
theorem e_X5_setRegion_8 : z_D 1 M_X5_setRegion 8 9 (.aload_n 0) := ⟨by decide +kernel, rfl⟩
theorem e_X5_setRegion_9 : z_D 1 M_X5_setRegion 9 10 (.iload_n 2) := ⟨by decide +kernel, rfl⟩
theorem e_X5_setRegion_10 : z_D 3 M_X5_setRegion 10 13 (.invokevirtual 105) := ⟨by decide +kernel, rfl⟩
theorem e_X5_setRegion_13 : z_J M_X5_setRegion 13 16 21 (8) (.ifCond .eq 8) := ⟨by decide +kernel, rfl, rfl⟩
theorem e_X5_setRegion_16 : z_D 1 M_X5_setRegion 16 17 (.iload_n 2) := ⟨by decide +kernel, rfl⟩
theorem e_X5_setRegion_17 : z_D 1 M_X5_setRegion 17 18 (.iload_n 1) := ⟨by decide +kernel, rfl⟩
theorem e_X5_setRegion_18 : z_J M_X5_setRegion 18 21 23 (5) (.if_icmp .gt 5) := ⟨by decide +kernel, rfl, rfl⟩
theorem e_X5_setRegion_21 : z_D 1 M_X5_setRegion 21 22 (.iconst (-1)) := ⟨by decide +kernel, rfl⟩
theorem e_X5_setRegion_22 : z_D 1 M_X5_setRegion 22 23 (.ireturn) := ⟨by decide +kernel, rfl⟩
theorem e_X5_setRegion_23 : z_D 1 M_X5_setRegion 23 24 (.aload_n 0) := ⟨by decide +kernel, rfl⟩
theorem e_X5_setRegion_24 : z_D 3 M_X5_setRegion 24 27 (.invokevirtual 96) := ⟨by decide +kernel, rfl⟩
theorem e_X5_setRegion_27 : z_D 1 M_X5_setRegion 27 28 (.aload_n 0) := ⟨by decide +kernel, rfl⟩
theorem e_X5_setRegion_28 : z_D 3 M_X5_setRegion 28 31 (.getfield 7) := ⟨by decide +kernel, rfl⟩
theorem e_X5_setRegion_31 : z_D 1 M_X5_setRegion 31 32 (.iconst 2) := ⟨by decide +kernel, rfl⟩
theorem e_X5_setRegion_32 : z_D 1 M_X5_setRegion 32 33 (.iload_n 1) := ⟨by decide +kernel, rfl⟩
theorem e_X5_setRegion_33 : z_D 1 M_X5_setRegion 33 34 (.iastore) := ⟨by decide +kernel, rfl⟩
theorem e_X5_setRegion_34 : z_D 1 M_X5_setRegion 34 35 (.aload_n 0) := ⟨by decide +kernel, rfl⟩
theorem e_X5_setRegion_35 : z_D 3 M_X5_setRegion 35 38 (.getfield 7) := ⟨by decide +kernel, rfl⟩
theorem e_X5_setRegion_38 : z_D 1 M_X5_setRegion 38 39 (.iconst 3) := ⟨by decide +kernel, rfl⟩
theorem e_X5_setRegion_39 : z_D 1 M_X5_setRegion 39 40 (.iload_n 2) := ⟨by decide +kernel, rfl⟩
theorem e_X5_setRegion_40 : z_D 1 M_X5_setRegion 40 41 (.iastore) := ⟨by decide +kernel, rfl⟩
theorem e_X5_setRegion_41 : z_D 1 M_X5_setRegion 41 42 (.aload_n 0) := ⟨by decide +kernel, rfl⟩
theorem e_X5_setRegion_42 : z_D 1 M_X5_setRegion 42 43 (.iconst 0) := ⟨by decide +kernel, rfl⟩
theorem e_X5_setRegion_43 : z_D 1 M_X5_setRegion 43 44 (.iconst 0) := ⟨by decide +kernel, rfl⟩
theorem e_X5_setRegion_44 : z_D 3 M_X5_setRegion 44 47 (.invokevirtual 111) := ⟨by decide +kernel, rfl⟩
theorem e_X5_setRegion_47 : z_D 1 M_X5_setRegion 47 48 (.iload_n 2) := ⟨by decide +kernel, rfl⟩
theorem e_X5_setRegion_48 : z_D 1 M_X5_setRegion 48 49 (.iload_n 1) := ⟨by decide +kernel, rfl⟩
theorem e_X5_setRegion_49 : z_D 1 M_X5_setRegion 49 50 (.isub) := ⟨by decide +kernel, rfl⟩
theorem e_X5_setRegion_50 : z_D 1 M_X5_setRegion 50 51 (.iconst 1) := ⟨by decide +kernel, rfl⟩
theorem e_X5_setRegion_51 : z_D 1 M_X5_setRegion 51 52 (.iadd) := ⟨by decide +kernel, rfl⟩
theorem e_X5_setRegion_52 : z_D 1 M_X5_setRegion 52 53 (.ireturn) := ⟨by decide +kernel, rfl⟩
theorem e_X5_erasesLine_0 : z_D 1 M_X5_erasesLine 0 1 (.iload_n 1) := ⟨by decide +kernel, rfl⟩
theorem e_X5_erasesLine_1 : z_J M_X5_erasesLine 1 4 13 (12) (.ifCond .ne 12) := ⟨by decide +kernel, rfl, rfl⟩
theorem e_X5_erasesLine_4 : z_D 1 M_X5_erasesLine 4 5 (.aload_n 0) := ⟨by decide +kernel, rfl⟩
theorem e_X5_erasesLine_5 : z_D 3 M_X5_erasesLine 5 8 (.getfield 7) := ⟨by decide +kernel, rfl⟩
theorem e_X5_erasesLine_8 : z_D 1 M_X5_erasesLine 8 9 (.iconst 5) := ⟨by decide +kernel, rfl⟩
theorem e_X5_erasesLine_9 : z_D 1 M_X5_erasesLine 9 10 (.iaload) := ⟨by decide +kernel, rfl⟩
theorem e_X5_erasesLine_10 : z_J M_X5_erasesLine 10 13 14 (4) (.goto 4) := ⟨by decide +kernel, rfl, rfl⟩
theorem e_X5_erasesLine_13 : z_D 1 M_X5_erasesLine 13 14 (.iconst 0) := ⟨by decide +kernel, rfl⟩
theorem e_X5_erasesLine_14 : z_D 1 M_X5_erasesLine 14 15 (.istore_n 2) := ⟨by decide +kernel, rfl⟩
theorem e_X5_erasesLine_15 : z_D 1 M_X5_erasesLine 15 16 (.iload_n 1) := ⟨by decide +kernel, rfl⟩
theorem e_X5_erasesLine_16 : z_D 1 M_X5_erasesLine 16 17 (.iconst 1) := ⟨by decide +kernel, rfl⟩
theorem e_X5_erasesLine_17 : z_J M_X5_erasesLine 17 20 29 (12) (.if_icmp .ne 12) := ⟨by decide +kernel, rfl, rfl⟩
theorem e_X5_erasesLine_20 : z_D 1 M_X5_erasesLine 20 21 (.aload_n 0) := ⟨by decide +kernel, rfl⟩
theorem e_X5_erasesLine_21 : z_D 3 M_X5_erasesLine 21 24 (.getfield 7) := ⟨by decide +kernel, rfl⟩
theorem e_X5_erasesLine_24 : z_D 1 M_X5_erasesLine 24 25 (.iconst 5) := ⟨by decide +kernel, rfl⟩
theorem e_X5_erasesLine_25 : z_D 1 M_X5_erasesLine 25 26 (.iaload) := ⟨by decide +kernel, rfl⟩
theorem e_X5_erasesLine_26 : z_J M_X5_erasesLine 26 29 37 (11) (.goto 11) := ⟨by decide +kernel, rfl, rfl⟩
theorem e_X5_erasesLine_29 : z_D 1 M_X5_erasesLine 29 30 (.aload_n 0) := ⟨by decide +kernel, rfl⟩
theorem e_X5_erasesLine_30 : z_D 3 M_X5_erasesLine 30 33 (.getfield 7) := ⟨by decide +kernel, rfl⟩
theorem e_X5_erasesLine_33 : z_D 1 M_X5_erasesLine 33 34 (.iconst 0) := ⟨by decide +kernel, rfl⟩
theorem e_X5_erasesLine_34 : z_D 1 M_X5_erasesLine 34 35 (.iaload) := ⟨by decide +kernel, rfl⟩
theorem e_X5_erasesLine_35 : z_D 1 M_X5_erasesLine 35 36 (.iconst 1) := ⟨by decide +kernel, rfl⟩
theorem e_X5_erasesLine_36 : z_D 1 M_X5_erasesLine 36 37 (.isub) := ⟨by decide +kernel, rfl⟩
theorem e_X5_erasesLine_37 : z_D 1 M_X5_erasesLine 37 38 (.istore_n 3) := ⟨by decide +kernel, rfl⟩
theorem e_X5_erasesLine_38 : z_D 1 M_X5_erasesLine 38 39 (.aload_n 0) := ⟨by decide +kernel, rfl⟩
theorem e_X5_erasesLine_39 : z_D 1 M_X5_erasesLine 39 40 (.aload_n 0) := ⟨by decide +kernel, rfl⟩
theorem e_X5_erasesLine_40 : z_D 3 M_X5_erasesLine 40 43 (.getfield 7) := ⟨by decide +kernel, rfl⟩
theorem e_X5_erasesLine_43 : z_D 1 M_X5_erasesLine 43 44 (.iconst 4) := ⟨by decide +kernel, rfl⟩
theorem e_X5_erasesLine_44 : z_D 1 M_X5_erasesLine 44 45 (.iaload) := ⟨by decide +kernel, rfl⟩
theorem e_X5_erasesLine_45 : z_D 1 M_X5_erasesLine 45 46 (.iload_n 2) := ⟨by decide +kernel, rfl⟩
theorem e_X5_erasesLine_46 : z_D 1 M_X5_erasesLine 46 47 (.iload_n 3) := ⟨by decide +kernel, rfl⟩
theorem e_X5_erasesLine_47 : z_D 3 M_X5_erasesLine 47 50 (.invokevirtual 93) := ⟨by decide +kernel, rfl⟩
theorem e_X5_erasesLine_50 : z_D 1 M_X5_erasesLine 50 51 (.aload_n 0) := ⟨by decide +kernel, rfl⟩
theorem e_X5_erasesLine_51 : z_D 3 M_X5_erasesLine 51 54 (.getfield 7) := ⟨by decide +kernel, rfl⟩
theorem e_X5_erasesLine_54 : z_D 2 M_X5_erasesLine 54 56 (.bipush 6) := ⟨by decide +kernel, rfl⟩
theorem e_X5_erasesLine_56 : z_D 1 M_X5_erasesLine 56 57 (.iconst 0) := ⟨by decide +kernel, rfl⟩
theorem e_X5_erasesLine_57 : z_D 1 M_X5_erasesLine 57 58 (.iastore) := ⟨by decide +kernel, rfl⟩
theorem e_X5_erasesLine_58 : z_D 1 M_X5_erasesLine 58 59 (.return_) := ⟨by decide +kernel, rfl⟩
theorem e_X5_eraseLine_0 : z_D 1 M_X5_eraseLine 0 1 (.iload_n 1) := ⟨by decide +kernel, rfl⟩
theorem e_X5_eraseLine_1 : z_D 1 M_X5_eraseLine 1 2 (.iconst 0) := ⟨by decide +kernel, rfl⟩
theorem e_X5_eraseLine_2 : z_D 1 M_X5_eraseLine 2 3 (.iconst 2) := ⟨by decide +kernel, rfl⟩
theorem e_X5_eraseLine_3 : z_D 3 M_X5_eraseLine 3 6 (.invokestatic 47) := ⟨by decide +kernel, rfl⟩
theorem e_X5_eraseLine_6 : z_J M_X5_eraseLine 6 9 11 (5) (.ifCond .ne 5) := ⟨by decide +kernel, rfl, rfl⟩
theorem e_X5_eraseLine_9 : z_D 1 M_X5_eraseLine 9 10 (.iconst (-1)) := ⟨by decide +kernel, rfl⟩
theorem e_X5_eraseLine_10 : z_D 1 M_X5_eraseLine 10 11 (.ireturn) := ⟨by decide +kernel, rfl⟩
theorem e_X5_eraseLine_11 : z_D 1 M_X5_eraseLine 11 12 (.aload_n 0) := ⟨by decide +kernel, rfl⟩
theorem e_X5_eraseLine_12 : z_D 3 M_X5_eraseLine 12 15 (.invokevirtual 96) := ⟨by decide +kernel, rfl⟩
theorem e_X5_eraseLine_15 : z_D 1 M_X5_eraseLine 15 16 (.aload_n 0) := ⟨by decide +kernel, rfl⟩
theorem e_X5_eraseLine_16 : z_D 3 M_X5_eraseLine 16 19 (.invokevirtual 114) := ⟨by decide +kernel, rfl⟩
theorem e_X5_eraseLine_19 : z_D 1 M_X5_eraseLine 19 20 (.istore_n 2) := ⟨by decide +kernel, rfl⟩
theorem e_X5_eraseLine_20 : z_D 1 M_X5_eraseLine 20 21 (.aload_n 0) := ⟨by decide +kernel, rfl⟩
theorem e_X5_eraseLine_21 : z_D 1 M_X5_eraseLine 21 22 (.iload_n 1) := ⟨by decide +kernel, rfl⟩
theorem e_X5_eraseLine_22 : z_D 3 M_X5_eraseLine 22 25 (.invokevirtual 118) := ⟨by decide +kernel, rfl⟩
theorem e_X5_eraseLine_25 : z_D 1 M_X5_eraseLine 25 26 (.iload_n 2) := ⟨by decide +kernel, rfl⟩
theorem e_X5_eraseLine_26 : z_D 1 M_X5_eraseLine 26 27 (.aload_n 0) := ⟨by decide +kernel, rfl⟩
theorem e_X5_eraseLine_27 : z_D 3 M_X5_eraseLine 27 30 (.invokevirtual 114) := ⟨by decide +kernel, rfl⟩
theorem e_X5_eraseLine_30 : z_D 1 M_X5_eraseLine 30 31 (.isub) := ⟨by decide +kernel, rfl⟩
theorem e_X5_eraseLine_31 : z_D 1 M_X5_eraseLine 31 32 (.ireturn) := ⟨by decide +kernel, rfl⟩
theorem e_X5_eraseScreen_0 : z_D 1 M_X5_eraseScreen 0 1 (.iload_n 1) := ⟨by decide +kernel, rfl⟩
theorem e_X5_eraseScreen_1 : z_D 1 M_X5_eraseScreen 1 2 (.iconst 0) := ⟨by decide +kernel, rfl⟩
theorem e_X5_eraseScreen_2 : z_D 1 M_X5_eraseScreen 2 3 (.iconst 2) := ⟨by decide +kernel, rfl⟩
theorem e_X5_eraseScreen_3 : z_D 3 M_X5_eraseScreen 3 6 (.invokestatic 47) := ⟨by decide +kernel, rfl⟩
theorem e_X5_eraseScreen_6 : z_J M_X5_eraseScreen 6 9 11 (5) (.ifCond .ne 5) := ⟨by decide +kernel, rfl, rfl⟩
theorem e_X5_eraseScreen_9 : z_D 1 M_X5_eraseScreen 9 10 (.iconst (-1)) := ⟨by decide +kernel, rfl⟩
theorem e_X5_eraseScreen_10 : z_D 1 M_X5_eraseScreen 10 11 (.ireturn) := ⟨by decide +kernel, rfl⟩
theorem e_X5_eraseScreen_11 : z_D 1 M_X5_eraseScreen 11 12 (.aload_n 0) := ⟨by decide +kernel, rfl⟩
theorem e_X5_eraseScreen_12 : z_D 3 M_X5_eraseScreen 12 15 (.invokevirtual 96) := ⟨by decide +kernel, rfl⟩
theorem e_X5_eraseScreen_15 : z_D 1 M_X5_eraseScreen 15 16 (.aload_n 0) := ⟨by decide +kernel, rfl⟩
theorem e_X5_eraseScreen_16 : z_D 3 M_X5_eraseScreen 16 19 (.invokevirtual 114) := ⟨by decide +kernel, rfl⟩
theorem e_X5_eraseScreen_19 : z_D 1 M_X5_eraseScreen 19 20 (.istore_n 2) := ⟨by decide +kernel, rfl⟩
theorem e_X5_eraseScreen_20 : z_D 1 M_X5_eraseScreen 20 21 (.aload_n 0) := ⟨by decide +kernel, rfl⟩
theorem e_X5_eraseScreen_21 : z_D 1 M_X5_eraseScreen 21 22 (.iload_n 1) := ⟨by decide +kernel, rfl⟩
theorem e_X5_eraseScreen_22 : z_D 3 M_X5_eraseScreen 22 25 (.invokevirtual 118) := ⟨by decide +kernel, rfl⟩
theorem e_X5_eraseScreen_25 : z_D 1 M_X5_eraseScreen 25 26 (.iconst 0) := ⟨by decide +kernel, rfl⟩
theorem e_X5_eraseScreen_26 : z_D 1 M_X5_eraseScreen 26 27 (.istore_n 3) := ⟨by decide +kernel, rfl⟩
theorem e_X5_eraseScreen_27 : z_D 1 M_X5_eraseScreen 27 28 (.iload_n 3) := ⟨by decide +kernel, rfl⟩
theorem e_X5_eraseScreen_28 : z_D 1 M_X5_eraseScreen 28 29 (.aload_n 0) := ⟨by decide +kernel, rfl⟩
theorem e_X5_eraseScreen_29 : z_D 3 M_X5_eraseScreen 29 32 (.getfield 7) := ⟨by decide +kernel, rfl⟩
theorem e_X5_eraseScreen_32 : z_D 1 M_X5_eraseScreen 32 33 (.iconst 1) := ⟨by decide +kernel, rfl⟩
theorem e_X5_eraseScreen_33 : z_D 1 M_X5_eraseScreen 33 34 (.iaload) := ⟨by decide +kernel, rfl⟩
theorem e_X5_eraseScreen_34 : z_J M_X5_eraseScreen 34 37 103 (69) (.if_icmp .ge 69) := ⟨by decide +kernel, rfl, rfl⟩
theorem e_X5_eraseScreen_37 : z_D 1 M_X5_eraseScreen 37 38 (.iload_n 1) := ⟨by decide +kernel, rfl⟩
theorem e_X5_eraseScreen_38 : z_D 1 M_X5_eraseScreen 38 39 (.iconst 2) := ⟨by decide +kernel, rfl⟩
theorem e_X5_eraseScreen_39 : z_J M_X5_eraseScreen 39 42 71 (32) (.if_icmp .eq 32) := ⟨by decide +kernel, rfl, rfl⟩
theorem e_X5_eraseScreen_42 : z_D 1 M_X5_eraseScreen 42 43 (.iload_n 1) := ⟨by decide +kernel, rfl⟩
theorem e_X5_eraseScreen_43 : z_J M_X5_eraseScreen 43 46 56 (13) (.ifCond .ne 13) := ⟨by decide +kernel, rfl, rfl⟩
theorem e_X5_eraseScreen_46 : z_D 1 M_X5_eraseScreen 46 47 (.iload_n 3) := ⟨by decide +kernel, rfl⟩
theorem e_X5_eraseScreen_47 : z_D 1 M_X5_eraseScreen 47 48 (.aload_n 0) := ⟨by decide +kernel, rfl⟩
theorem e_X5_eraseScreen_48 : z_D 3 M_X5_eraseScreen 48 51 (.getfield 7) := ⟨by decide +kernel, rfl⟩
theorem e_X5_eraseScreen_51 : z_D 1 M_X5_eraseScreen 51 52 (.iconst 4) := ⟨by decide +kernel, rfl⟩
theorem e_X5_eraseScreen_52 : z_D 1 M_X5_eraseScreen 52 53 (.iaload) := ⟨by decide +kernel, rfl⟩
theorem e_X5_eraseScreen_53 : z_J M_X5_eraseScreen 53 56 71 (18) (.if_icmp .gt 18) := ⟨by decide +kernel, rfl, rfl⟩
theorem e_X5_eraseScreen_56 : z_D 1 M_X5_eraseScreen 56 57 (.iload_n 1) := ⟨by decide +kernel, rfl⟩
theorem e_X5_eraseScreen_57 : z_D 1 M_X5_eraseScreen 57 58 (.iconst 1) := ⟨by decide +kernel, rfl⟩
theorem e_X5_eraseScreen_58 : z_J M_X5_eraseScreen 58 61 75 (17) (.if_icmp .ne 17) := ⟨by decide +kernel, rfl, rfl⟩
theorem e_X5_eraseScreen_61 : z_D 1 M_X5_eraseScreen 61 62 (.iload_n 3) := ⟨by decide +kernel, rfl⟩
theorem e_X5_eraseScreen_62 : z_D 1 M_X5_eraseScreen 62 63 (.aload_n 0) := ⟨by decide +kernel, rfl⟩
theorem e_X5_eraseScreen_63 : z_D 3 M_X5_eraseScreen 63 66 (.getfield 7) := ⟨by decide +kernel, rfl⟩
theorem e_X5_eraseScreen_66 : z_D 1 M_X5_eraseScreen 66 67 (.iconst 4) := ⟨by decide +kernel, rfl⟩
theorem e_X5_eraseScreen_67 : z_D 1 M_X5_eraseScreen 67 68 (.iaload) := ⟨by decide +kernel, rfl⟩
theorem e_X5_eraseScreen_68 : z_J M_X5_eraseScreen 68 71 75 (7) (.if_icmp .ge 7) := ⟨by decide +kernel, rfl, rfl⟩
theorem e_X5_eraseScreen_71 : z_D 1 M_X5_eraseScreen 71 72 (.iconst 1) := ⟨by decide +kernel, rfl⟩
theorem e_X5_eraseScreen_72 : z_J M_X5_eraseScreen 72 75 76 (4) (.goto 4) := ⟨by decide +kernel, rfl, rfl⟩
theorem e_X5_eraseScreen_75 : z_D 1 M_X5_eraseScreen 75 76 (.iconst 0) := ⟨by decide +kernel, rfl⟩
theorem e_X5_eraseScreen_76 : z_D 2 M_X5_eraseScreen 76 78 (.istore 4) := ⟨by decide +kernel, rfl⟩
theorem e_X5_eraseScreen_78 : z_D 2 M_X5_eraseScreen 78 80 (.iload 4) := ⟨by decide +kernel, rfl⟩
theorem e_X5_eraseScreen_80 : z_J M_X5_eraseScreen 80 83 97 (17) (.ifCond .eq 17) := ⟨by decide +kernel, rfl, rfl⟩
theorem e_X5_eraseScreen_83 : z_D 1 M_X5_eraseScreen 83 84 (.aload_n 0) := ⟨by decide +kernel, rfl⟩
theorem e_X5_eraseScreen_84 : z_D 1 M_X5_eraseScreen 84 85 (.iload_n 3) := ⟨by decide +kernel, rfl⟩
theorem e_X5_eraseScreen_85 : z_D 1 M_X5_eraseScreen 85 86 (.iconst 0) := ⟨by decide +kernel, rfl⟩
theorem e_X5_eraseScreen_86 : z_D 1 M_X5_eraseScreen 86 87 (.aload_n 0) := ⟨by decide +kernel, rfl⟩
theorem e_X5_eraseScreen_87 : z_D 3 M_X5_eraseScreen 87 90 (.getfield 7) := ⟨by decide +kernel, rfl⟩
theorem e_X5_eraseScreen_90 : z_D 1 M_X5_eraseScreen 90 91 (.iconst 0) := ⟨by decide +kernel, rfl⟩
theorem e_X5_eraseScreen_91 : z_D 1 M_X5_eraseScreen 91 92 (.iaload) := ⟨by decide +kernel, rfl⟩
theorem e_X5_eraseScreen_92 : z_D 1 M_X5_eraseScreen 92 93 (.iconst 1) := ⟨by decide +kernel, rfl⟩
theorem e_X5_eraseScreen_93 : z_D 1 M_X5_eraseScreen 93 94 (.isub) := ⟨by decide +kernel, rfl⟩
theorem e_X5_eraseScreen_94 : z_D 3 M_X5_eraseScreen 94 97 (.invokevirtual 93) := ⟨by decide +kernel, rfl⟩
theorem e_X5_eraseScreen_97 : z_D 3 M_X5_eraseScreen 97 100 (.iinc 3 1) := ⟨by decide +kernel, rfl⟩
theorem e_X5_eraseScreen_100 : z_J M_X5_eraseScreen 100 103 27 (-73) (.goto (-73)) := ⟨by decide +kernel, rfl, rfl⟩
theorem e_X5_eraseScreen_103 : z_D 1 M_X5_eraseScreen 103 104 (.iload_n 2) := ⟨by decide +kernel, rfl⟩
theorem e_X5_eraseScreen_104 : z_D 1 M_X5_eraseScreen 104 105 (.aload_n 0) := ⟨by decide +kernel, rfl⟩
theorem e_X5_eraseScreen_105 : z_D 3 M_X5_eraseScreen 105 108 (.invokevirtual 114) := ⟨by decide +kernel, rfl⟩
theorem e_X5_eraseScreen_108 : z_D 1 M_X5_eraseScreen 108 109 (.isub) := ⟨by decide +kernel, rfl⟩
theorem e_X5_eraseScreen_109 : z_D 1 M_X5_eraseScreen 109 110 (.ireturn) := ⟨by decide +kernel, rfl⟩
theorem e_X5_isInRegion_0 : z_D 1 M_X5_isInRegion 0 1 (.aload_n 0) := ⟨by decide +kernel, rfl⟩
theorem e_X5_isInRegion_1 : z_D 3 M_X5_isInRegion 1 4 (.getfield 7) := ⟨by decide +kernel, rfl⟩
theorem e_X5_isInRegion_4 : z_D 1 M_X5_isInRegion 4 5 (.iconst 4) := ⟨by decide +kernel, rfl⟩
theorem e_X5_isInRegion_5 : z_D 1 M_X5_isInRegion 5 6 (.iaload) := ⟨by decide +kernel, rfl⟩
theorem e_X5_isInRegion_6 : z_D 1 M_X5_isInRegion 6 7 (.aload_n 0) := ⟨by decide +kernel, rfl⟩
theorem e_X5_isInRegion_7 : z_D 3 M_X5_isInRegion 7 10 (.getfield 7) := ⟨by decide +kernel, rfl⟩
theorem e_X5_isInRegion_10 : z_D 1 M_X5_isInRegion 10 11 (.iconst 2) := ⟨by decide +kernel, rfl⟩
theorem e_X5_isInRegion_11 : z_D 1 M_X5_isInRegion 11 12 (.iaload) := ⟨by decide +kernel, rfl⟩
theorem e_X5_isInRegion_12 : z_D 1 M_X5_isInRegion 12 13 (.aload_n 0) := ⟨by decide +kernel, rfl⟩
theorem e_X5_isInRegion_13 : z_D 3 M_X5_isInRegion 13 16 (.getfield 7) := ⟨by decide +kernel, rfl⟩
theorem e_X5_isInRegion_16 : z_D 1 M_X5_isInRegion 16 17 (.iconst 3) := ⟨by decide +kernel, rfl⟩
theorem e_X5_isInRegion_17 : z_D 1 M_X5_isInRegion 17 18 (.iaload) := ⟨by decide +kernel, rfl⟩
theorem e_X5_isInRegion_18 : z_D 3 M_X5_isInRegion 18 21 (.invokestatic 47) := ⟨by decide +kernel, rfl⟩
theorem e_X5_isInRegion_21 : z_D 1 M_X5_isInRegion 21 22 (.ireturn) := ⟨by decide +kernel, rfl⟩
theorem e_X5_filledRows_0 : z_D 1 M_X5_filledRows 0 1 (.iconst 0) := ⟨by decide +kernel, rfl⟩
theorem e_X5_filledRows_1 : z_D 1 M_X5_filledRows 1 2 (.istore_n 3) := ⟨by decide +kernel, rfl⟩
theorem e_X5_filledRows_2 : z_D 1 M_X5_filledRows 2 3 (.iload_n 1) := ⟨by decide +kernel, rfl⟩
theorem e_X5_filledRows_3 : z_D 2 M_X5_filledRows 3 5 (.istore 4) := ⟨by decide +kernel, rfl⟩
theorem e_X5_filledRows_5 : z_D 2 M_X5_filledRows 5 7 (.iload 4) := ⟨by decide +kernel, rfl⟩
theorem e_X5_filledRows_7 : z_D 1 M_X5_filledRows 7 8 (.iload_n 2) := ⟨by decide +kernel, rfl⟩
theorem e_X5_filledRows_8 : z_J M_X5_filledRows 8 11 37 (29) (.if_icmp .gt 29) := ⟨by decide +kernel, rfl, rfl⟩
theorem e_X5_filledRows_11 : z_D 1 M_X5_filledRows 11 12 (.iload_n 3) := ⟨by decide +kernel, rfl⟩
theorem e_X5_filledRows_12 : z_D 1 M_X5_filledRows 12 13 (.aload_n 0) := ⟨by decide +kernel, rfl⟩
theorem e_X5_filledRows_13 : z_D 2 M_X5_filledRows 13 15 (.bipush 24) := ⟨by decide +kernel, rfl⟩
theorem e_X5_filledRows_15 : z_D 2 M_X5_filledRows 15 17 (.iload 4) := ⟨by decide +kernel, rfl⟩
theorem e_X5_filledRows_17 : z_D 1 M_X5_filledRows 17 18 (.iadd) := ⟨by decide +kernel, rfl⟩
theorem e_X5_filledRows_18 : z_D 3 M_X5_filledRows 18 21 (.invokevirtual 68) := ⟨by decide +kernel, rfl⟩
theorem e_X5_filledRows_21 : z_J M_X5_filledRows 21 24 28 (7) (.ifCond .le 7) := ⟨by decide +kernel, rfl, rfl⟩
theorem e_X5_filledRows_24 : z_D 1 M_X5_filledRows 24 25 (.iconst 1) := ⟨by decide +kernel, rfl⟩
theorem e_X5_filledRows_25 : z_J M_X5_filledRows 25 28 29 (4) (.goto 4) := ⟨by decide +kernel, rfl, rfl⟩
theorem e_X5_filledRows_28 : z_D 1 M_X5_filledRows 28 29 (.iconst 0) := ⟨by decide +kernel, rfl⟩
theorem e_X5_filledRows_29 : z_D 1 M_X5_filledRows 29 30 (.iadd) := ⟨by decide +kernel, rfl⟩
theorem e_X5_filledRows_30 : z_D 1 M_X5_filledRows 30 31 (.istore_n 3) := ⟨by decide +kernel, rfl⟩
theorem e_X5_filledRows_31 : z_D 3 M_X5_filledRows 31 34 (.iinc 4 1) := ⟨by decide +kernel, rfl⟩
theorem e_X5_filledRows_34 : z_J M_X5_filledRows 34 37 5 (-29) (.goto (-29)) := ⟨by decide +kernel, rfl, rfl⟩
theorem e_X5_filledRows_37 : z_D 1 M_X5_filledRows 37 38 (.iload_n 3) := ⟨by decide +kernel, rfl⟩
theorem e_X5_filledRows_38 : z_D 1 M_X5_filledRows 38 39 (.ireturn) := ⟨by decide +kernel, rfl⟩
theorem e_X5_insertRows_0 : z_D 1 M_X5_insertRows 0 1 (.iload_n 1) := ⟨by decide +kernel, rfl⟩
theorem e_X5_insertRows_1 : z_D 1 M_X5_insertRows 1 2 (.iconst 1) := ⟨by decide +kernel, rfl⟩
theorem e_X5_insertRows_2 : z_D 2 M_X5_insertRows 2 4 (.bipush 8) := ⟨by decide +kernel, rfl⟩
theorem e_X5_insertRows_4 : z_D 3 M_X5_insertRows 4 7 (.invokestatic 47) := ⟨by decide +kernel, rfl⟩
theorem e_X5_insertRows_7 : z_J M_X5_insertRows 7 10 12 (5) (.ifCond .ne 5) := ⟨by decide +kernel, rfl, rfl⟩
theorem e_X5_insertRows_10 : z_D 1 M_X5_insertRows 10 11 (.iconst (-1)) := ⟨by decide +kernel, rfl⟩
theorem e_X5_insertRows_11 : z_D 1 M_X5_insertRows 11 12 (.ireturn) := ⟨by decide +kernel, rfl⟩
theorem e_X5_insertRows_12 : z_D 1 M_X5_insertRows 12 13 (.aload_n 0) := ⟨by decide +kernel, rfl⟩
theorem e_X5_insertRows_13 : z_D 3 M_X5_insertRows 13 16 (.invokevirtual 121) := ⟨by decide +kernel, rfl⟩
theorem e_X5_insertRows_16 : z_J M_X5_insertRows 16 19 22 (6) (.ifCond .ne 6) := ⟨by decide +kernel, rfl, rfl⟩
theorem e_X5_insertRows_19 : z_D 2 M_X5_insertRows 19 21 (.bipush (-2)) := ⟨by decide +kernel, rfl⟩
theorem e_X5_insertRows_21 : z_D 1 M_X5_insertRows 21 22 (.ireturn) := ⟨by decide +kernel, rfl⟩
theorem e_X5_insertRows_22 : z_D 1 M_X5_insertRows 22 23 (.aload_n 0) := ⟨by decide +kernel, rfl⟩
theorem e_X5_insertRows_23 : z_D 3 M_X5_insertRows 23 26 (.invokevirtual 96) := ⟨by decide +kernel, rfl⟩
theorem e_X5_insertRows_26 : z_D 1 M_X5_insertRows 26 27 (.aload_n 0) := ⟨by decide +kernel, rfl⟩
theorem e_X5_insertRows_27 : z_D 3 M_X5_insertRows 27 30 (.getfield 7) := ⟨by decide +kernel, rfl⟩
theorem e_X5_insertRows_30 : z_D 1 M_X5_insertRows 30 31 (.iconst 4) := ⟨by decide +kernel, rfl⟩
theorem e_X5_insertRows_31 : z_D 1 M_X5_insertRows 31 32 (.iaload) := ⟨by decide +kernel, rfl⟩
theorem e_X5_insertRows_32 : z_D 1 M_X5_insertRows 32 33 (.istore_n 2) := ⟨by decide +kernel, rfl⟩
theorem e_X5_insertRows_33 : z_D 1 M_X5_insertRows 33 34 (.aload_n 0) := ⟨by decide +kernel, rfl⟩
theorem e_X5_insertRows_34 : z_D 3 M_X5_insertRows 34 37 (.getfield 7) := ⟨by decide +kernel, rfl⟩
theorem e_X5_insertRows_37 : z_D 1 M_X5_insertRows 37 38 (.iconst 3) := ⟨by decide +kernel, rfl⟩
theorem e_X5_insertRows_38 : z_D 1 M_X5_insertRows 38 39 (.iaload) := ⟨by decide +kernel, rfl⟩
theorem e_X5_insertRows_39 : z_D 1 M_X5_insertRows 39 40 (.istore_n 3) := ⟨by decide +kernel, rfl⟩
theorem e_X5_insertRows_40 : z_D 1 M_X5_insertRows 40 41 (.iload_n 1) := ⟨by decide +kernel, rfl⟩
theorem e_X5_insertRows_41 : z_D 1 M_X5_insertRows 41 42 (.iload_n 3) := ⟨by decide +kernel, rfl⟩
theorem e_X5_insertRows_42 : z_D 1 M_X5_insertRows 42 43 (.iload_n 2) := ⟨by decide +kernel, rfl⟩
theorem e_X5_insertRows_43 : z_D 1 M_X5_insertRows 43 44 (.isub) := ⟨by decide +kernel, rfl⟩
theorem e_X5_insertRows_44 : z_D 1 M_X5_insertRows 44 45 (.iconst 1) := ⟨by decide +kernel, rfl⟩
theorem e_X5_insertRows_45 : z_D 1 M_X5_insertRows 45 46 (.iadd) := ⟨by decide +kernel, rfl⟩
theorem e_X5_insertRows_46 : z_J M_X5_insertRows 46 49 53 (7) (.if_icmp .ge 7) := ⟨by decide +kernel, rfl, rfl⟩
theorem e_X5_insertRows_49 : z_D 1 M_X5_insertRows 49 50 (.iload_n 1) := ⟨by decide +kernel, rfl⟩
theorem e_X5_insertRows_50 : z_J M_X5_insertRows 50 53 58 (8) (.goto 8) := ⟨by decide +kernel, rfl, rfl⟩
theorem e_X5_insertRows_53 : z_D 1 M_X5_insertRows 53 54 (.iload_n 3) := ⟨by decide +kernel, rfl⟩
theorem e_X5_insertRows_54 : z_D 1 M_X5_insertRows 54 55 (.iload_n 2) := ⟨by decide +kernel, rfl⟩
theorem e_X5_insertRows_55 : z_D 1 M_X5_insertRows 55 56 (.isub) := ⟨by decide +kernel, rfl⟩
theorem e_X5_insertRows_56 : z_D 1 M_X5_insertRows 56 57 (.iconst 1) := ⟨by decide +kernel, rfl⟩
theorem e_X5_insertRows_57 : z_D 1 M_X5_insertRows 57 58 (.iadd) := ⟨by decide +kernel, rfl⟩
theorem e_X5_insertRows_58 : z_D 2 M_X5_insertRows 58 60 (.istore 4) := ⟨by decide +kernel, rfl⟩
theorem e_X5_insertRows_60 : z_D 1 M_X5_insertRows 60 61 (.aload_n 0) := ⟨by decide +kernel, rfl⟩
theorem e_X5_insertRows_61 : z_D 1 M_X5_insertRows 61 62 (.iload_n 3) := ⟨by decide +kernel, rfl⟩
theorem e_X5_insertRows_62 : z_D 2 M_X5_insertRows 62 64 (.iload 4) := ⟨by decide +kernel, rfl⟩
theorem e_X5_insertRows_64 : z_D 1 M_X5_insertRows 64 65 (.isub) := ⟨by decide +kernel, rfl⟩
theorem e_X5_insertRows_65 : z_D 1 M_X5_insertRows 65 66 (.iconst 1) := ⟨by decide +kernel, rfl⟩
theorem e_X5_insertRows_66 : z_D 1 M_X5_insertRows 66 67 (.iadd) := ⟨by decide +kernel, rfl⟩
theorem e_X5_insertRows_67 : z_D 1 M_X5_insertRows 67 68 (.iload_n 3) := ⟨by decide +kernel, rfl⟩
theorem e_X5_insertRows_68 : z_D 3 M_X5_insertRows 68 71 (.invokevirtual 124) := ⟨by decide +kernel, rfl⟩
theorem e_X5_insertRows_71 : z_D 2 M_X5_insertRows 71 73 (.istore 5) := ⟨by decide +kernel, rfl⟩
theorem e_X5_insertRows_73 : z_D 1 M_X5_insertRows 73 74 (.aload_n 0) := ⟨by decide +kernel, rfl⟩
theorem e_X5_insertRows_74 : z_D 1 M_X5_insertRows 74 75 (.iload_n 2) := ⟨by decide +kernel, rfl⟩
theorem e_X5_insertRows_75 : z_D 3 M_X5_insertRows 75 78 (.invokevirtual 79) := ⟨by decide +kernel, rfl⟩
theorem e_X5_insertRows_78 : z_D 1 M_X5_insertRows 78 79 (.iload_n 3) := ⟨by decide +kernel, rfl⟩
theorem e_X5_insertRows_79 : z_D 2 M_X5_insertRows 79 81 (.istore 6) := ⟨by decide +kernel, rfl⟩
theorem e_X5_insertRows_81 : z_D 2 M_X5_insertRows 81 83 (.iload 6) := ⟨by decide +kernel, rfl⟩
theorem e_X5_insertRows_83 : z_D 1 M_X5_insertRows 83 84 (.iload_n 2) := ⟨by decide +kernel, rfl⟩
theorem e_X5_insertRows_84 : z_D 2 M_X5_insertRows 84 86 (.iload 4) := ⟨by decide +kernel, rfl⟩
theorem e_X5_insertRows_86 : z_D 1 M_X5_insertRows 86 87 (.iadd) := ⟨by decide +kernel, rfl⟩
theorem e_X5_insertRows_87 : z_J M_X5_insertRows 87 90 113 (26) (.if_icmp .lt 26) := ⟨by decide +kernel, rfl, rfl⟩
theorem e_X5_insertRows_90 : z_D 1 M_X5_insertRows 90 91 (.aload_n 0) := ⟨by decide +kernel, rfl⟩
theorem e_X5_insertRows_91 : z_D 2 M_X5_insertRows 91 93 (.bipush 24) := ⟨by decide +kernel, rfl⟩
theorem e_X5_insertRows_93 : z_D 2 M_X5_insertRows 93 95 (.iload 6) := ⟨by decide +kernel, rfl⟩
theorem e_X5_insertRows_95 : z_D 1 M_X5_insertRows 95 96 (.iadd) := ⟨by decide +kernel, rfl⟩
theorem e_X5_insertRows_96 : z_D 2 M_X5_insertRows 96 98 (.iload 4) := ⟨by decide +kernel, rfl⟩
theorem e_X5_insertRows_98 : z_D 1 M_X5_insertRows 98 99 (.isub) := ⟨by decide +kernel, rfl⟩
theorem e_X5_insertRows_99 : z_D 2 M_X5_insertRows 99 101 (.bipush 24) := ⟨by decide +kernel, rfl⟩
theorem e_X5_insertRows_101 : z_D 2 M_X5_insertRows 101 103 (.iload 6) := ⟨by decide +kernel, rfl⟩
theorem e_X5_insertRows_103 : z_D 1 M_X5_insertRows 103 104 (.iadd) := ⟨by decide +kernel, rfl⟩
theorem e_X5_insertRows_104 : z_D 3 M_X5_insertRows 104 107 (.invokevirtual 72) := ⟨by decide +kernel, rfl⟩
theorem e_X5_insertRows_107 : z_D 3 M_X5_insertRows 107 110 (.iinc 6 (-1)) := ⟨by decide +kernel, rfl⟩
theorem e_X5_insertRows_110 : z_J M_X5_insertRows 110 113 81 (-29) (.goto (-29)) := ⟨by decide +kernel, rfl, rfl⟩
theorem e_X5_insertRows_113 : z_D 1 M_X5_insertRows 113 114 (.aload_n 0) := ⟨by decide +kernel, rfl⟩
theorem e_X5_insertRows_114 : z_D 2 M_X5_insertRows 114 116 (.bipush 24) := ⟨by decide +kernel, rfl⟩
theorem e_X5_insertRows_116 : z_D 1 M_X5_insertRows 116 117 (.iload_n 3) := ⟨by decide +kernel, rfl⟩
theorem e_X5_insertRows_117 : z_D 1 M_X5_insertRows 117 118 (.iadd) := ⟨by decide +kernel, rfl⟩
theorem e_X5_insertRows_118 : z_D 3 M_X5_insertRows 118 121 (.invokevirtual 44) := ⟨by decide +kernel, rfl⟩
theorem e_X5_insertRows_121 : z_D 1 M_X5_insertRows 121 122 (.iload_n 2) := ⟨by decide +kernel, rfl⟩
theorem e_X5_insertRows_122 : z_D 2 M_X5_insertRows 122 124 (.istore 6) := ⟨by decide +kernel, rfl⟩
theorem e_X5_insertRows_124 : z_D 2 M_X5_insertRows 124 126 (.iload 6) := ⟨by decide +kernel, rfl⟩
theorem e_X5_insertRows_126 : z_D 1 M_X5_insertRows 126 127 (.iload_n 2) := ⟨by decide +kernel, rfl⟩
theorem e_X5_insertRows_127 : z_D 2 M_X5_insertRows 127 129 (.iload 4) := ⟨by decide +kernel, rfl⟩
theorem e_X5_insertRows_129 : z_D 1 M_X5_insertRows 129 130 (.iadd) := ⟨by decide +kernel, rfl⟩
theorem e_X5_insertRows_130 : z_J M_X5_insertRows 130 133 148 (18) (.if_icmp .ge 18) := ⟨by decide +kernel, rfl, rfl⟩
theorem e_X5_insertRows_133 : z_D 1 M_X5_insertRows 133 134 (.aload_n 0) := ⟨by decide +kernel, rfl⟩
theorem e_X5_insertRows_134 : z_D 2 M_X5_insertRows 134 136 (.bipush 24) := ⟨by decide +kernel, rfl⟩
theorem e_X5_insertRows_136 : z_D 2 M_X5_insertRows 136 138 (.iload 6) := ⟨by decide +kernel, rfl⟩
theorem e_X5_insertRows_138 : z_D 1 M_X5_insertRows 138 139 (.iadd) := ⟨by decide +kernel, rfl⟩
theorem e_X5_insertRows_139 : z_D 3 M_X5_insertRows 139 142 (.invokevirtual 32) := ⟨by decide +kernel, rfl⟩
theorem e_X5_insertRows_142 : z_D 3 M_X5_insertRows 142 145 (.iinc 6 1) := ⟨by decide +kernel, rfl⟩
theorem e_X5_insertRows_145 : z_J M_X5_insertRows 145 148 124 (-21) (.goto (-21)) := ⟨by decide +kernel, rfl, rfl⟩
theorem e_X5_insertRows_148 : z_D 1 M_X5_insertRows 148 149 (.aload_n 0) := ⟨by decide +kernel, rfl⟩
theorem e_X5_insertRows_149 : z_D 3 M_X5_insertRows 149 152 (.getfield 7) := ⟨by decide +kernel, rfl⟩
theorem e_X5_insertRows_152 : z_D 2 M_X5_insertRows 152 154 (.bipush 6) := ⟨by decide +kernel, rfl⟩
theorem e_X5_insertRows_154 : z_D 1 M_X5_insertRows 154 155 (.iconst 0) := ⟨by decide +kernel, rfl⟩
theorem e_X5_insertRows_155 : z_D 1 M_X5_insertRows 155 156 (.iastore) := ⟨by decide +kernel, rfl⟩
theorem e_X5_insertRows_156 : z_D 2 M_X5_insertRows 156 158 (.iload 5) := ⟨by decide +kernel, rfl⟩
theorem e_X5_insertRows_158 : z_D 1 M_X5_insertRows 158 159 (.ireturn) := ⟨by decide +kernel, rfl⟩
theorem e_X5_deleteRows_0 : z_D 1 M_X5_deleteRows 0 1 (.iload_n 1) := ⟨by decide +kernel, rfl⟩
theorem e_X5_deleteRows_1 : z_D 1 M_X5_deleteRows 1 2 (.iconst 1) := ⟨by decide +kernel, rfl⟩
theorem e_X5_deleteRows_2 : z_D 2 M_X5_deleteRows 2 4 (.bipush 8) := ⟨by decide +kernel, rfl⟩
theorem e_X5_deleteRows_4 : z_D 3 M_X5_deleteRows 4 7 (.invokestatic 47) := ⟨by decide +kernel, rfl⟩
theorem e_X5_deleteRows_7 : z_J M_X5_deleteRows 7 10 12 (5) (.ifCond .ne 5) := ⟨by decide +kernel, rfl, rfl⟩
theorem e_X5_deleteRows_10 : z_D 1 M_X5_deleteRows 10 11 (.iconst (-1)) := ⟨by decide +kernel, rfl⟩
theorem e_X5_deleteRows_11 : z_D 1 M_X5_deleteRows 11 12 (.ireturn) := ⟨by decide +kernel, rfl⟩
theorem e_X5_deleteRows_12 : z_D 1 M_X5_deleteRows 12 13 (.aload_n 0) := ⟨by decide +kernel, rfl⟩
theorem e_X5_deleteRows_13 : z_D 3 M_X5_deleteRows 13 16 (.invokevirtual 121) := ⟨by decide +kernel, rfl⟩
theorem e_X5_deleteRows_16 : z_J M_X5_deleteRows 16 19 22 (6) (.ifCond .ne 6) := ⟨by decide +kernel, rfl, rfl⟩
theorem e_X5_deleteRows_19 : z_D 2 M_X5_deleteRows 19 21 (.bipush (-2)) := ⟨by decide +kernel, rfl⟩
theorem e_X5_deleteRows_21 : z_D 1 M_X5_deleteRows 21 22 (.ireturn) := ⟨by decide +kernel, rfl⟩
theorem e_X5_deleteRows_22 : z_D 1 M_X5_deleteRows 22 23 (.aload_n 0) := ⟨by decide +kernel, rfl⟩
theorem e_X5_deleteRows_23 : z_D 3 M_X5_deleteRows 23 26 (.invokevirtual 96) := ⟨by decide +kernel, rfl⟩
theorem e_X5_deleteRows_26 : z_D 1 M_X5_deleteRows 26 27 (.aload_n 0) := ⟨by decide +kernel, rfl⟩
theorem e_X5_deleteRows_27 : z_D 3 M_X5_deleteRows 27 30 (.getfield 7) := ⟨by decide +kernel, rfl⟩
theorem e_X5_deleteRows_30 : z_D 1 M_X5_deleteRows 30 31 (.iconst 4) := ⟨by decide +kernel, rfl⟩
theorem e_X5_deleteRows_31 : z_D 1 M_X5_deleteRows 31 32 (.iaload) := ⟨by decide +kernel, rfl⟩
theorem e_X5_deleteRows_32 : z_D 1 M_X5_deleteRows 32 33 (.istore_n 2) := ⟨by decide +kernel, rfl⟩
theorem e_X5_deleteRows_33 : z_D 1 M_X5_deleteRows 33 34 (.aload_n 0) := ⟨by decide +kernel, rfl⟩
theorem e_X5_deleteRows_34 : z_D 3 M_X5_deleteRows 34 37 (.getfield 7) := ⟨by decide +kernel, rfl⟩
theorem e_X5_deleteRows_37 : z_D 1 M_X5_deleteRows 37 38 (.iconst 3) := ⟨by decide +kernel, rfl⟩
theorem e_X5_deleteRows_38 : z_D 1 M_X5_deleteRows 38 39 (.iaload) := ⟨by decide +kernel, rfl⟩
theorem e_X5_deleteRows_39 : z_D 1 M_X5_deleteRows 39 40 (.istore_n 3) := ⟨by decide +kernel, rfl⟩
theorem e_X5_deleteRows_40 : z_D 1 M_X5_deleteRows 40 41 (.iload_n 1) := ⟨by decide +kernel, rfl⟩
theorem e_X5_deleteRows_41 : z_D 1 M_X5_deleteRows 41 42 (.iload_n 3) := ⟨by decide +kernel, rfl⟩
theorem e_X5_deleteRows_42 : z_D 1 M_X5_deleteRows 42 43 (.iload_n 2) := ⟨by decide +kernel, rfl⟩
theorem e_X5_deleteRows_43 : z_D 1 M_X5_deleteRows 43 44 (.isub) := ⟨by decide +kernel, rfl⟩
theorem e_X5_deleteRows_44 : z_D 1 M_X5_deleteRows 44 45 (.iconst 1) := ⟨by decide +kernel, rfl⟩
theorem e_X5_deleteRows_45 : z_D 1 M_X5_deleteRows 45 46 (.iadd) := ⟨by decide +kernel, rfl⟩
theorem e_X5_deleteRows_46 : z_J M_X5_deleteRows 46 49 53 (7) (.if_icmp .ge 7) := ⟨by decide +kernel, rfl, rfl⟩
theorem e_X5_deleteRows_49 : z_D 1 M_X5_deleteRows 49 50 (.iload_n 1) := ⟨by decide +kernel, rfl⟩
theorem e_X5_deleteRows_50 : z_J M_X5_deleteRows 50 53 58 (8) (.goto 8) := ⟨by decide +kernel, rfl, rfl⟩
theorem e_X5_deleteRows_53 : z_D 1 M_X5_deleteRows 53 54 (.iload_n 3) := ⟨by decide +kernel, rfl⟩
theorem e_X5_deleteRows_54 : z_D 1 M_X5_deleteRows 54 55 (.iload_n 2) := ⟨by decide +kernel, rfl⟩
theorem e_X5_deleteRows_55 : z_D 1 M_X5_deleteRows 55 56 (.isub) := ⟨by decide +kernel, rfl⟩
theorem e_X5_deleteRows_56 : z_D 1 M_X5_deleteRows 56 57 (.iconst 1) := ⟨by decide +kernel, rfl⟩
theorem e_X5_deleteRows_57 : z_D 1 M_X5_deleteRows 57 58 (.iadd) := ⟨by decide +kernel, rfl⟩
theorem e_X5_deleteRows_58 : z_D 2 M_X5_deleteRows 58 60 (.istore 4) := ⟨by decide +kernel, rfl⟩
theorem e_X5_deleteRows_60 : z_D 1 M_X5_deleteRows 60 61 (.aload_n 0) := ⟨by decide +kernel, rfl⟩
theorem e_X5_deleteRows_61 : z_D 1 M_X5_deleteRows 61 62 (.iload_n 2) := ⟨by decide +kernel, rfl⟩
theorem e_X5_deleteRows_62 : z_D 1 M_X5_deleteRows 62 63 (.iload_n 2) := ⟨by decide +kernel, rfl⟩
theorem e_X5_deleteRows_63 : z_D 2 M_X5_deleteRows 63 65 (.iload 4) := ⟨by decide +kernel, rfl⟩
theorem e_X5_deleteRows_65 : z_D 1 M_X5_deleteRows 65 66 (.iadd) := ⟨by decide +kernel, rfl⟩
theorem e_X5_deleteRows_66 : z_D 1 M_X5_deleteRows 66 67 (.iconst 1) := ⟨by decide +kernel, rfl⟩
theorem e_X5_deleteRows_67 : z_D 1 M_X5_deleteRows 67 68 (.isub) := ⟨by decide +kernel, rfl⟩
theorem e_X5_deleteRows_68 : z_D 3 M_X5_deleteRows 68 71 (.invokevirtual 124) := ⟨by decide +kernel, rfl⟩
theorem e_X5_deleteRows_71 : z_D 2 M_X5_deleteRows 71 73 (.istore 5) := ⟨by decide +kernel, rfl⟩
theorem e_X5_deleteRows_73 : z_D 1 M_X5_deleteRows 73 74 (.aload_n 0) := ⟨by decide +kernel, rfl⟩
theorem e_X5_deleteRows_74 : z_D 1 M_X5_deleteRows 74 75 (.iload_n 2) := ⟨by decide +kernel, rfl⟩
theorem e_X5_deleteRows_75 : z_D 3 M_X5_deleteRows 75 78 (.invokevirtual 79) := ⟨by decide +kernel, rfl⟩
theorem e_X5_deleteRows_78 : z_D 1 M_X5_deleteRows 78 79 (.aload_n 0) := ⟨by decide +kernel, rfl⟩
theorem e_X5_deleteRows_79 : z_D 2 M_X5_deleteRows 79 81 (.bipush 24) := ⟨by decide +kernel, rfl⟩
theorem e_X5_deleteRows_81 : z_D 1 M_X5_deleteRows 81 82 (.iload_n 3) := ⟨by decide +kernel, rfl⟩
theorem e_X5_deleteRows_82 : z_D 1 M_X5_deleteRows 82 83 (.iadd) := ⟨by decide +kernel, rfl⟩
theorem e_X5_deleteRows_83 : z_D 3 M_X5_deleteRows 83 86 (.invokevirtual 44) := ⟨by decide +kernel, rfl⟩
theorem e_X5_deleteRows_86 : z_D 1 M_X5_deleteRows 86 87 (.iload_n 2) := ⟨by decide +kernel, rfl⟩
theorem e_X5_deleteRows_87 : z_D 2 M_X5_deleteRows 87 89 (.istore 6) := ⟨by decide +kernel, rfl⟩
theorem e_X5_deleteRows_89 : z_D 2 M_X5_deleteRows 89 91 (.iload 6) := ⟨by decide +kernel, rfl⟩
theorem e_X5_deleteRows_91 : z_D 2 M_X5_deleteRows 91 93 (.iload 4) := ⟨by decide +kernel, rfl⟩
theorem e_X5_deleteRows_93 : z_D 1 M_X5_deleteRows 93 94 (.iadd) := ⟨by decide +kernel, rfl⟩
theorem e_X5_deleteRows_94 : z_D 1 M_X5_deleteRows 94 95 (.iload_n 3) := ⟨by decide +kernel, rfl⟩
theorem e_X5_deleteRows_95 : z_J M_X5_deleteRows 95 98 121 (26) (.if_icmp .gt 26) := ⟨by decide +kernel, rfl, rfl⟩
theorem e_X5_deleteRows_98 : z_D 1 M_X5_deleteRows 98 99 (.aload_n 0) := ⟨by decide +kernel, rfl⟩
theorem e_X5_deleteRows_99 : z_D 2 M_X5_deleteRows 99 101 (.bipush 24) := ⟨by decide +kernel, rfl⟩
theorem e_X5_deleteRows_101 : z_D 2 M_X5_deleteRows 101 103 (.iload 6) := ⟨by decide +kernel, rfl⟩
theorem e_X5_deleteRows_103 : z_D 1 M_X5_deleteRows 103 104 (.iadd) := ⟨by decide +kernel, rfl⟩
theorem e_X5_deleteRows_104 : z_D 2 M_X5_deleteRows 104 106 (.iload 4) := ⟨by decide +kernel, rfl⟩
theorem e_X5_deleteRows_106 : z_D 1 M_X5_deleteRows 106 107 (.iadd) := ⟨by decide +kernel, rfl⟩
theorem e_X5_deleteRows_107 : z_D 2 M_X5_deleteRows 107 109 (.bipush 24) := ⟨by decide +kernel, rfl⟩
theorem e_X5_deleteRows_109 : z_D 2 M_X5_deleteRows 109 111 (.iload 6) := ⟨by decide +kernel, rfl⟩
theorem e_X5_deleteRows_111 : z_D 1 M_X5_deleteRows 111 112 (.iadd) := ⟨by decide +kernel, rfl⟩
theorem e_X5_deleteRows_112 : z_D 3 M_X5_deleteRows 112 115 (.invokevirtual 72) := ⟨by decide +kernel, rfl⟩
theorem e_X5_deleteRows_115 : z_D 3 M_X5_deleteRows 115 118 (.iinc 6 1) := ⟨by decide +kernel, rfl⟩
theorem e_X5_deleteRows_118 : z_J M_X5_deleteRows 118 121 89 (-29) (.goto (-29)) := ⟨by decide +kernel, rfl, rfl⟩
theorem e_X5_deleteRows_121 : z_D 1 M_X5_deleteRows 121 122 (.iload_n 3) := ⟨by decide +kernel, rfl⟩
theorem e_X5_deleteRows_122 : z_D 2 M_X5_deleteRows 122 124 (.iload 4) := ⟨by decide +kernel, rfl⟩
theorem e_X5_deleteRows_124 : z_D 1 M_X5_deleteRows 124 125 (.isub) := ⟨by decide +kernel, rfl⟩
theorem e_X5_deleteRows_125 : z_D 1 M_X5_deleteRows 125 126 (.iconst 1) := ⟨by decide +kernel, rfl⟩
theorem e_X5_deleteRows_126 : z_D 1 M_X5_deleteRows 126 127 (.iadd) := ⟨by decide +kernel, rfl⟩
theorem e_X5_deleteRows_127 : z_D 2 M_X5_deleteRows 127 129 (.istore 6) := ⟨by decide +kernel, rfl⟩
theorem e_X5_deleteRows_129 : z_D 2 M_X5_deleteRows 129 131 (.iload 6) := ⟨by decide +kernel, rfl⟩
theorem e_X5_deleteRows_131 : z_D 1 M_X5_deleteRows 131 132 (.iload_n 3) := ⟨by decide +kernel, rfl⟩
theorem e_X5_deleteRows_132 : z_J M_X5_deleteRows 132 135 150 (18) (.if_icmp .gt 18) := ⟨by decide +kernel, rfl, rfl⟩
theorem e_X5_deleteRows_135 : z_D 1 M_X5_deleteRows 135 136 (.aload_n 0) := ⟨by decide +kernel, rfl⟩
theorem e_X5_deleteRows_136 : z_D 2 M_X5_deleteRows 136 138 (.bipush 24) := ⟨by decide +kernel, rfl⟩
theorem e_X5_deleteRows_138 : z_D 2 M_X5_deleteRows 138 140 (.iload 6) := ⟨by decide +kernel, rfl⟩
theorem e_X5_deleteRows_140 : z_D 1 M_X5_deleteRows 140 141 (.iadd) := ⟨by decide +kernel, rfl⟩
theorem e_X5_deleteRows_141 : z_D 3 M_X5_deleteRows 141 144 (.invokevirtual 32) := ⟨by decide +kernel, rfl⟩
theorem e_X5_deleteRows_144 : z_D 3 M_X5_deleteRows 144 147 (.iinc 6 1) := ⟨by decide +kernel, rfl⟩
theorem e_X5_deleteRows_147 : z_J M_X5_deleteRows 147 150 129 (-18) (.goto (-18)) := ⟨by decide +kernel, rfl, rfl⟩
theorem e_X5_deleteRows_150 : z_D 1 M_X5_deleteRows 150 151 (.aload_n 0) := ⟨by decide +kernel, rfl⟩
theorem e_X5_deleteRows_151 : z_D 3 M_X5_deleteRows 151 154 (.getfield 7) := ⟨by decide +kernel, rfl⟩
theorem e_X5_deleteRows_154 : z_D 2 M_X5_deleteRows 154 156 (.bipush 6) := ⟨by decide +kernel, rfl⟩
theorem e_X5_deleteRows_156 : z_D 1 M_X5_deleteRows 156 157 (.iconst 0) := ⟨by decide +kernel, rfl⟩
theorem e_X5_deleteRows_157 : z_D 1 M_X5_deleteRows 157 158 (.iastore) := ⟨by decide +kernel, rfl⟩
theorem e_X5_deleteRows_158 : z_D 2 M_X5_deleteRows 158 160 (.iload 5) := ⟨by decide +kernel, rfl⟩
theorem e_X5_deleteRows_160 : z_D 1 M_X5_deleteRows 160 161 (.ireturn) := ⟨by decide +kernel, rfl⟩
theorem e_X5_splits_0 : z_D 2 M_X5_splits 0 2 (.bipush 24) := ⟨by decide +kernel, rfl⟩
theorem e_X5_splits_2 : z_D 1 M_X5_splits 2 3 (.aload_n 0) := ⟨by decide +kernel, rfl⟩
theorem e_X5_splits_3 : z_D 3 M_X5_splits 3 6 (.getfield 7) := ⟨by decide +kernel, rfl⟩
theorem e_X5_splits_6 : z_D 1 M_X5_splits 6 7 (.iconst 4) := ⟨by decide +kernel, rfl⟩
theorem e_X5_splits_7 : z_D 1 M_X5_splits 7 8 (.iaload) := ⟨by decide +kernel, rfl⟩
theorem e_X5_splits_8 : z_D 1 M_X5_splits 8 9 (.iadd) := ⟨by decide +kernel, rfl⟩
theorem e_X5_splits_9 : z_D 1 M_X5_splits 9 10 (.istore_n 2) := ⟨by decide +kernel, rfl⟩
theorem e_X5_splits_10 : z_D 1 M_X5_splits 10 11 (.aload_n 0) := ⟨by decide +kernel, rfl⟩
theorem e_X5_splits_11 : z_D 3 M_X5_splits 11 14 (.getfield 7) := ⟨by decide +kernel, rfl⟩
theorem e_X5_splits_14 : z_D 1 M_X5_splits 14 15 (.iconst 5) := ⟨by decide +kernel, rfl⟩
theorem e_X5_splits_15 : z_D 1 M_X5_splits 15 16 (.iaload) := ⟨by decide +kernel, rfl⟩
theorem e_X5_splits_16 : z_D 1 M_X5_splits 16 17 (.istore_n 3) := ⟨by decide +kernel, rfl⟩
theorem e_X5_splits_17 : z_D 1 M_X5_splits 17 18 (.aload_n 0) := ⟨by decide +kernel, rfl⟩
theorem e_X5_splits_18 : z_D 1 M_X5_splits 18 19 (.iload_n 2) := ⟨by decide +kernel, rfl⟩
theorem e_X5_splits_19 : z_D 1 M_X5_splits 19 20 (.iload_n 3) := ⟨by decide +kernel, rfl⟩
theorem e_X5_splits_20 : z_D 3 M_X5_splits 20 23 (.invokevirtual 51) := ⟨by decide +kernel, rfl⟩
theorem e_X5_splits_23 : z_D 3 M_X5_splits 23 26 (.invokestatic 54) := ⟨by decide +kernel, rfl⟩
theorem e_X5_splits_26 : z_J M_X5_splits 26 29 68 (42) (.ifCond .eq 42) := ⟨by decide +kernel, rfl, rfl⟩
theorem e_X5_splits_29 : z_D 1 M_X5_splits 29 30 (.aload_n 0) := ⟨by decide +kernel, rfl⟩
theorem e_X5_splits_30 : z_D 3 M_X5_splits 30 33 (.getfield 7) := ⟨by decide +kernel, rfl⟩
theorem e_X5_splits_33 : z_D 1 M_X5_splits 33 34 (.iload_n 2) := ⟨by decide +kernel, rfl⟩
theorem e_X5_splits_34 : z_D 1 M_X5_splits 34 35 (.iload_n 3) := ⟨by decide +kernel, rfl⟩
theorem e_X5_splits_35 : z_D 1 M_X5_splits 35 36 (.iconst 1) := ⟨by decide +kernel, rfl⟩
theorem e_X5_splits_36 : z_D 1 M_X5_splits 36 37 (.isub) := ⟨by decide +kernel, rfl⟩
theorem e_X5_splits_37 : z_D 3 M_X5_splits 37 40 (.invokestatic 40) := ⟨by decide +kernel, rfl⟩
theorem e_X5_splits_40 : z_D 2 M_X5_splits 40 42 (.bipush 32) := ⟨by decide +kernel, rfl⟩
theorem e_X5_splits_42 : z_D 1 M_X5_splits 42 43 (.iastore) := ⟨by decide +kernel, rfl⟩
theorem e_X5_splits_43 : z_D 1 M_X5_splits 43 44 (.aload_n 0) := ⟨by decide +kernel, rfl⟩
theorem e_X5_splits_44 : z_D 3 M_X5_splits 44 47 (.getfield 7) := ⟨by decide +kernel, rfl⟩
theorem e_X5_splits_47 : z_D 1 M_X5_splits 47 48 (.iload_n 2) := ⟨by decide +kernel, rfl⟩
theorem e_X5_splits_48 : z_D 1 M_X5_splits 48 49 (.iload_n 3) := ⟨by decide +kernel, rfl⟩
theorem e_X5_splits_49 : z_D 3 M_X5_splits 49 52 (.invokestatic 40) := ⟨by decide +kernel, rfl⟩
theorem e_X5_splits_52 : z_D 1 M_X5_splits 52 53 (.iload_n 1) := ⟨by decide +kernel, rfl⟩
theorem e_X5_splits_53 : z_J M_X5_splits 53 56 61 (8) (.ifCond .eq 8) := ⟨by decide +kernel, rfl, rfl⟩
theorem e_X5_splits_56 : z_D 2 M_X5_splits 56 58 (.bipush 32) := ⟨by decide +kernel, rfl⟩
theorem e_X5_splits_58 : z_J M_X5_splits 58 61 67 (9) (.goto 9) := ⟨by decide +kernel, rfl, rfl⟩
theorem e_X5_splits_61 : z_D 1 M_X5_splits 61 62 (.aload_n 0) := ⟨by decide +kernel, rfl⟩
theorem e_X5_splits_62 : z_D 1 M_X5_splits 62 63 (.iload_n 2) := ⟨by decide +kernel, rfl⟩
theorem e_X5_splits_63 : z_D 1 M_X5_splits 63 64 (.iload_n 3) := ⟨by decide +kernel, rfl⟩
theorem e_X5_splits_64 : z_D 3 M_X5_splits 64 67 (.invokevirtual 51) := ⟨by decide +kernel, rfl⟩
theorem e_X5_splits_67 : z_D 1 M_X5_splits 67 68 (.iastore) := ⟨by decide +kernel, rfl⟩
theorem e_X5_splits_68 : z_D 1 M_X5_splits 68 69 (.return_) := ⟨by decide +kernel, rfl⟩
theorem e_X5_insertCells_0 : z_D 1 M_X5_insertCells 0 1 (.iload_n 1) := ⟨by decide +kernel, rfl⟩
theorem e_X5_insertCells_1 : z_D 1 M_X5_insertCells 1 2 (.iconst 1) := ⟨by decide +kernel, rfl⟩
theorem e_X5_insertCells_2 : z_D 2 M_X5_insertCells 2 4 (.bipush 20) := ⟨by decide +kernel, rfl⟩
theorem e_X5_insertCells_4 : z_D 3 M_X5_insertCells 4 7 (.invokestatic 47) := ⟨by decide +kernel, rfl⟩
theorem e_X5_insertCells_7 : z_J M_X5_insertCells 7 10 12 (5) (.ifCond .ne 5) := ⟨by decide +kernel, rfl, rfl⟩
theorem e_X5_insertCells_10 : z_D 1 M_X5_insertCells 10 11 (.iconst (-1)) := ⟨by decide +kernel, rfl⟩
theorem e_X5_insertCells_11 : z_D 1 M_X5_insertCells 11 12 (.ireturn) := ⟨by decide +kernel, rfl⟩
theorem e_X5_insertCells_12 : z_D 1 M_X5_insertCells 12 13 (.aload_n 0) := ⟨by decide +kernel, rfl⟩
theorem e_X5_insertCells_13 : z_D 3 M_X5_insertCells 13 16 (.invokevirtual 96) := ⟨by decide +kernel, rfl⟩
theorem e_X5_insertCells_16 : z_D 2 M_X5_insertCells 16 18 (.bipush 24) := ⟨by decide +kernel, rfl⟩
theorem e_X5_insertCells_18 : z_D 1 M_X5_insertCells 18 19 (.aload_n 0) := ⟨by decide +kernel, rfl⟩
theorem e_X5_insertCells_19 : z_D 3 M_X5_insertCells 19 22 (.getfield 7) := ⟨by decide +kernel, rfl⟩
theorem e_X5_insertCells_22 : z_D 1 M_X5_insertCells 22 23 (.iconst 4) := ⟨by decide +kernel, rfl⟩
theorem e_X5_insertCells_23 : z_D 1 M_X5_insertCells 23 24 (.iaload) := ⟨by decide +kernel, rfl⟩
theorem e_X5_insertCells_24 : z_D 1 M_X5_insertCells 24 25 (.iadd) := ⟨by decide +kernel, rfl⟩
theorem e_X5_insertCells_25 : z_D 1 M_X5_insertCells 25 26 (.istore_n 2) := ⟨by decide +kernel, rfl⟩
theorem e_X5_insertCells_26 : z_D 1 M_X5_insertCells 26 27 (.aload_n 0) := ⟨by decide +kernel, rfl⟩
theorem e_X5_insertCells_27 : z_D 3 M_X5_insertCells 27 30 (.getfield 7) := ⟨by decide +kernel, rfl⟩
theorem e_X5_insertCells_30 : z_D 1 M_X5_insertCells 30 31 (.iconst 5) := ⟨by decide +kernel, rfl⟩
theorem e_X5_insertCells_31 : z_D 1 M_X5_insertCells 31 32 (.iaload) := ⟨by decide +kernel, rfl⟩
theorem e_X5_insertCells_32 : z_D 1 M_X5_insertCells 32 33 (.istore_n 3) := ⟨by decide +kernel, rfl⟩
theorem e_X5_insertCells_33 : z_D 1 M_X5_insertCells 33 34 (.iload_n 1) := ⟨by decide +kernel, rfl⟩
theorem e_X5_insertCells_34 : z_D 1 M_X5_insertCells 34 35 (.aload_n 0) := ⟨by decide +kernel, rfl⟩
theorem e_X5_insertCells_35 : z_D 3 M_X5_insertCells 35 38 (.getfield 7) := ⟨by decide +kernel, rfl⟩
theorem e_X5_insertCells_38 : z_D 1 M_X5_insertCells 38 39 (.iconst 0) := ⟨by decide +kernel, rfl⟩
theorem e_X5_insertCells_39 : z_D 1 M_X5_insertCells 39 40 (.iaload) := ⟨by decide +kernel, rfl⟩
theorem e_X5_insertCells_40 : z_D 1 M_X5_insertCells 40 41 (.iload_n 3) := ⟨by decide +kernel, rfl⟩
theorem e_X5_insertCells_41 : z_D 1 M_X5_insertCells 41 42 (.isub) := ⟨by decide +kernel, rfl⟩
theorem e_X5_insertCells_42 : z_J M_X5_insertCells 42 45 49 (7) (.if_icmp .ge 7) := ⟨by decide +kernel, rfl, rfl⟩
theorem e_X5_insertCells_45 : z_D 1 M_X5_insertCells 45 46 (.iload_n 1) := ⟨by decide +kernel, rfl⟩
theorem e_X5_insertCells_46 : z_J M_X5_insertCells 46 49 57 (11) (.goto 11) := ⟨by decide +kernel, rfl, rfl⟩
theorem e_X5_insertCells_49 : z_D 1 M_X5_insertCells 49 50 (.aload_n 0) := ⟨by decide +kernel, rfl⟩
theorem e_X5_insertCells_50 : z_D 3 M_X5_insertCells 50 53 (.getfield 7) := ⟨by decide +kernel, rfl⟩
theorem e_X5_insertCells_53 : z_D 1 M_X5_insertCells 53 54 (.iconst 0) := ⟨by decide +kernel, rfl⟩
theorem e_X5_insertCells_54 : z_D 1 M_X5_insertCells 54 55 (.iaload) := ⟨by decide +kernel, rfl⟩
theorem e_X5_insertCells_55 : z_D 1 M_X5_insertCells 55 56 (.iload_n 3) := ⟨by decide +kernel, rfl⟩
theorem e_X5_insertCells_56 : z_D 1 M_X5_insertCells 56 57 (.isub) := ⟨by decide +kernel, rfl⟩
theorem e_X5_insertCells_57 : z_D 2 M_X5_insertCells 57 59 (.istore 4) := ⟨by decide +kernel, rfl⟩
theorem e_X5_insertCells_59 : z_D 1 M_X5_insertCells 59 60 (.aload_n 0) := ⟨by decide +kernel, rfl⟩
theorem e_X5_insertCells_60 : z_D 1 M_X5_insertCells 60 61 (.iload_n 2) := ⟨by decide +kernel, rfl⟩
theorem e_X5_insertCells_61 : z_D 3 M_X5_insertCells 61 64 (.invokevirtual 68) := ⟨by decide +kernel, rfl⟩
theorem e_X5_insertCells_64 : z_D 2 M_X5_insertCells 64 66 (.istore 5) := ⟨by decide +kernel, rfl⟩
theorem e_X5_insertCells_66 : z_D 1 M_X5_insertCells 66 67 (.aload_n 0) := ⟨by decide +kernel, rfl⟩
theorem e_X5_insertCells_67 : z_D 1 M_X5_insertCells 67 68 (.iconst 1) := ⟨by decide +kernel, rfl⟩
theorem e_X5_insertCells_68 : z_D 3 M_X5_insertCells 68 71 (.invokevirtual 127) := ⟨by decide +kernel, rfl⟩
theorem e_X5_insertCells_71 : z_D 1 M_X5_insertCells 71 72 (.aload_n 0) := ⟨by decide +kernel, rfl⟩
theorem e_X5_insertCells_72 : z_D 3 M_X5_insertCells 72 75 (.getfield 7) := ⟨by decide +kernel, rfl⟩
theorem e_X5_insertCells_75 : z_D 1 M_X5_insertCells 75 76 (.iconst 0) := ⟨by decide +kernel, rfl⟩
theorem e_X5_insertCells_76 : z_D 1 M_X5_insertCells 76 77 (.iaload) := ⟨by decide +kernel, rfl⟩
theorem e_X5_insertCells_77 : z_D 1 M_X5_insertCells 77 78 (.iconst 1) := ⟨by decide +kernel, rfl⟩
theorem e_X5_insertCells_78 : z_D 1 M_X5_insertCells 78 79 (.isub) := ⟨by decide +kernel, rfl⟩
theorem e_X5_insertCells_79 : z_D 2 M_X5_insertCells 79 81 (.istore 6) := ⟨by decide +kernel, rfl⟩
theorem e_X5_insertCells_81 : z_D 2 M_X5_insertCells 81 83 (.iload 6) := ⟨by decide +kernel, rfl⟩
theorem e_X5_insertCells_83 : z_D 1 M_X5_insertCells 83 84 (.iload_n 3) := ⟨by decide +kernel, rfl⟩
theorem e_X5_insertCells_84 : z_D 2 M_X5_insertCells 84 86 (.iload 4) := ⟨by decide +kernel, rfl⟩
theorem e_X5_insertCells_86 : z_D 1 M_X5_insertCells 86 87 (.iadd) := ⟨by decide +kernel, rfl⟩
theorem e_X5_insertCells_87 : z_J M_X5_insertCells 87 90 117 (30) (.if_icmp .lt 30) := ⟨by decide +kernel, rfl, rfl⟩
theorem e_X5_insertCells_90 : z_D 1 M_X5_insertCells 90 91 (.aload_n 0) := ⟨by decide +kernel, rfl⟩
theorem e_X5_insertCells_91 : z_D 3 M_X5_insertCells 91 94 (.getfield 7) := ⟨by decide +kernel, rfl⟩
theorem e_X5_insertCells_94 : z_D 1 M_X5_insertCells 94 95 (.iload_n 2) := ⟨by decide +kernel, rfl⟩
theorem e_X5_insertCells_95 : z_D 2 M_X5_insertCells 95 97 (.iload 6) := ⟨by decide +kernel, rfl⟩
theorem e_X5_insertCells_97 : z_D 3 M_X5_insertCells 97 100 (.invokestatic 40) := ⟨by decide +kernel, rfl⟩
theorem e_X5_insertCells_100 : z_D 1 M_X5_insertCells 100 101 (.aload_n 0) := ⟨by decide +kernel, rfl⟩
theorem e_X5_insertCells_101 : z_D 1 M_X5_insertCells 101 102 (.iload_n 2) := ⟨by decide +kernel, rfl⟩
theorem e_X5_insertCells_102 : z_D 2 M_X5_insertCells 102 104 (.iload 6) := ⟨by decide +kernel, rfl⟩
theorem e_X5_insertCells_104 : z_D 2 M_X5_insertCells 104 106 (.iload 4) := ⟨by decide +kernel, rfl⟩
theorem e_X5_insertCells_106 : z_D 1 M_X5_insertCells 106 107 (.isub) := ⟨by decide +kernel, rfl⟩
theorem e_X5_insertCells_107 : z_D 3 M_X5_insertCells 107 110 (.invokevirtual 51) := ⟨by decide +kernel, rfl⟩
theorem e_X5_insertCells_110 : z_D 1 M_X5_insertCells 110 111 (.iastore) := ⟨by decide +kernel, rfl⟩
theorem e_X5_insertCells_111 : z_D 3 M_X5_insertCells 111 114 (.iinc 6 (-1)) := ⟨by decide +kernel, rfl⟩
theorem e_X5_insertCells_114 : z_J M_X5_insertCells 114 117 81 (-33) (.goto (-33)) := ⟨by decide +kernel, rfl, rfl⟩
theorem e_X5_insertCells_117 : z_D 1 M_X5_insertCells 117 118 (.iload_n 3) := ⟨by decide +kernel, rfl⟩
theorem e_X5_insertCells_118 : z_D 2 M_X5_insertCells 118 120 (.istore 6) := ⟨by decide +kernel, rfl⟩
theorem e_X5_insertCells_120 : z_D 2 M_X5_insertCells 120 122 (.iload 6) := ⟨by decide +kernel, rfl⟩
theorem e_X5_insertCells_122 : z_D 1 M_X5_insertCells 122 123 (.iload_n 3) := ⟨by decide +kernel, rfl⟩
theorem e_X5_insertCells_123 : z_D 2 M_X5_insertCells 123 125 (.iload 4) := ⟨by decide +kernel, rfl⟩
theorem e_X5_insertCells_125 : z_D 1 M_X5_insertCells 125 126 (.iadd) := ⟨by decide +kernel, rfl⟩
theorem e_X5_insertCells_126 : z_J M_X5_insertCells 126 129 148 (22) (.if_icmp .ge 22) := ⟨by decide +kernel, rfl, rfl⟩
theorem e_X5_insertCells_129 : z_D 1 M_X5_insertCells 129 130 (.aload_n 0) := ⟨by decide +kernel, rfl⟩
theorem e_X5_insertCells_130 : z_D 3 M_X5_insertCells 130 133 (.getfield 7) := ⟨by decide +kernel, rfl⟩
theorem e_X5_insertCells_133 : z_D 1 M_X5_insertCells 133 134 (.iload_n 2) := ⟨by decide +kernel, rfl⟩
theorem e_X5_insertCells_134 : z_D 2 M_X5_insertCells 134 136 (.iload 6) := ⟨by decide +kernel, rfl⟩
theorem e_X5_insertCells_136 : z_D 3 M_X5_insertCells 136 139 (.invokestatic 40) := ⟨by decide +kernel, rfl⟩
theorem e_X5_insertCells_139 : z_D 2 M_X5_insertCells 139 141 (.bipush 32) := ⟨by decide +kernel, rfl⟩
theorem e_X5_insertCells_141 : z_D 1 M_X5_insertCells 141 142 (.iastore) := ⟨by decide +kernel, rfl⟩
theorem e_X5_insertCells_142 : z_D 3 M_X5_insertCells 142 145 (.iinc 6 1) := ⟨by decide +kernel, rfl⟩
theorem e_X5_insertCells_145 : z_J M_X5_insertCells 145 148 120 (-25) (.goto (-25)) := ⟨by decide +kernel, rfl, rfl⟩
theorem e_X5_insertCells_148 : z_D 1 M_X5_insertCells 148 149 (.aload_n 0) := ⟨by decide +kernel, rfl⟩
theorem e_X5_insertCells_149 : z_D 1 M_X5_insertCells 149 150 (.iload_n 2) := ⟨by decide +kernel, rfl⟩
theorem e_X5_insertCells_150 : z_D 1 M_X5_insertCells 150 151 (.aload_n 0) := ⟨by decide +kernel, rfl⟩
theorem e_X5_insertCells_151 : z_D 3 M_X5_insertCells 151 154 (.getfield 7) := ⟨by decide +kernel, rfl⟩
theorem e_X5_insertCells_154 : z_D 1 M_X5_insertCells 154 155 (.iconst 0) := ⟨by decide +kernel, rfl⟩
theorem e_X5_insertCells_155 : z_D 1 M_X5_insertCells 155 156 (.iaload) := ⟨by decide +kernel, rfl⟩
theorem e_X5_insertCells_156 : z_D 1 M_X5_insertCells 156 157 (.iconst 1) := ⟨by decide +kernel, rfl⟩
theorem e_X5_insertCells_157 : z_D 1 M_X5_insertCells 157 158 (.isub) := ⟨by decide +kernel, rfl⟩
theorem e_X5_insertCells_158 : z_D 3 M_X5_insertCells 158 161 (.invokevirtual 51) := ⟨by decide +kernel, rfl⟩
theorem e_X5_insertCells_161 : z_D 3 M_X5_insertCells 161 164 (.invokestatic 62) := ⟨by decide +kernel, rfl⟩
theorem e_X5_insertCells_164 : z_J M_X5_insertCells 164 167 186 (22) (.ifCond .eq 22) := ⟨by decide +kernel, rfl, rfl⟩
theorem e_X5_insertCells_167 : z_D 1 M_X5_insertCells 167 168 (.aload_n 0) := ⟨by decide +kernel, rfl⟩
theorem e_X5_insertCells_168 : z_D 3 M_X5_insertCells 168 171 (.getfield 7) := ⟨by decide +kernel, rfl⟩
theorem e_X5_insertCells_171 : z_D 1 M_X5_insertCells 171 172 (.iload_n 2) := ⟨by decide +kernel, rfl⟩
theorem e_X5_insertCells_172 : z_D 1 M_X5_insertCells 172 173 (.aload_n 0) := ⟨by decide +kernel, rfl⟩
theorem e_X5_insertCells_173 : z_D 3 M_X5_insertCells 173 176 (.getfield 7) := ⟨by decide +kernel, rfl⟩
theorem e_X5_insertCells_176 : z_D 1 M_X5_insertCells 176 177 (.iconst 0) := ⟨by decide +kernel, rfl⟩
theorem e_X5_insertCells_177 : z_D 1 M_X5_insertCells 177 178 (.iaload) := ⟨by decide +kernel, rfl⟩
theorem e_X5_insertCells_178 : z_D 1 M_X5_insertCells 178 179 (.iconst 1) := ⟨by decide +kernel, rfl⟩
theorem e_X5_insertCells_179 : z_D 1 M_X5_insertCells 179 180 (.isub) := ⟨by decide +kernel, rfl⟩
theorem e_X5_insertCells_180 : z_D 3 M_X5_insertCells 180 183 (.invokestatic 40) := ⟨by decide +kernel, rfl⟩
theorem e_X5_insertCells_183 : z_D 2 M_X5_insertCells 183 185 (.bipush 32) := ⟨by decide +kernel, rfl⟩
theorem e_X5_insertCells_185 : z_D 1 M_X5_insertCells 185 186 (.iastore) := ⟨by decide +kernel, rfl⟩
theorem e_X5_insertCells_186 : z_D 1 M_X5_insertCells 186 187 (.aload_n 0) := ⟨by decide +kernel, rfl⟩
theorem e_X5_insertCells_187 : z_D 1 M_X5_insertCells 187 188 (.iload_n 2) := ⟨by decide +kernel, rfl⟩
theorem e_X5_insertCells_188 : z_D 3 M_X5_insertCells 188 191 (.invokevirtual 44) := ⟨by decide +kernel, rfl⟩
theorem e_X5_insertCells_191 : z_D 1 M_X5_insertCells 191 192 (.aload_n 0) := ⟨by decide +kernel, rfl⟩
theorem e_X5_insertCells_192 : z_D 3 M_X5_insertCells 192 195 (.getfield 7) := ⟨by decide +kernel, rfl⟩
theorem e_X5_insertCells_195 : z_D 2 M_X5_insertCells 195 197 (.bipush 6) := ⟨by decide +kernel, rfl⟩
theorem e_X5_insertCells_197 : z_D 1 M_X5_insertCells 197 198 (.iconst 0) := ⟨by decide +kernel, rfl⟩
theorem e_X5_insertCells_198 : z_D 1 M_X5_insertCells 198 199 (.iastore) := ⟨by decide +kernel, rfl⟩
theorem e_X5_insertCells_199 : z_D 2 M_X5_insertCells 199 201 (.iload 5) := ⟨by decide +kernel, rfl⟩
theorem e_X5_insertCells_201 : z_D 1 M_X5_insertCells 201 202 (.aload_n 0) := ⟨by decide +kernel, rfl⟩
theorem e_X5_insertCells_202 : z_D 1 M_X5_insertCells 202 203 (.iload_n 2) := ⟨by decide +kernel, rfl⟩
theorem e_X5_insertCells_203 : z_D 3 M_X5_insertCells 203 206 (.invokevirtual 68) := ⟨by decide +kernel, rfl⟩
theorem e_X5_insertCells_206 : z_D 1 M_X5_insertCells 206 207 (.isub) := ⟨by decide +kernel, rfl⟩
theorem e_X5_insertCells_207 : z_D 1 M_X5_insertCells 207 208 (.ireturn) := ⟨by decide +kernel, rfl⟩
theorem e_X5_deleteCells_0 : z_D 1 M_X5_deleteCells 0 1 (.iload_n 1) := ⟨by decide +kernel, rfl⟩
theorem e_X5_deleteCells_1 : z_D 1 M_X5_deleteCells 1 2 (.iconst 1) := ⟨by decide +kernel, rfl⟩
theorem e_X5_deleteCells_2 : z_D 2 M_X5_deleteCells 2 4 (.bipush 20) := ⟨by decide +kernel, rfl⟩
theorem e_X5_deleteCells_4 : z_D 3 M_X5_deleteCells 4 7 (.invokestatic 47) := ⟨by decide +kernel, rfl⟩
theorem e_X5_deleteCells_7 : z_J M_X5_deleteCells 7 10 12 (5) (.ifCond .ne 5) := ⟨by decide +kernel, rfl, rfl⟩
theorem e_X5_deleteCells_10 : z_D 1 M_X5_deleteCells 10 11 (.iconst (-1)) := ⟨by decide +kernel, rfl⟩
theorem e_X5_deleteCells_11 : z_D 1 M_X5_deleteCells 11 12 (.ireturn) := ⟨by decide +kernel, rfl⟩
theorem e_X5_deleteCells_12 : z_D 1 M_X5_deleteCells 12 13 (.aload_n 0) := ⟨by decide +kernel, rfl⟩
theorem e_X5_deleteCells_13 : z_D 3 M_X5_deleteCells 13 16 (.invokevirtual 96) := ⟨by decide +kernel, rfl⟩
theorem e_X5_deleteCells_16 : z_D 2 M_X5_deleteCells 16 18 (.bipush 24) := ⟨by decide +kernel, rfl⟩
theorem e_X5_deleteCells_18 : z_D 1 M_X5_deleteCells 18 19 (.aload_n 0) := ⟨by decide +kernel, rfl⟩
theorem e_X5_deleteCells_19 : z_D 3 M_X5_deleteCells 19 22 (.getfield 7) := ⟨by decide +kernel, rfl⟩
theorem e_X5_deleteCells_22 : z_D 1 M_X5_deleteCells 22 23 (.iconst 4) := ⟨by decide +kernel, rfl⟩
theorem e_X5_deleteCells_23 : z_D 1 M_X5_deleteCells 23 24 (.iaload) := ⟨by decide +kernel, rfl⟩
theorem e_X5_deleteCells_24 : z_D 1 M_X5_deleteCells 24 25 (.iadd) := ⟨by decide +kernel, rfl⟩
theorem e_X5_deleteCells_25 : z_D 1 M_X5_deleteCells 25 26 (.istore_n 2) := ⟨by decide +kernel, rfl⟩
theorem e_X5_deleteCells_26 : z_D 1 M_X5_deleteCells 26 27 (.aload_n 0) := ⟨by decide +kernel, rfl⟩
theorem e_X5_deleteCells_27 : z_D 3 M_X5_deleteCells 27 30 (.getfield 7) := ⟨by decide +kernel, rfl⟩
theorem e_X5_deleteCells_30 : z_D 1 M_X5_deleteCells 30 31 (.iconst 5) := ⟨by decide +kernel, rfl⟩
theorem e_X5_deleteCells_31 : z_D 1 M_X5_deleteCells 31 32 (.iaload) := ⟨by decide +kernel, rfl⟩
theorem e_X5_deleteCells_32 : z_D 1 M_X5_deleteCells 32 33 (.istore_n 3) := ⟨by decide +kernel, rfl⟩
theorem e_X5_deleteCells_33 : z_D 1 M_X5_deleteCells 33 34 (.iload_n 1) := ⟨by decide +kernel, rfl⟩
theorem e_X5_deleteCells_34 : z_D 1 M_X5_deleteCells 34 35 (.aload_n 0) := ⟨by decide +kernel, rfl⟩
theorem e_X5_deleteCells_35 : z_D 3 M_X5_deleteCells 35 38 (.getfield 7) := ⟨by decide +kernel, rfl⟩
theorem e_X5_deleteCells_38 : z_D 1 M_X5_deleteCells 38 39 (.iconst 0) := ⟨by decide +kernel, rfl⟩
theorem e_X5_deleteCells_39 : z_D 1 M_X5_deleteCells 39 40 (.iaload) := ⟨by decide +kernel, rfl⟩
theorem e_X5_deleteCells_40 : z_D 1 M_X5_deleteCells 40 41 (.iload_n 3) := ⟨by decide +kernel, rfl⟩
theorem e_X5_deleteCells_41 : z_D 1 M_X5_deleteCells 41 42 (.isub) := ⟨by decide +kernel, rfl⟩
theorem e_X5_deleteCells_42 : z_J M_X5_deleteCells 42 45 49 (7) (.if_icmp .ge 7) := ⟨by decide +kernel, rfl, rfl⟩
theorem e_X5_deleteCells_45 : z_D 1 M_X5_deleteCells 45 46 (.iload_n 1) := ⟨by decide +kernel, rfl⟩
theorem e_X5_deleteCells_46 : z_J M_X5_deleteCells 46 49 57 (11) (.goto 11) := ⟨by decide +kernel, rfl, rfl⟩
theorem e_X5_deleteCells_49 : z_D 1 M_X5_deleteCells 49 50 (.aload_n 0) := ⟨by decide +kernel, rfl⟩
theorem e_X5_deleteCells_50 : z_D 3 M_X5_deleteCells 50 53 (.getfield 7) := ⟨by decide +kernel, rfl⟩
theorem e_X5_deleteCells_53 : z_D 1 M_X5_deleteCells 53 54 (.iconst 0) := ⟨by decide +kernel, rfl⟩
theorem e_X5_deleteCells_54 : z_D 1 M_X5_deleteCells 54 55 (.iaload) := ⟨by decide +kernel, rfl⟩
theorem e_X5_deleteCells_55 : z_D 1 M_X5_deleteCells 55 56 (.iload_n 3) := ⟨by decide +kernel, rfl⟩
theorem e_X5_deleteCells_56 : z_D 1 M_X5_deleteCells 56 57 (.isub) := ⟨by decide +kernel, rfl⟩
theorem e_X5_deleteCells_57 : z_D 2 M_X5_deleteCells 57 59 (.istore 4) := ⟨by decide +kernel, rfl⟩
theorem e_X5_deleteCells_59 : z_D 1 M_X5_deleteCells 59 60 (.aload_n 0) := ⟨by decide +kernel, rfl⟩
theorem e_X5_deleteCells_60 : z_D 1 M_X5_deleteCells 60 61 (.iload_n 2) := ⟨by decide +kernel, rfl⟩
theorem e_X5_deleteCells_61 : z_D 3 M_X5_deleteCells 61 64 (.invokevirtual 68) := ⟨by decide +kernel, rfl⟩
theorem e_X5_deleteCells_64 : z_D 2 M_X5_deleteCells 64 66 (.istore 5) := ⟨by decide +kernel, rfl⟩
theorem e_X5_deleteCells_66 : z_D 1 M_X5_deleteCells 66 67 (.aload_n 0) := ⟨by decide +kernel, rfl⟩
theorem e_X5_deleteCells_67 : z_D 1 M_X5_deleteCells 67 68 (.iconst 0) := ⟨by decide +kernel, rfl⟩
end
section
theorem e_X5_deleteCells_68 : z_D 3 M_X5_deleteCells 68 71 (.invokevirtual 127) := ⟨by decide +kernel, rfl⟩
theorem e_X5_deleteCells_71 : z_D 1 M_X5_deleteCells 71 72 (.iload_n 3) := ⟨by decide +kernel, rfl⟩
theorem e_X5_deleteCells_72 : z_D 2 M_X5_deleteCells 72 74 (.iload 4) := ⟨by decide +kernel, rfl⟩
theorem e_X5_deleteCells_74 : z_D 1 M_X5_deleteCells 74 75 (.iadd) := ⟨by decide +kernel, rfl⟩
theorem e_X5_deleteCells_75 : z_D 1 M_X5_deleteCells 75 76 (.aload_n 0) := ⟨by decide +kernel, rfl⟩
theorem e_X5_deleteCells_76 : z_D 3 M_X5_deleteCells 76 79 (.getfield 7) := ⟨by decide +kernel, rfl⟩
theorem e_X5_deleteCells_79 : z_D 1 M_X5_deleteCells 79 80 (.iconst 0) := ⟨by decide +kernel, rfl⟩
theorem e_X5_deleteCells_80 : z_D 1 M_X5_deleteCells 80 81 (.iaload) := ⟨by decide +kernel, rfl⟩
theorem e_X5_deleteCells_81 : z_J M_X5_deleteCells 81 84 114 (33) (.if_icmp .ge 33) := ⟨by decide +kernel, rfl, rfl⟩
theorem e_X5_deleteCells_84 : z_D 1 M_X5_deleteCells 84 85 (.aload_n 0) := ⟨by decide +kernel, rfl⟩
theorem e_X5_deleteCells_85 : z_D 1 M_X5_deleteCells 85 86 (.iload_n 2) := ⟨by decide +kernel, rfl⟩
theorem e_X5_deleteCells_86 : z_D 1 M_X5_deleteCells 86 87 (.iload_n 3) := ⟨by decide +kernel, rfl⟩
theorem e_X5_deleteCells_87 : z_D 2 M_X5_deleteCells 87 89 (.iload 4) := ⟨by decide +kernel, rfl⟩
theorem e_X5_deleteCells_89 : z_D 1 M_X5_deleteCells 89 90 (.iadd) := ⟨by decide +kernel, rfl⟩
theorem e_X5_deleteCells_90 : z_D 3 M_X5_deleteCells 90 93 (.invokevirtual 51) := ⟨by decide +kernel, rfl⟩
theorem e_X5_deleteCells_93 : z_D 3 M_X5_deleteCells 93 96 (.invokestatic 54) := ⟨by decide +kernel, rfl⟩
theorem e_X5_deleteCells_96 : z_J M_X5_deleteCells 96 99 114 (18) (.ifCond .eq 18) := ⟨by decide +kernel, rfl, rfl⟩
theorem e_X5_deleteCells_99 : z_D 1 M_X5_deleteCells 99 100 (.aload_n 0) := ⟨by decide +kernel, rfl⟩
theorem e_X5_deleteCells_100 : z_D 3 M_X5_deleteCells 100 103 (.getfield 7) := ⟨by decide +kernel, rfl⟩
theorem e_X5_deleteCells_103 : z_D 1 M_X5_deleteCells 103 104 (.iload_n 2) := ⟨by decide +kernel, rfl⟩
theorem e_X5_deleteCells_104 : z_D 1 M_X5_deleteCells 104 105 (.iload_n 3) := ⟨by decide +kernel, rfl⟩
theorem e_X5_deleteCells_105 : z_D 2 M_X5_deleteCells 105 107 (.iload 4) := ⟨by decide +kernel, rfl⟩
theorem e_X5_deleteCells_107 : z_D 1 M_X5_deleteCells 107 108 (.iadd) := ⟨by decide +kernel, rfl⟩
theorem e_X5_deleteCells_108 : z_D 3 M_X5_deleteCells 108 111 (.invokestatic 40) := ⟨by decide +kernel, rfl⟩
theorem e_X5_deleteCells_111 : z_D 2 M_X5_deleteCells 111 113 (.bipush 32) := ⟨by decide +kernel, rfl⟩
theorem e_X5_deleteCells_113 : z_D 1 M_X5_deleteCells 113 114 (.iastore) := ⟨by decide +kernel, rfl⟩
theorem e_X5_deleteCells_114 : z_D 1 M_X5_deleteCells 114 115 (.iload_n 3) := ⟨by decide +kernel, rfl⟩
theorem e_X5_deleteCells_115 : z_D 2 M_X5_deleteCells 115 117 (.istore 6) := ⟨by decide +kernel, rfl⟩
theorem e_X5_deleteCells_117 : z_D 2 M_X5_deleteCells 117 119 (.iload 6) := ⟨by decide +kernel, rfl⟩
theorem e_X5_deleteCells_119 : z_D 2 M_X5_deleteCells 119 121 (.iload 4) := ⟨by decide +kernel, rfl⟩
theorem e_X5_deleteCells_121 : z_D 1 M_X5_deleteCells 121 122 (.iadd) := ⟨by decide +kernel, rfl⟩
theorem e_X5_deleteCells_122 : z_D 1 M_X5_deleteCells 122 123 (.aload_n 0) := ⟨by decide +kernel, rfl⟩
theorem e_X5_deleteCells_123 : z_D 3 M_X5_deleteCells 123 126 (.getfield 7) := ⟨by decide +kernel, rfl⟩
theorem e_X5_deleteCells_126 : z_D 1 M_X5_deleteCells 126 127 (.iconst 0) := ⟨by decide +kernel, rfl⟩
theorem e_X5_deleteCells_127 : z_D 1 M_X5_deleteCells 127 128 (.iaload) := ⟨by decide +kernel, rfl⟩
theorem e_X5_deleteCells_128 : z_J M_X5_deleteCells 128 131 158 (30) (.if_icmp .ge 30) := ⟨by decide +kernel, rfl, rfl⟩
theorem e_X5_deleteCells_131 : z_D 1 M_X5_deleteCells 131 132 (.aload_n 0) := ⟨by decide +kernel, rfl⟩
theorem e_X5_deleteCells_132 : z_D 3 M_X5_deleteCells 132 135 (.getfield 7) := ⟨by decide +kernel, rfl⟩
theorem e_X5_deleteCells_135 : z_D 1 M_X5_deleteCells 135 136 (.iload_n 2) := ⟨by decide +kernel, rfl⟩
theorem e_X5_deleteCells_136 : z_D 2 M_X5_deleteCells 136 138 (.iload 6) := ⟨by decide +kernel, rfl⟩
theorem e_X5_deleteCells_138 : z_D 3 M_X5_deleteCells 138 141 (.invokestatic 40) := ⟨by decide +kernel, rfl⟩
theorem e_X5_deleteCells_141 : z_D 1 M_X5_deleteCells 141 142 (.aload_n 0) := ⟨by decide +kernel, rfl⟩
theorem e_X5_deleteCells_142 : z_D 1 M_X5_deleteCells 142 143 (.iload_n 2) := ⟨by decide +kernel, rfl⟩
theorem e_X5_deleteCells_143 : z_D 2 M_X5_deleteCells 143 145 (.iload 6) := ⟨by decide +kernel, rfl⟩
theorem e_X5_deleteCells_145 : z_D 2 M_X5_deleteCells 145 147 (.iload 4) := ⟨by decide +kernel, rfl⟩
theorem e_X5_deleteCells_147 : z_D 1 M_X5_deleteCells 147 148 (.iadd) := ⟨by decide +kernel, rfl⟩
theorem e_X5_deleteCells_148 : z_D 3 M_X5_deleteCells 148 151 (.invokevirtual 51) := ⟨by decide +kernel, rfl⟩
theorem e_X5_deleteCells_151 : z_D 1 M_X5_deleteCells 151 152 (.iastore) := ⟨by decide +kernel, rfl⟩
theorem e_X5_deleteCells_152 : z_D 3 M_X5_deleteCells 152 155 (.iinc 6 1) := ⟨by decide +kernel, rfl⟩
theorem e_X5_deleteCells_155 : z_J M_X5_deleteCells 155 158 117 (-38) (.goto (-38)) := ⟨by decide +kernel, rfl, rfl⟩
theorem e_X5_deleteCells_158 : z_D 1 M_X5_deleteCells 158 159 (.aload_n 0) := ⟨by decide +kernel, rfl⟩
theorem e_X5_deleteCells_159 : z_D 3 M_X5_deleteCells 159 162 (.getfield 7) := ⟨by decide +kernel, rfl⟩
theorem e_X5_deleteCells_162 : z_D 1 M_X5_deleteCells 162 163 (.iconst 0) := ⟨by decide +kernel, rfl⟩
theorem e_X5_deleteCells_163 : z_D 1 M_X5_deleteCells 163 164 (.iaload) := ⟨by decide +kernel, rfl⟩
theorem e_X5_deleteCells_164 : z_D 2 M_X5_deleteCells 164 166 (.iload 4) := ⟨by decide +kernel, rfl⟩
theorem e_X5_deleteCells_166 : z_D 1 M_X5_deleteCells 166 167 (.isub) := ⟨by decide +kernel, rfl⟩
theorem e_X5_deleteCells_167 : z_D 2 M_X5_deleteCells 167 169 (.istore 6) := ⟨by decide +kernel, rfl⟩
theorem e_X5_deleteCells_169 : z_D 2 M_X5_deleteCells 169 171 (.iload 6) := ⟨by decide +kernel, rfl⟩
theorem e_X5_deleteCells_171 : z_D 1 M_X5_deleteCells 171 172 (.aload_n 0) := ⟨by decide +kernel, rfl⟩
theorem e_X5_deleteCells_172 : z_D 3 M_X5_deleteCells 172 175 (.getfield 7) := ⟨by decide +kernel, rfl⟩
theorem e_X5_deleteCells_175 : z_D 1 M_X5_deleteCells 175 176 (.iconst 0) := ⟨by decide +kernel, rfl⟩
theorem e_X5_deleteCells_176 : z_D 1 M_X5_deleteCells 176 177 (.iaload) := ⟨by decide +kernel, rfl⟩
theorem e_X5_deleteCells_177 : z_J M_X5_deleteCells 177 180 199 (22) (.if_icmp .ge 22) := ⟨by decide +kernel, rfl, rfl⟩
theorem e_X5_deleteCells_180 : z_D 1 M_X5_deleteCells 180 181 (.aload_n 0) := ⟨by decide +kernel, rfl⟩
theorem e_X5_deleteCells_181 : z_D 3 M_X5_deleteCells 181 184 (.getfield 7) := ⟨by decide +kernel, rfl⟩
theorem e_X5_deleteCells_184 : z_D 1 M_X5_deleteCells 184 185 (.iload_n 2) := ⟨by decide +kernel, rfl⟩
theorem e_X5_deleteCells_185 : z_D 2 M_X5_deleteCells 185 187 (.iload 6) := ⟨by decide +kernel, rfl⟩
theorem e_X5_deleteCells_187 : z_D 3 M_X5_deleteCells 187 190 (.invokestatic 40) := ⟨by decide +kernel, rfl⟩
theorem e_X5_deleteCells_190 : z_D 2 M_X5_deleteCells 190 192 (.bipush 32) := ⟨by decide +kernel, rfl⟩
theorem e_X5_deleteCells_192 : z_D 1 M_X5_deleteCells 192 193 (.iastore) := ⟨by decide +kernel, rfl⟩
theorem e_X5_deleteCells_193 : z_D 3 M_X5_deleteCells 193 196 (.iinc 6 1) := ⟨by decide +kernel, rfl⟩
theorem e_X5_deleteCells_196 : z_J M_X5_deleteCells 196 199 169 (-27) (.goto (-27)) := ⟨by decide +kernel, rfl, rfl⟩
theorem e_X5_deleteCells_199 : z_D 1 M_X5_deleteCells 199 200 (.aload_n 0) := ⟨by decide +kernel, rfl⟩
theorem e_X5_deleteCells_200 : z_D 1 M_X5_deleteCells 200 201 (.iload_n 2) := ⟨by decide +kernel, rfl⟩
theorem e_X5_deleteCells_201 : z_D 3 M_X5_deleteCells 201 204 (.invokevirtual 44) := ⟨by decide +kernel, rfl⟩
theorem e_X5_deleteCells_204 : z_D 1 M_X5_deleteCells 204 205 (.aload_n 0) := ⟨by decide +kernel, rfl⟩
theorem e_X5_deleteCells_205 : z_D 3 M_X5_deleteCells 205 208 (.getfield 7) := ⟨by decide +kernel, rfl⟩
theorem e_X5_deleteCells_208 : z_D 2 M_X5_deleteCells 208 210 (.bipush 6) := ⟨by decide +kernel, rfl⟩
theorem e_X5_deleteCells_210 : z_D 1 M_X5_deleteCells 210 211 (.iconst 0) := ⟨by decide +kernel, rfl⟩
theorem e_X5_deleteCells_211 : z_D 1 M_X5_deleteCells 211 212 (.iastore) := ⟨by decide +kernel, rfl⟩
theorem e_X5_deleteCells_212 : z_D 2 M_X5_deleteCells 212 214 (.iload 5) := ⟨by decide +kernel, rfl⟩
theorem e_X5_deleteCells_214 : z_D 1 M_X5_deleteCells 214 215 (.aload_n 0) := ⟨by decide +kernel, rfl⟩
theorem e_X5_deleteCells_215 : z_D 1 M_X5_deleteCells 215 216 (.iload_n 2) := ⟨by decide +kernel, rfl⟩
theorem e_X5_deleteCells_216 : z_D 3 M_X5_deleteCells 216 219 (.invokevirtual 68) := ⟨by decide +kernel, rfl⟩
theorem e_X5_deleteCells_219 : z_D 1 M_X5_deleteCells 219 220 (.isub) := ⟨by decide +kernel, rfl⟩
theorem e_X5_deleteCells_220 : z_D 1 M_X5_deleteCells 220 221 (.ireturn) := ⟨by decide +kernel, rfl⟩
theorem e_X5_keep_0 : z_D 1 M_X5_keep 0 1 (.aload_n 0) := ⟨by decide +kernel, rfl⟩
theorem e_X5_keep_1 : z_D 3 M_X5_keep 1 4 (.getfield 7) := ⟨by decide +kernel, rfl⟩
theorem e_X5_keep_4 : z_D 2 M_X5_keep 4 6 (.bipush 7) := ⟨by decide +kernel, rfl⟩
theorem e_X5_keep_6 : z_D 1 M_X5_keep 6 7 (.iaload) := ⟨by decide +kernel, rfl⟩
theorem e_X5_keep_7 : z_D 1 M_X5_keep 7 8 (.iconst 3) := ⟨by decide +kernel, rfl⟩
theorem e_X5_keep_8 : z_J M_X5_keep 8 11 14 (6) (.if_icmp .ne 6) := ⟨by decide +kernel, rfl, rfl⟩
theorem e_X5_keep_11 : z_D 2 M_X5_keep 11 13 (.bipush (-3)) := ⟨by decide +kernel, rfl⟩
theorem e_X5_keep_13 : z_D 1 M_X5_keep 13 14 (.ireturn) := ⟨by decide +kernel, rfl⟩
theorem e_X5_keep_14 : z_D 1 M_X5_keep 14 15 (.aload_n 0) := ⟨by decide +kernel, rfl⟩
theorem e_X5_keep_15 : z_D 3 M_X5_keep 15 18 (.invokevirtual 96) := ⟨by decide +kernel, rfl⟩
theorem e_X5_keep_18 : z_D 1 M_X5_keep 18 19 (.aload_n 0) := ⟨by decide +kernel, rfl⟩
theorem e_X5_keep_19 : z_D 3 M_X5_keep 19 22 (.getfield 7) := ⟨by decide +kernel, rfl⟩
theorem e_X5_keep_22 : z_D 2 M_X5_keep 22 24 (.bipush 8) := ⟨by decide +kernel, rfl⟩
theorem e_X5_keep_24 : z_D 1 M_X5_keep 24 25 (.iconst 2) := ⟨by decide +kernel, rfl⟩
theorem e_X5_keep_25 : z_D 1 M_X5_keep 25 26 (.aload_n 0) := ⟨by decide +kernel, rfl⟩
theorem e_X5_keep_26 : z_D 3 M_X5_keep 26 29 (.getfield 7) := ⟨by decide +kernel, rfl⟩
theorem e_X5_keep_29 : z_D 2 M_X5_keep 29 31 (.bipush 7) := ⟨by decide +kernel, rfl⟩
theorem e_X5_keep_31 : z_D 1 M_X5_keep 31 32 (.iaload) := ⟨by decide +kernel, rfl⟩
theorem e_X5_keep_32 : z_D 1 M_X5_keep 32 33 (.imul) := ⟨by decide +kernel, rfl⟩
theorem e_X5_keep_33 : z_D 1 M_X5_keep 33 34 (.iadd) := ⟨by decide +kernel, rfl⟩
theorem e_X5_keep_34 : z_D 1 M_X5_keep 34 35 (.aload_n 0) := ⟨by decide +kernel, rfl⟩
theorem e_X5_keep_35 : z_D 3 M_X5_keep 35 38 (.getfield 7) := ⟨by decide +kernel, rfl⟩
theorem e_X5_keep_38 : z_D 1 M_X5_keep 38 39 (.iconst 4) := ⟨by decide +kernel, rfl⟩
theorem e_X5_keep_39 : z_D 1 M_X5_keep 39 40 (.iaload) := ⟨by decide +kernel, rfl⟩
theorem e_X5_keep_40 : z_D 1 M_X5_keep 40 41 (.iastore) := ⟨by decide +kernel, rfl⟩
theorem e_X5_keep_41 : z_D 1 M_X5_keep 41 42 (.aload_n 0) := ⟨by decide +kernel, rfl⟩
theorem e_X5_keep_42 : z_D 3 M_X5_keep 42 45 (.getfield 7) := ⟨by decide +kernel, rfl⟩
theorem e_X5_keep_45 : z_D 2 M_X5_keep 45 47 (.bipush 8) := ⟨by decide +kernel, rfl⟩
theorem e_X5_keep_47 : z_D 1 M_X5_keep 47 48 (.iconst 2) := ⟨by decide +kernel, rfl⟩
theorem e_X5_keep_48 : z_D 1 M_X5_keep 48 49 (.aload_n 0) := ⟨by decide +kernel, rfl⟩
theorem e_X5_keep_49 : z_D 3 M_X5_keep 49 52 (.getfield 7) := ⟨by decide +kernel, rfl⟩
theorem e_X5_keep_52 : z_D 2 M_X5_keep 52 54 (.bipush 7) := ⟨by decide +kernel, rfl⟩
theorem e_X5_keep_54 : z_D 1 M_X5_keep 54 55 (.iaload) := ⟨by decide +kernel, rfl⟩
theorem e_X5_keep_55 : z_D 1 M_X5_keep 55 56 (.imul) := ⟨by decide +kernel, rfl⟩
theorem e_X5_keep_56 : z_D 1 M_X5_keep 56 57 (.iadd) := ⟨by decide +kernel, rfl⟩
theorem e_X5_keep_57 : z_D 1 M_X5_keep 57 58 (.iconst 1) := ⟨by decide +kernel, rfl⟩
theorem e_X5_keep_58 : z_D 1 M_X5_keep 58 59 (.iadd) := ⟨by decide +kernel, rfl⟩
theorem e_X5_keep_59 : z_D 1 M_X5_keep 59 60 (.aload_n 0) := ⟨by decide +kernel, rfl⟩
theorem e_X5_keep_60 : z_D 3 M_X5_keep 60 63 (.getfield 7) := ⟨by decide +kernel, rfl⟩
theorem e_X5_keep_63 : z_D 1 M_X5_keep 63 64 (.iconst 5) := ⟨by decide +kernel, rfl⟩
theorem e_X5_keep_64 : z_D 1 M_X5_keep 64 65 (.iaload) := ⟨by decide +kernel, rfl⟩
theorem e_X5_keep_65 : z_D 1 M_X5_keep 65 66 (.iastore) := ⟨by decide +kernel, rfl⟩
theorem e_X5_keep_66 : z_D 1 M_X5_keep 66 67 (.aload_n 0) := ⟨by decide +kernel, rfl⟩
theorem e_X5_keep_67 : z_D 3 M_X5_keep 67 70 (.getfield 7) := ⟨by decide +kernel, rfl⟩
theorem e_X5_keep_70 : z_D 2 M_X5_keep 70 72 (.bipush 7) := ⟨by decide +kernel, rfl⟩
theorem e_X5_keep_72 : z_D 1 M_X5_keep 72 73 (.dup2) := ⟨by decide +kernel, rfl⟩
theorem e_X5_keep_73 : z_D 1 M_X5_keep 73 74 (.iaload) := ⟨by decide +kernel, rfl⟩
theorem e_X5_keep_74 : z_D 1 M_X5_keep 74 75 (.iconst 1) := ⟨by decide +kernel, rfl⟩
theorem e_X5_keep_75 : z_D 1 M_X5_keep 75 76 (.iadd) := ⟨by decide +kernel, rfl⟩
theorem e_X5_keep_76 : z_D 1 M_X5_keep 76 77 (.iastore) := ⟨by decide +kernel, rfl⟩
theorem e_X5_keep_77 : z_D 1 M_X5_keep 77 78 (.aload_n 0) := ⟨by decide +kernel, rfl⟩
theorem e_X5_keep_78 : z_D 3 M_X5_keep 78 81 (.getfield 7) := ⟨by decide +kernel, rfl⟩
theorem e_X5_keep_81 : z_D 2 M_X5_keep 81 83 (.bipush 7) := ⟨by decide +kernel, rfl⟩
theorem e_X5_keep_83 : z_D 1 M_X5_keep 83 84 (.iaload) := ⟨by decide +kernel, rfl⟩
theorem e_X5_keep_84 : z_D 1 M_X5_keep 84 85 (.ireturn) := ⟨by decide +kernel, rfl⟩
theorem e_X5_back_0 : z_D 1 M_X5_back 0 1 (.aload_n 0) := ⟨by decide +kernel, rfl⟩
theorem e_X5_back_1 : z_D 3 M_X5_back 1 4 (.getfield 7) := ⟨by decide +kernel, rfl⟩
theorem e_X5_back_4 : z_D 2 M_X5_back 4 6 (.bipush 7) := ⟨by decide +kernel, rfl⟩
theorem e_X5_back_6 : z_D 1 M_X5_back 6 7 (.iaload) := ⟨by decide +kernel, rfl⟩
theorem e_X5_back_7 : z_J M_X5_back 7 10 13 (6) (.ifCond .ne 6) := ⟨by decide +kernel, rfl, rfl⟩
theorem e_X5_back_10 : z_D 2 M_X5_back 10 12 (.bipush (-2)) := ⟨by decide +kernel, rfl⟩
theorem e_X5_back_12 : z_D 1 M_X5_back 12 13 (.ireturn) := ⟨by decide +kernel, rfl⟩
theorem e_X5_back_13 : z_D 1 M_X5_back 13 14 (.aload_n 0) := ⟨by decide +kernel, rfl⟩
theorem e_X5_back_14 : z_D 3 M_X5_back 14 17 (.invokevirtual 96) := ⟨by decide +kernel, rfl⟩
theorem e_X5_back_17 : z_D 1 M_X5_back 17 18 (.aload_n 0) := ⟨by decide +kernel, rfl⟩
theorem e_X5_back_18 : z_D 3 M_X5_back 18 21 (.getfield 7) := ⟨by decide +kernel, rfl⟩
theorem e_X5_back_21 : z_D 2 M_X5_back 21 23 (.bipush 7) := ⟨by decide +kernel, rfl⟩
theorem e_X5_back_23 : z_D 1 M_X5_back 23 24 (.dup2) := ⟨by decide +kernel, rfl⟩
theorem e_X5_back_24 : z_D 1 M_X5_back 24 25 (.iaload) := ⟨by decide +kernel, rfl⟩
theorem e_X5_back_25 : z_D 1 M_X5_back 25 26 (.iconst 1) := ⟨by decide +kernel, rfl⟩
theorem e_X5_back_26 : z_D 1 M_X5_back 26 27 (.isub) := ⟨by decide +kernel, rfl⟩
theorem e_X5_back_27 : z_D 1 M_X5_back 27 28 (.iastore) := ⟨by decide +kernel, rfl⟩
theorem e_X5_back_28 : z_D 1 M_X5_back 28 29 (.aload_n 0) := ⟨by decide +kernel, rfl⟩
theorem e_X5_back_29 : z_D 1 M_X5_back 29 30 (.aload_n 0) := ⟨by decide +kernel, rfl⟩
theorem e_X5_back_30 : z_D 3 M_X5_back 30 33 (.getfield 7) := ⟨by decide +kernel, rfl⟩
theorem e_X5_back_33 : z_D 2 M_X5_back 33 35 (.bipush 8) := ⟨by decide +kernel, rfl⟩
theorem e_X5_back_35 : z_D 1 M_X5_back 35 36 (.iconst 2) := ⟨by decide +kernel, rfl⟩
theorem e_X5_back_36 : z_D 1 M_X5_back 36 37 (.aload_n 0) := ⟨by decide +kernel, rfl⟩
theorem e_X5_back_37 : z_D 3 M_X5_back 37 40 (.getfield 7) := ⟨by decide +kernel, rfl⟩
theorem e_X5_back_40 : z_D 2 M_X5_back 40 42 (.bipush 7) := ⟨by decide +kernel, rfl⟩
theorem e_X5_back_42 : z_D 1 M_X5_back 42 43 (.iaload) := ⟨by decide +kernel, rfl⟩
theorem e_X5_back_43 : z_D 1 M_X5_back 43 44 (.imul) := ⟨by decide +kernel, rfl⟩
theorem e_X5_back_44 : z_D 1 M_X5_back 44 45 (.iadd) := ⟨by decide +kernel, rfl⟩
theorem e_X5_back_45 : z_D 1 M_X5_back 45 46 (.iaload) := ⟨by decide +kernel, rfl⟩
theorem e_X5_back_46 : z_D 1 M_X5_back 46 47 (.aload_n 0) := ⟨by decide +kernel, rfl⟩
theorem e_X5_back_47 : z_D 3 M_X5_back 47 50 (.getfield 7) := ⟨by decide +kernel, rfl⟩
theorem e_X5_back_50 : z_D 2 M_X5_back 50 52 (.bipush 8) := ⟨by decide +kernel, rfl⟩
theorem e_X5_back_52 : z_D 1 M_X5_back 52 53 (.iconst 2) := ⟨by decide +kernel, rfl⟩
theorem e_X5_back_53 : z_D 1 M_X5_back 53 54 (.aload_n 0) := ⟨by decide +kernel, rfl⟩
theorem e_X5_back_54 : z_D 3 M_X5_back 54 57 (.getfield 7) := ⟨by decide +kernel, rfl⟩
theorem e_X5_back_57 : z_D 2 M_X5_back 57 59 (.bipush 7) := ⟨by decide +kernel, rfl⟩
theorem e_X5_back_59 : z_D 1 M_X5_back 59 60 (.iaload) := ⟨by decide +kernel, rfl⟩
theorem e_X5_back_60 : z_D 1 M_X5_back 60 61 (.imul) := ⟨by decide +kernel, rfl⟩
theorem e_X5_back_61 : z_D 1 M_X5_back 61 62 (.iadd) := ⟨by decide +kernel, rfl⟩
theorem e_X5_back_62 : z_D 1 M_X5_back 62 63 (.iconst 1) := ⟨by decide +kernel, rfl⟩
theorem e_X5_back_63 : z_D 1 M_X5_back 63 64 (.iadd) := ⟨by decide +kernel, rfl⟩
theorem e_X5_back_64 : z_D 1 M_X5_back 64 65 (.iaload) := ⟨by decide +kernel, rfl⟩
theorem e_X5_back_65 : z_D 3 M_X5_back 65 68 (.invokevirtual 111) := ⟨by decide +kernel, rfl⟩
theorem e_X5_back_68 : z_D 1 M_X5_back 68 69 (.aload_n 0) := ⟨by decide +kernel, rfl⟩
theorem e_X5_back_69 : z_D 3 M_X5_back 69 72 (.getfield 7) := ⟨by decide +kernel, rfl⟩
theorem e_X5_back_72 : z_D 2 M_X5_back 72 74 (.bipush 7) := ⟨by decide +kernel, rfl⟩
theorem e_X5_back_74 : z_D 1 M_X5_back 74 75 (.iaload) := ⟨by decide +kernel, rfl⟩
theorem e_X5_back_75 : z_D 1 M_X5_back 75 76 (.ireturn) := ⟨by decide +kernel, rfl⟩
theorem e_X5_counted_0 : z_D 1 M_X5_counted 0 1 (.aload_n 0) := ⟨by decide +kernel, rfl⟩
theorem e_X5_counted_1 : z_D 3 M_X5_counted 1 4 (.getfield 7) := ⟨by decide +kernel, rfl⟩
theorem e_X5_counted_4 : z_D 1 M_X5_counted 4 5 (.iconst 4) := ⟨by decide +kernel, rfl⟩
theorem e_X5_counted_5 : z_D 1 M_X5_counted 5 6 (.iaload) := ⟨by decide +kernel, rfl⟩
theorem e_X5_counted_6 : z_D 1 M_X5_counted 6 7 (.istore_n 1) := ⟨by decide +kernel, rfl⟩
theorem e_X5_counted_7 : z_D 1 M_X5_counted 7 8 (.iconst 0) := ⟨by decide +kernel, rfl⟩
theorem e_X5_counted_8 : z_D 1 M_X5_counted 8 9 (.istore_n 2) := ⟨by decide +kernel, rfl⟩
theorem e_X5_counted_9 : z_D 1 M_X5_counted 9 10 (.iload_n 2) := ⟨by decide +kernel, rfl⟩
theorem e_X5_counted_10 : z_D 1 M_X5_counted 10 11 (.aload_n 0) := ⟨by decide +kernel, rfl⟩
theorem e_X5_counted_11 : z_D 3 M_X5_counted 11 14 (.getfield 7) := ⟨by decide +kernel, rfl⟩
theorem e_X5_counted_14 : z_D 2 M_X5_counted 14 16 (.bipush 7) := ⟨by decide +kernel, rfl⟩
theorem e_X5_counted_16 : z_D 1 M_X5_counted 16 17 (.iaload) := ⟨by decide +kernel, rfl⟩
theorem e_X5_counted_17 : z_J M_X5_counted 17 20 57 (40) (.if_icmp .ge 40) := ⟨by decide +kernel, rfl, rfl⟩
theorem e_X5_counted_20 : z_D 1 M_X5_counted 20 21 (.aload_n 0) := ⟨by decide +kernel, rfl⟩
theorem e_X5_counted_21 : z_D 3 M_X5_counted 21 24 (.getfield 7) := ⟨by decide +kernel, rfl⟩
theorem e_X5_counted_24 : z_D 2 M_X5_counted 24 26 (.bipush 8) := ⟨by decide +kernel, rfl⟩
theorem e_X5_counted_26 : z_D 1 M_X5_counted 26 27 (.iconst 2) := ⟨by decide +kernel, rfl⟩
theorem e_X5_counted_27 : z_D 1 M_X5_counted 27 28 (.iload_n 2) := ⟨by decide +kernel, rfl⟩
theorem e_X5_counted_28 : z_D 1 M_X5_counted 28 29 (.imul) := ⟨by decide +kernel, rfl⟩
theorem e_X5_counted_29 : z_D 1 M_X5_counted 29 30 (.iadd) := ⟨by decide +kernel, rfl⟩
theorem e_X5_counted_30 : z_D 1 M_X5_counted 30 31 (.iaload) := ⟨by decide +kernel, rfl⟩
theorem e_X5_counted_31 : z_D 1 M_X5_counted 31 32 (.iload_n 1) := ⟨by decide +kernel, rfl⟩
theorem e_X5_counted_32 : z_J M_X5_counted 32 35 49 (17) (.if_icmp .le 17) := ⟨by decide +kernel, rfl, rfl⟩
theorem e_X5_counted_35 : z_D 1 M_X5_counted 35 36 (.aload_n 0) := ⟨by decide +kernel, rfl⟩
theorem e_X5_counted_36 : z_D 3 M_X5_counted 36 39 (.getfield 7) := ⟨by decide +kernel, rfl⟩
theorem e_X5_counted_39 : z_D 2 M_X5_counted 39 41 (.bipush 8) := ⟨by decide +kernel, rfl⟩
theorem e_X5_counted_41 : z_D 1 M_X5_counted 41 42 (.iconst 2) := ⟨by decide +kernel, rfl⟩
theorem e_X5_counted_42 : z_D 1 M_X5_counted 42 43 (.iload_n 2) := ⟨by decide +kernel, rfl⟩
theorem e_X5_counted_43 : z_D 1 M_X5_counted 43 44 (.imul) := ⟨by decide +kernel, rfl⟩
theorem e_X5_counted_44 : z_D 1 M_X5_counted 44 45 (.iadd) := ⟨by decide +kernel, rfl⟩
theorem e_X5_counted_45 : z_D 1 M_X5_counted 45 46 (.iaload) := ⟨by decide +kernel, rfl⟩
theorem e_X5_counted_46 : z_J M_X5_counted 46 49 50 (4) (.goto 4) := ⟨by decide +kernel, rfl, rfl⟩
theorem e_X5_counted_49 : z_D 1 M_X5_counted 49 50 (.iload_n 1) := ⟨by decide +kernel, rfl⟩
theorem e_X5_counted_50 : z_D 1 M_X5_counted 50 51 (.istore_n 1) := ⟨by decide +kernel, rfl⟩
theorem e_X5_counted_51 : z_D 3 M_X5_counted 51 54 (.iinc 2 1) := ⟨by decide +kernel, rfl⟩
theorem e_X5_counted_54 : z_J M_X5_counted 54 57 9 (-45) (.goto (-45)) := ⟨by decide +kernel, rfl, rfl⟩
theorem e_X5_counted_57 : z_D 1 M_X5_counted 57 58 (.iconst 0) := ⟨by decide +kernel, rfl⟩
theorem e_X5_counted_58 : z_D 1 M_X5_counted 58 59 (.istore_n 2) := ⟨by decide +kernel, rfl⟩
theorem e_X5_counted_59 : z_D 1 M_X5_counted 59 60 (.iload_n 2) := ⟨by decide +kernel, rfl⟩
theorem e_X5_counted_60 : z_D 1 M_X5_counted 60 61 (.aload_n 0) := ⟨by decide +kernel, rfl⟩
theorem e_X5_counted_61 : z_D 3 M_X5_counted 61 64 (.getfield 7) := ⟨by decide +kernel, rfl⟩
theorem e_X5_counted_64 : z_D 1 M_X5_counted 64 65 (.iconst 1) := ⟨by decide +kernel, rfl⟩
theorem e_X5_counted_65 : z_D 1 M_X5_counted 65 66 (.iaload) := ⟨by decide +kernel, rfl⟩
theorem e_X5_counted_66 : z_J M_X5_counted 66 69 97 (31) (.if_icmp .ge 31) := ⟨by decide +kernel, rfl, rfl⟩
theorem e_X5_counted_69 : z_D 1 M_X5_counted 69 70 (.iload_n 2) := ⟨by decide +kernel, rfl⟩
theorem e_X5_counted_70 : z_D 1 M_X5_counted 70 71 (.iload_n 1) := ⟨by decide +kernel, rfl⟩
theorem e_X5_counted_71 : z_J M_X5_counted 71 74 89 (18) (.if_icmp .le 18) := ⟨by decide +kernel, rfl, rfl⟩
theorem e_X5_counted_74 : z_D 1 M_X5_counted 74 75 (.aload_n 0) := ⟨by decide +kernel, rfl⟩
theorem e_X5_counted_75 : z_D 2 M_X5_counted 75 77 (.bipush 24) := ⟨by decide +kernel, rfl⟩
theorem e_X5_counted_77 : z_D 1 M_X5_counted 77 78 (.iload_n 2) := ⟨by decide +kernel, rfl⟩
theorem e_X5_counted_78 : z_D 1 M_X5_counted 78 79 (.iadd) := ⟨by decide +kernel, rfl⟩
theorem e_X5_counted_79 : z_D 3 M_X5_counted 79 82 (.invokevirtual 68) := ⟨by decide +kernel, rfl⟩
theorem e_X5_counted_82 : z_J M_X5_counted 82 85 89 (7) (.ifCond .le 7) := ⟨by decide +kernel, rfl, rfl⟩
theorem e_X5_counted_85 : z_D 1 M_X5_counted 85 86 (.iload_n 2) := ⟨by decide +kernel, rfl⟩
theorem e_X5_counted_86 : z_J M_X5_counted 86 89 90 (4) (.goto 4) := ⟨by decide +kernel, rfl, rfl⟩
theorem e_X5_counted_89 : z_D 1 M_X5_counted 89 90 (.iload_n 1) := ⟨by decide +kernel, rfl⟩
theorem e_X5_counted_90 : z_D 1 M_X5_counted 90 91 (.istore_n 1) := ⟨by decide +kernel, rfl⟩
theorem e_X5_counted_91 : z_D 3 M_X5_counted 91 94 (.iinc 2 1) := ⟨by decide +kernel, rfl⟩
theorem e_X5_counted_94 : z_J M_X5_counted 94 97 59 (-35) (.goto (-35)) := ⟨by decide +kernel, rfl, rfl⟩
theorem e_X5_counted_97 : z_D 1 M_X5_counted 97 98 (.aload_n 0) := ⟨by decide +kernel, rfl⟩
theorem e_X5_counted_98 : z_D 3 M_X5_counted 98 101 (.getfield 7) := ⟨by decide +kernel, rfl⟩
theorem e_X5_counted_101 : z_D 2 M_X5_counted 101 103 (.bipush 14) := ⟨by decide +kernel, rfl⟩
theorem e_X5_counted_103 : z_D 1 M_X5_counted 103 104 (.iaload) := ⟨by decide +kernel, rfl⟩
theorem e_X5_counted_104 : z_D 1 M_X5_counted 104 105 (.iload_n 1) := ⟨by decide +kernel, rfl⟩
theorem e_X5_counted_105 : z_D 1 M_X5_counted 105 106 (.iadd) := ⟨by decide +kernel, rfl⟩
theorem e_X5_counted_106 : z_D 1 M_X5_counted 106 107 (.iconst 1) := ⟨by decide +kernel, rfl⟩
theorem e_X5_counted_107 : z_D 1 M_X5_counted 107 108 (.iadd) := ⟨by decide +kernel, rfl⟩
theorem e_X5_counted_108 : z_D 1 M_X5_counted 108 109 (.ireturn) := ⟨by decide +kernel, rfl⟩
theorem e_X5_slot_0 : z_D 1 M_X5_slot 0 1 (.iload_n 1) := ⟨by decide +kernel, rfl⟩
theorem e_X5_slot_1 : z_D 1 M_X5_slot 1 2 (.aload_n 0) := ⟨by decide +kernel, rfl⟩
theorem e_X5_slot_2 : z_D 3 M_X5_slot 2 5 (.getfield 7) := ⟨by decide +kernel, rfl⟩
theorem e_X5_slot_5 : z_D 2 M_X5_slot 5 7 (.bipush 14) := ⟨by decide +kernel, rfl⟩
theorem e_X5_slot_7 : z_D 1 M_X5_slot 7 8 (.iaload) := ⟨by decide +kernel, rfl⟩
theorem e_X5_slot_8 : z_J M_X5_slot 8 11 15 (7) (.if_icmp .ge 7) := ⟨by decide +kernel, rfl, rfl⟩
theorem e_X5_slot_11 : z_D 1 M_X5_slot 11 12 (.iload_n 1) := ⟨by decide +kernel, rfl⟩
theorem e_X5_slot_12 : z_J M_X5_slot 12 15 27 (15) (.goto 15) := ⟨by decide +kernel, rfl, rfl⟩
theorem e_X5_slot_15 : z_D 2 M_X5_slot 15 17 (.bipush 24) := ⟨by decide +kernel, rfl⟩
theorem e_X5_slot_17 : z_D 1 M_X5_slot 17 18 (.iload_n 1) := ⟨by decide +kernel, rfl⟩
theorem e_X5_slot_18 : z_D 1 M_X5_slot 18 19 (.iadd) := ⟨by decide +kernel, rfl⟩
theorem e_X5_slot_19 : z_D 1 M_X5_slot 19 20 (.aload_n 0) := ⟨by decide +kernel, rfl⟩
theorem e_X5_slot_20 : z_D 3 M_X5_slot 20 23 (.getfield 7) := ⟨by decide +kernel, rfl⟩
theorem e_X5_slot_23 : z_D 2 M_X5_slot 23 25 (.bipush 14) := ⟨by decide +kernel, rfl⟩
theorem e_X5_slot_25 : z_D 1 M_X5_slot 25 26 (.iaload) := ⟨by decide +kernel, rfl⟩
theorem e_X5_slot_26 : z_D 1 M_X5_slot 26 27 (.isub) := ⟨by decide +kernel, rfl⟩
theorem e_X5_slot_27 : z_D 1 M_X5_slot 27 28 (.ireturn) := ⟨by decide +kernel, rfl⟩
theorem e_X5_lineEnd_0 : z_D 1 M_X5_lineEnd 0 1 (.iload_n 1) := ⟨by decide +kernel, rfl⟩
theorem e_X5_lineEnd_1 : z_D 1 M_X5_lineEnd 1 2 (.istore_n 3) := ⟨by decide +kernel, rfl⟩
theorem e_X5_lineEnd_2 : z_D 1 M_X5_lineEnd 2 3 (.iload_n 3) := ⟨by decide +kernel, rfl⟩
theorem e_X5_lineEnd_3 : z_D 1 M_X5_lineEnd 3 4 (.iconst 1) := ⟨by decide +kernel, rfl⟩
theorem e_X5_lineEnd_4 : z_D 1 M_X5_lineEnd 4 5 (.iadd) := ⟨by decide +kernel, rfl⟩
theorem e_X5_lineEnd_5 : z_D 1 M_X5_lineEnd 5 6 (.iload_n 2) := ⟨by decide +kernel, rfl⟩
theorem e_X5_lineEnd_6 : z_J M_X5_lineEnd 6 9 29 (23) (.if_icmp .ge 23) := ⟨by decide +kernel, rfl, rfl⟩
theorem e_X5_lineEnd_9 : z_D 1 M_X5_lineEnd 9 10 (.aload_n 0) := ⟨by decide +kernel, rfl⟩
theorem e_X5_lineEnd_10 : z_D 1 M_X5_lineEnd 10 11 (.aload_n 0) := ⟨by decide +kernel, rfl⟩
theorem e_X5_lineEnd_11 : z_D 1 M_X5_lineEnd 11 12 (.iload_n 3) := ⟨by decide +kernel, rfl⟩
theorem e_X5_lineEnd_12 : z_D 3 M_X5_lineEnd 12 15 (.invokevirtual 130) := ⟨by decide +kernel, rfl⟩
theorem e_X5_lineEnd_15 : z_D 2 M_X5_lineEnd 15 17 (.bipush 20) := ⟨by decide +kernel, rfl⟩
theorem e_X5_lineEnd_17 : z_D 3 M_X5_lineEnd 17 20 (.invokevirtual 133) := ⟨by decide +kernel, rfl⟩
theorem e_X5_lineEnd_20 : z_J M_X5_lineEnd 20 23 29 (9) (.ifCond .eq 9) := ⟨by decide +kernel, rfl, rfl⟩
theorem e_X5_lineEnd_23 : z_D 3 M_X5_lineEnd 23 26 (.iinc 3 1) := ⟨by decide +kernel, rfl⟩
theorem e_X5_lineEnd_26 : z_J M_X5_lineEnd 26 29 2 (-24) (.goto (-24)) := ⟨by decide +kernel, rfl, rfl⟩
theorem e_X5_lineEnd_29 : z_D 1 M_X5_lineEnd 29 30 (.iload_n 3) := ⟨by decide +kernel, rfl⟩
theorem e_X5_lineEnd_30 : z_D 1 M_X5_lineEnd 30 31 (.ireturn) := ⟨by decide +kernel, rfl⟩
theorem e_X5_lineBegin_0 : z_D 1 M_X5_lineBegin 0 1 (.iconst 0) := ⟨by decide +kernel, rfl⟩
theorem e_X5_lineBegin_1 : z_D 1 M_X5_lineBegin 1 2 (.istore_n 3) := ⟨by decide +kernel, rfl⟩
theorem e_X5_lineBegin_2 : z_D 1 M_X5_lineBegin 2 3 (.iconst 0) := ⟨by decide +kernel, rfl⟩
theorem e_X5_lineBegin_3 : z_D 2 M_X5_lineBegin 3 5 (.istore 4) := ⟨by decide +kernel, rfl⟩
theorem e_X5_lineBegin_5 : z_D 2 M_X5_lineBegin 5 7 (.iload 4) := ⟨by decide +kernel, rfl⟩
theorem e_X5_lineBegin_7 : z_D 1 M_X5_lineBegin 7 8 (.iload_n 1) := ⟨by decide +kernel, rfl⟩
theorem e_X5_lineBegin_8 : z_J M_X5_lineBegin 8 11 31 (23) (.if_icmp .ge 23) := ⟨by decide +kernel, rfl, rfl⟩
theorem e_X5_lineBegin_11 : z_D 1 M_X5_lineBegin 11 12 (.iload_n 3) := ⟨by decide +kernel, rfl⟩
theorem e_X5_lineBegin_12 : z_D 1 M_X5_lineBegin 12 13 (.iload_n 2) := ⟨by decide +kernel, rfl⟩
theorem e_X5_lineBegin_13 : z_J M_X5_lineBegin 13 16 31 (18) (.if_icmp .ge 18) := ⟨by decide +kernel, rfl, rfl⟩
theorem e_X5_lineBegin_16 : z_D 1 M_X5_lineBegin 16 17 (.aload_n 0) := ⟨by decide +kernel, rfl⟩
theorem e_X5_lineBegin_17 : z_D 1 M_X5_lineBegin 17 18 (.iload_n 3) := ⟨by decide +kernel, rfl⟩
theorem e_X5_lineBegin_18 : z_D 1 M_X5_lineBegin 18 19 (.iload_n 2) := ⟨by decide +kernel, rfl⟩
theorem e_X5_lineBegin_19 : z_D 3 M_X5_lineBegin 19 22 (.invokevirtual 137) := ⟨by decide +kernel, rfl⟩
theorem e_X5_lineBegin_22 : z_D 1 M_X5_lineBegin 22 23 (.iconst 1) := ⟨by decide +kernel, rfl⟩
theorem e_X5_lineBegin_23 : z_D 1 M_X5_lineBegin 23 24 (.iadd) := ⟨by decide +kernel, rfl⟩
theorem e_X5_lineBegin_24 : z_D 1 M_X5_lineBegin 24 25 (.istore_n 3) := ⟨by decide +kernel, rfl⟩
theorem e_X5_lineBegin_25 : z_D 3 M_X5_lineBegin 25 28 (.iinc 4 1) := ⟨by decide +kernel, rfl⟩
theorem e_X5_lineBegin_28 : z_J M_X5_lineBegin 28 31 5 (-23) (.goto (-23)) := ⟨by decide +kernel, rfl, rfl⟩
theorem e_X5_lineBegin_31 : z_D 1 M_X5_lineBegin 31 32 (.iload_n 3) := ⟨by decide +kernel, rfl⟩
theorem e_X5_lineBegin_32 : z_D 1 M_X5_lineBegin 32 33 (.ireturn) := ⟨by decide +kernel, rfl⟩
theorem e_X5_lines_0 : z_D 1 M_X5_lines 0 1 (.aload_n 0) := ⟨by decide +kernel, rfl⟩
theorem e_X5_lines_1 : z_D 3 M_X5_lines 1 4 (.invokevirtual 140) := ⟨by decide +kernel, rfl⟩
theorem e_X5_lines_4 : z_D 1 M_X5_lines 4 5 (.istore_n 1) := ⟨by decide +kernel, rfl⟩
theorem e_X5_lines_5 : z_D 1 M_X5_lines 5 6 (.iconst 0) := ⟨by decide +kernel, rfl⟩
theorem e_X5_lines_6 : z_D 1 M_X5_lines 6 7 (.istore_n 2) := ⟨by decide +kernel, rfl⟩
theorem e_X5_lines_7 : z_D 1 M_X5_lines 7 8 (.iconst 0) := ⟨by decide +kernel, rfl⟩
theorem e_X5_lines_8 : z_D 1 M_X5_lines 8 9 (.istore_n 3) := ⟨by decide +kernel, rfl⟩
theorem e_X5_lines_9 : z_D 1 M_X5_lines 9 10 (.iload_n 3) := ⟨by decide +kernel, rfl⟩
theorem e_X5_lines_10 : z_D 1 M_X5_lines 10 11 (.iload_n 1) := ⟨by decide +kernel, rfl⟩
theorem e_X5_lines_11 : z_J M_X5_lines 11 14 29 (18) (.if_icmp .ge 18) := ⟨by decide +kernel, rfl, rfl⟩
theorem e_X5_lines_14 : z_D 3 M_X5_lines 14 17 (.iinc 2 1) := ⟨by decide +kernel, rfl⟩
theorem e_X5_lines_17 : z_D 1 M_X5_lines 17 18 (.aload_n 0) := ⟨by decide +kernel, rfl⟩
theorem e_X5_lines_18 : z_D 1 M_X5_lines 18 19 (.iload_n 3) := ⟨by decide +kernel, rfl⟩
theorem e_X5_lines_19 : z_D 1 M_X5_lines 19 20 (.iload_n 1) := ⟨by decide +kernel, rfl⟩
theorem e_X5_lines_20 : z_D 3 M_X5_lines 20 23 (.invokevirtual 137) := ⟨by decide +kernel, rfl⟩
theorem e_X5_lines_23 : z_D 1 M_X5_lines 23 24 (.iconst 1) := ⟨by decide +kernel, rfl⟩
theorem e_X5_lines_24 : z_D 1 M_X5_lines 24 25 (.iadd) := ⟨by decide +kernel, rfl⟩
theorem e_X5_lines_25 : z_D 1 M_X5_lines 25 26 (.istore_n 3) := ⟨by decide +kernel, rfl⟩
theorem e_X5_lines_26 : z_J M_X5_lines 26 29 9 (-17) (.goto (-17)) := ⟨by decide +kernel, rfl, rfl⟩
theorem e_X5_lines_29 : z_D 1 M_X5_lines 29 30 (.iload_n 2) := ⟨by decide +kernel, rfl⟩
theorem e_X5_lines_30 : z_D 1 M_X5_lines 30 31 (.ireturn) := ⟨by decide +kernel, rfl⟩
theorem e_X5_cellsOf_0 : z_D 1 M_X5_cellsOf 0 1 (.iload_n 1) := ⟨by decide +kernel, rfl⟩
theorem e_X5_cellsOf_1 : z_D 1 M_X5_cellsOf 1 2 (.iload_n 2) := ⟨by decide +kernel, rfl⟩
theorem e_X5_cellsOf_2 : z_J M_X5_cellsOf 2 5 17 (15) (.if_icmp .ne 15) := ⟨by decide +kernel, rfl, rfl⟩
theorem e_X5_cellsOf_5 : z_D 1 M_X5_cellsOf 5 6 (.aload_n 0) := ⟨by decide +kernel, rfl⟩
theorem e_X5_cellsOf_6 : z_D 1 M_X5_cellsOf 6 7 (.aload_n 0) := ⟨by decide +kernel, rfl⟩
theorem e_X5_cellsOf_7 : z_D 1 M_X5_cellsOf 7 8 (.iload_n 1) := ⟨by decide +kernel, rfl⟩
theorem e_X5_cellsOf_8 : z_D 3 M_X5_cellsOf 8 11 (.invokevirtual 130) := ⟨by decide +kernel, rfl⟩
theorem e_X5_cellsOf_11 : z_D 3 M_X5_cellsOf 11 14 (.invokevirtual 143) := ⟨by decide +kernel, rfl⟩
theorem e_X5_cellsOf_14 : z_J M_X5_cellsOf 14 17 48 (34) (.goto 34) := ⟨by decide +kernel, rfl, rfl⟩
theorem e_X5_cellsOf_17 : z_D 1 M_X5_cellsOf 17 18 (.aload_n 0) := ⟨by decide +kernel, rfl⟩
theorem e_X5_cellsOf_18 : z_D 1 M_X5_cellsOf 18 19 (.aload_n 0) := ⟨by decide +kernel, rfl⟩
theorem e_X5_cellsOf_19 : z_D 1 M_X5_cellsOf 19 20 (.iload_n 1) := ⟨by decide +kernel, rfl⟩
theorem e_X5_cellsOf_20 : z_D 3 M_X5_cellsOf 20 23 (.invokevirtual 130) := ⟨by decide +kernel, rfl⟩
theorem e_X5_cellsOf_23 : z_D 2 M_X5_cellsOf 23 25 (.bipush 21) := ⟨by decide +kernel, rfl⟩
theorem e_X5_cellsOf_25 : z_D 3 M_X5_cellsOf 25 28 (.invokevirtual 133) := ⟨by decide +kernel, rfl⟩
theorem e_X5_cellsOf_28 : z_J M_X5_cellsOf 28 31 42 (14) (.ifCond .eq 14) := ⟨by decide +kernel, rfl, rfl⟩
theorem e_X5_cellsOf_31 : z_D 1 M_X5_cellsOf 31 32 (.aload_n 0) := ⟨by decide +kernel, rfl⟩
theorem e_X5_cellsOf_32 : z_D 3 M_X5_cellsOf 32 35 (.getfield 7) := ⟨by decide +kernel, rfl⟩
theorem e_X5_cellsOf_35 : z_D 1 M_X5_cellsOf 35 36 (.iconst 0) := ⟨by decide +kernel, rfl⟩
theorem e_X5_cellsOf_36 : z_D 1 M_X5_cellsOf 36 37 (.iaload) := ⟨by decide +kernel, rfl⟩
theorem e_X5_cellsOf_37 : z_D 1 M_X5_cellsOf 37 38 (.iconst 1) := ⟨by decide +kernel, rfl⟩
theorem e_X5_cellsOf_38 : z_D 1 M_X5_cellsOf 38 39 (.isub) := ⟨by decide +kernel, rfl⟩
theorem e_X5_cellsOf_39 : z_J M_X5_cellsOf 39 42 48 (9) (.goto 9) := ⟨by decide +kernel, rfl, rfl⟩
theorem e_X5_cellsOf_42 : z_D 1 M_X5_cellsOf 42 43 (.aload_n 0) := ⟨by decide +kernel, rfl⟩
theorem e_X5_cellsOf_43 : z_D 3 M_X5_cellsOf 43 46 (.getfield 7) := ⟨by decide +kernel, rfl⟩
theorem e_X5_cellsOf_46 : z_D 1 M_X5_cellsOf 46 47 (.iconst 0) := ⟨by decide +kernel, rfl⟩
theorem e_X5_cellsOf_47 : z_D 1 M_X5_cellsOf 47 48 (.iaload) := ⟨by decide +kernel, rfl⟩
theorem e_X5_cellsOf_48 : z_D 1 M_X5_cellsOf 48 49 (.ireturn) := ⟨by decide +kernel, rfl⟩
theorem e_X5_signsIn_0 : z_D 1 M_X5_signsIn 0 1 (.iconst 0) := ⟨by decide +kernel, rfl⟩
theorem e_X5_signsIn_1 : z_D 1 M_X5_signsIn 1 2 (.istore_n 3) := ⟨by decide +kernel, rfl⟩
theorem e_X5_signsIn_2 : z_D 1 M_X5_signsIn 2 3 (.iconst 0) := ⟨by decide +kernel, rfl⟩
theorem e_X5_signsIn_3 : z_D 2 M_X5_signsIn 3 5 (.istore 4) := ⟨by decide +kernel, rfl⟩
theorem e_X5_signsIn_5 : z_D 2 M_X5_signsIn 5 7 (.iload 4) := ⟨by decide +kernel, rfl⟩
theorem e_X5_signsIn_7 : z_D 1 M_X5_signsIn 7 8 (.iload_n 2) := ⟨by decide +kernel, rfl⟩
theorem e_X5_signsIn_8 : z_J M_X5_signsIn 8 11 38 (30) (.if_icmp .ge 30) := ⟨by decide +kernel, rfl, rfl⟩
theorem e_X5_signsIn_11 : z_D 1 M_X5_signsIn 11 12 (.iload_n 3) := ⟨by decide +kernel, rfl⟩
theorem e_X5_signsIn_12 : z_D 1 M_X5_signsIn 12 13 (.aload_n 0) := ⟨by decide +kernel, rfl⟩
theorem e_X5_signsIn_13 : z_D 1 M_X5_signsIn 13 14 (.iload_n 1) := ⟨by decide +kernel, rfl⟩
theorem e_X5_signsIn_14 : z_D 2 M_X5_signsIn 14 16 (.iload 4) := ⟨by decide +kernel, rfl⟩
theorem e_X5_signsIn_16 : z_D 3 M_X5_signsIn 16 19 (.invokevirtual 51) := ⟨by decide +kernel, rfl⟩
theorem e_X5_signsIn_19 : z_D 3 M_X5_signsIn 19 22 (.invokestatic 54) := ⟨by decide +kernel, rfl⟩
theorem e_X5_signsIn_22 : z_J M_X5_signsIn 22 25 29 (7) (.ifCond .eq 7) := ⟨by decide +kernel, rfl, rfl⟩
theorem e_X5_signsIn_25 : z_D 1 M_X5_signsIn 25 26 (.iconst 0) := ⟨by decide +kernel, rfl⟩
theorem e_X5_signsIn_26 : z_J M_X5_signsIn 26 29 30 (4) (.goto 4) := ⟨by decide +kernel, rfl, rfl⟩
theorem e_X5_signsIn_29 : z_D 1 M_X5_signsIn 29 30 (.iconst 1) := ⟨by decide +kernel, rfl⟩
theorem e_X5_signsIn_30 : z_D 1 M_X5_signsIn 30 31 (.iadd) := ⟨by decide +kernel, rfl⟩
theorem e_X5_signsIn_31 : z_D 1 M_X5_signsIn 31 32 (.istore_n 3) := ⟨by decide +kernel, rfl⟩
theorem e_X5_signsIn_32 : z_D 3 M_X5_signsIn 32 35 (.iinc 4 1) := ⟨by decide +kernel, rfl⟩
theorem e_X5_signsIn_35 : z_J M_X5_signsIn 35 38 5 (-30) (.goto (-30)) := ⟨by decide +kernel, rfl, rfl⟩
theorem e_X5_signsIn_38 : z_D 1 M_X5_signsIn 38 39 (.iload_n 3) := ⟨by decide +kernel, rfl⟩
theorem e_X5_signsIn_39 : z_D 1 M_X5_signsIn 39 40 (.ireturn) := ⟨by decide +kernel, rfl⟩
theorem e_X5_signsOf_0 : z_D 1 M_X5_signsOf 0 1 (.iconst 0) := ⟨by decide +kernel, rfl⟩
theorem e_X5_signsOf_1 : z_D 1 M_X5_signsOf 1 2 (.istore_n 3) := ⟨by decide +kernel, rfl⟩
theorem e_X5_signsOf_2 : z_D 1 M_X5_signsOf 2 3 (.iload_n 1) := ⟨by decide +kernel, rfl⟩
theorem e_X5_signsOf_3 : z_D 2 M_X5_signsOf 3 5 (.istore 4) := ⟨by decide +kernel, rfl⟩
theorem e_X5_signsOf_5 : z_D 2 M_X5_signsOf 5 7 (.iload 4) := ⟨by decide +kernel, rfl⟩
theorem e_X5_signsOf_7 : z_D 1 M_X5_signsOf 7 8 (.iload_n 2) := ⟨by decide +kernel, rfl⟩
theorem e_X5_signsOf_8 : z_J M_X5_signsOf 8 11 37 (29) (.if_icmp .gt 29) := ⟨by decide +kernel, rfl, rfl⟩
theorem e_X5_signsOf_11 : z_D 1 M_X5_signsOf 11 12 (.iload_n 3) := ⟨by decide +kernel, rfl⟩
theorem e_X5_signsOf_12 : z_D 1 M_X5_signsOf 12 13 (.aload_n 0) := ⟨by decide +kernel, rfl⟩
theorem e_X5_signsOf_13 : z_D 1 M_X5_signsOf 13 14 (.aload_n 0) := ⟨by decide +kernel, rfl⟩
theorem e_X5_signsOf_14 : z_D 2 M_X5_signsOf 14 16 (.iload 4) := ⟨by decide +kernel, rfl⟩
theorem e_X5_signsOf_16 : z_D 3 M_X5_signsOf 16 19 (.invokevirtual 130) := ⟨by decide +kernel, rfl⟩
theorem e_X5_signsOf_19 : z_D 1 M_X5_signsOf 19 20 (.aload_n 0) := ⟨by decide +kernel, rfl⟩
theorem e_X5_signsOf_20 : z_D 2 M_X5_signsOf 20 22 (.iload 4) := ⟨by decide +kernel, rfl⟩
theorem e_X5_signsOf_22 : z_D 1 M_X5_signsOf 22 23 (.iload_n 2) := ⟨by decide +kernel, rfl⟩
theorem e_X5_signsOf_23 : z_D 3 M_X5_signsOf 23 26 (.invokevirtual 146) := ⟨by decide +kernel, rfl⟩
theorem e_X5_signsOf_26 : z_D 3 M_X5_signsOf 26 29 (.invokevirtual 149) := ⟨by decide +kernel, rfl⟩
theorem e_X5_signsOf_29 : z_D 1 M_X5_signsOf 29 30 (.iadd) := ⟨by decide +kernel, rfl⟩
theorem e_X5_signsOf_30 : z_D 1 M_X5_signsOf 30 31 (.istore_n 3) := ⟨by decide +kernel, rfl⟩
theorem e_X5_signsOf_31 : z_D 3 M_X5_signsOf 31 34 (.iinc 4 1) := ⟨by decide +kernel, rfl⟩
theorem e_X5_signsOf_34 : z_J M_X5_signsOf 34 37 5 (-29) (.goto (-29)) := ⟨by decide +kernel, rfl, rfl⟩
theorem e_X5_signsOf_37 : z_D 1 M_X5_signsOf 37 38 (.iload_n 3) := ⟨by decide +kernel, rfl⟩
theorem e_X5_signsOf_38 : z_D 1 M_X5_signsOf 38 39 (.ireturn) := ⟨by decide +kernel, rfl⟩
theorem e_X5_lineOf_0 : z_D 1 M_X5_lineOf 0 1 (.iload_n 2) := ⟨by decide +kernel, rfl⟩
theorem e_X5_lineOf_1 : z_D 1 M_X5_lineOf 1 2 (.iload_n 1) := ⟨by decide +kernel, rfl⟩
theorem e_X5_lineOf_2 : z_D 1 M_X5_lineOf 2 3 (.isub) := ⟨by decide +kernel, rfl⟩
theorem e_X5_lineOf_3 : z_D 1 M_X5_lineOf 3 4 (.iconst 1) := ⟨by decide +kernel, rfl⟩
theorem e_X5_lineOf_4 : z_D 1 M_X5_lineOf 4 5 (.iadd) := ⟨by decide +kernel, rfl⟩
theorem e_X5_lineOf_5 : z_D 2 M_X5_lineOf 5 7 (.istore 4) := ⟨by decide +kernel, rfl⟩
theorem e_X5_lineOf_7 : z_D 1 M_X5_lineOf 7 8 (.aload_n 0) := ⟨by decide +kernel, rfl⟩
theorem e_X5_lineOf_8 : z_D 3 M_X5_lineOf 8 11 (.getfield 7) := ⟨by decide +kernel, rfl⟩
theorem e_X5_lineOf_11 : z_D 2 M_X5_lineOf 11 13 (.bipush 14) := ⟨by decide +kernel, rfl⟩
theorem e_X5_lineOf_13 : z_D 1 M_X5_lineOf 13 14 (.iaload) := ⟨by decide +kernel, rfl⟩
theorem e_X5_lineOf_14 : z_D 1 M_X5_lineOf 14 15 (.iload_n 1) := ⟨by decide +kernel, rfl⟩
theorem e_X5_lineOf_15 : z_D 1 M_X5_lineOf 15 16 (.isub) := ⟨by decide +kernel, rfl⟩
theorem e_X5_lineOf_16 : z_D 2 M_X5_lineOf 16 18 (.istore 5) := ⟨by decide +kernel, rfl⟩
theorem e_X5_lineOf_18 : z_D 1 M_X5_lineOf 18 19 (.iload_n 3) := ⟨by decide +kernel, rfl⟩
theorem e_X5_lineOf_19 : z_J M_X5_lineOf 19 22 31 (12) (.ifCond .ne 12) := ⟨by decide +kernel, rfl, rfl⟩
theorem e_X5_lineOf_22 : z_D 1 M_X5_lineOf 22 23 (.aload_n 0) := ⟨by decide +kernel, rfl⟩
theorem e_X5_lineOf_23 : z_D 1 M_X5_lineOf 23 24 (.iload_n 1) := ⟨by decide +kernel, rfl⟩
theorem e_X5_lineOf_24 : z_D 1 M_X5_lineOf 24 25 (.iload_n 2) := ⟨by decide +kernel, rfl⟩
theorem e_X5_lineOf_25 : z_D 3 M_X5_lineOf 25 28 (.invokevirtual 152) := ⟨by decide +kernel, rfl⟩
theorem e_X5_lineOf_28 : z_J M_X5_lineOf 28 31 64 (36) (.goto 36) := ⟨by decide +kernel, rfl, rfl⟩
theorem e_X5_lineOf_31 : z_D 1 M_X5_lineOf 31 32 (.iload_n 3) := ⟨by decide +kernel, rfl⟩
theorem e_X5_lineOf_32 : z_D 1 M_X5_lineOf 32 33 (.iconst 1) := ⟨by decide +kernel, rfl⟩
theorem e_X5_lineOf_33 : z_J M_X5_lineOf 33 36 41 (8) (.if_icmp .ne 8) := ⟨by decide +kernel, rfl, rfl⟩
theorem e_X5_lineOf_36 : z_D 2 M_X5_lineOf 36 38 (.iload 4) := ⟨by decide +kernel, rfl⟩
theorem e_X5_lineOf_38 : z_J M_X5_lineOf 38 41 64 (26) (.goto 26) := ⟨by decide +kernel, rfl, rfl⟩
theorem e_X5_lineOf_41 : z_D 2 M_X5_lineOf 41 43 (.iload 5) := ⟨by decide +kernel, rfl⟩
theorem e_X5_lineOf_43 : z_J M_X5_lineOf 43 46 50 (7) (.ifCond .ge 7) := ⟨by decide +kernel, rfl, rfl⟩
theorem e_X5_lineOf_46 : z_D 1 M_X5_lineOf 46 47 (.iconst 0) := ⟨by decide +kernel, rfl⟩
theorem e_X5_lineOf_47 : z_J M_X5_lineOf 47 50 64 (17) (.goto 17) := ⟨by decide +kernel, rfl, rfl⟩
theorem e_X5_lineOf_50 : z_D 2 M_X5_lineOf 50 52 (.iload 5) := ⟨by decide +kernel, rfl⟩
theorem e_X5_lineOf_52 : z_D 2 M_X5_lineOf 52 54 (.iload 4) := ⟨by decide +kernel, rfl⟩
theorem e_X5_lineOf_54 : z_J M_X5_lineOf 54 57 62 (8) (.if_icmp .ge 8) := ⟨by decide +kernel, rfl, rfl⟩
theorem e_X5_lineOf_57 : z_D 2 M_X5_lineOf 57 59 (.iload 5) := ⟨by decide +kernel, rfl⟩
theorem e_X5_lineOf_59 : z_J M_X5_lineOf 59 62 64 (5) (.goto 5) := ⟨by decide +kernel, rfl, rfl⟩
theorem e_X5_lineOf_62 : z_D 2 M_X5_lineOf 62 64 (.iload 4) := ⟨by decide +kernel, rfl⟩
theorem e_X5_lineOf_64 : z_D 1 M_X5_lineOf 64 65 (.ireturn) := ⟨by decide +kernel, rfl⟩
theorem e_X5_line_0 : z_D 1 M_X5_line 0 1 (.iload_n 1) := ⟨by decide +kernel, rfl⟩
theorem e_X5_line_1 : z_J M_X5_line 1 4 13 (12) (.ifCond .lt 12) := ⟨by decide +kernel, rfl, rfl⟩
theorem e_X5_line_4 : z_D 1 M_X5_line 4 5 (.iload_n 2) := ⟨by decide +kernel, rfl⟩
theorem e_X5_line_5 : z_D 1 M_X5_line 5 6 (.iconst 0) := ⟨by decide +kernel, rfl⟩
theorem e_X5_line_6 : z_D 1 M_X5_line 6 7 (.iconst 2) := ⟨by decide +kernel, rfl⟩
theorem e_X5_line_7 : z_D 3 M_X5_line 7 10 (.invokestatic 47) := ⟨by decide +kernel, rfl⟩
theorem e_X5_line_10 : z_J M_X5_line 10 13 15 (5) (.ifCond .ne 5) := ⟨by decide +kernel, rfl, rfl⟩
theorem e_X5_line_13 : z_D 1 M_X5_line 13 14 (.iconst (-1)) := ⟨by decide +kernel, rfl⟩
theorem e_X5_line_14 : z_D 1 M_X5_line 14 15 (.ireturn) := ⟨by decide +kernel, rfl⟩
theorem e_X5_line_15 : z_D 1 M_X5_line 15 16 (.aload_n 0) := ⟨by decide +kernel, rfl⟩
theorem e_X5_line_16 : z_D 3 M_X5_line 16 19 (.invokevirtual 140) := ⟨by decide +kernel, rfl⟩
theorem e_X5_line_19 : z_D 1 M_X5_line 19 20 (.istore_n 3) := ⟨by decide +kernel, rfl⟩
theorem e_X5_line_20 : z_D 1 M_X5_line 20 21 (.aload_n 0) := ⟨by decide +kernel, rfl⟩
theorem e_X5_line_21 : z_D 1 M_X5_line 21 22 (.iload_n 1) := ⟨by decide +kernel, rfl⟩
theorem e_X5_line_22 : z_D 1 M_X5_line 22 23 (.iload_n 3) := ⟨by decide +kernel, rfl⟩
theorem e_X5_line_23 : z_D 3 M_X5_line 23 26 (.invokevirtual 155) := ⟨by decide +kernel, rfl⟩
theorem e_X5_line_26 : z_D 2 M_X5_line 26 28 (.istore 4) := ⟨by decide +kernel, rfl⟩
theorem e_X5_line_28 : z_D 2 M_X5_line 28 30 (.iload 4) := ⟨by decide +kernel, rfl⟩
theorem e_X5_line_30 : z_D 1 M_X5_line 30 31 (.iload_n 3) := ⟨by decide +kernel, rfl⟩
theorem e_X5_line_31 : z_J M_X5_line 31 34 51 (20) (.if_icmp .ge 20) := ⟨by decide +kernel, rfl, rfl⟩
theorem e_X5_line_34 : z_D 1 M_X5_line 34 35 (.aload_n 0) := ⟨by decide +kernel, rfl⟩
theorem e_X5_line_35 : z_D 2 M_X5_line 35 37 (.iload 4) := ⟨by decide +kernel, rfl⟩
theorem e_X5_line_37 : z_D 1 M_X5_line 37 38 (.aload_n 0) := ⟨by decide +kernel, rfl⟩
theorem e_X5_line_38 : z_D 2 M_X5_line 38 40 (.iload 4) := ⟨by decide +kernel, rfl⟩
theorem e_X5_line_40 : z_D 1 M_X5_line 40 41 (.iload_n 3) := ⟨by decide +kernel, rfl⟩
theorem e_X5_line_41 : z_D 3 M_X5_line 41 44 (.invokevirtual 137) := ⟨by decide +kernel, rfl⟩
theorem e_X5_line_44 : z_D 1 M_X5_line 44 45 (.iload_n 2) := ⟨by decide +kernel, rfl⟩
theorem e_X5_line_45 : z_D 3 M_X5_line 45 48 (.invokevirtual 158) := ⟨by decide +kernel, rfl⟩
theorem e_X5_line_48 : z_J M_X5_line 48 51 53 (5) (.goto 5) := ⟨by decide +kernel, rfl, rfl⟩
theorem e_X5_line_51 : z_D 2 M_X5_line 51 53 (.bipush (-9)) := ⟨by decide +kernel, rfl⟩
theorem e_X5_line_53 : z_D 1 M_X5_line 53 54 (.ireturn) := ⟨by decide +kernel, rfl⟩
theorem e_X5_signOf_0 : z_D 1 M_X5_signOf 0 1 (.iload_n 3) := ⟨by decide +kernel, rfl⟩
theorem e_X5_signOf_1 : z_D 2 M_X5_signOf 1 3 (.istore 4) := ⟨by decide +kernel, rfl⟩
theorem e_X5_signOf_3 : z_D 1 M_X5_signOf 3 4 (.iload_n 1) := ⟨by decide +kernel, rfl⟩
theorem e_X5_signOf_4 : z_D 2 M_X5_signOf 4 6 (.istore 5) := ⟨by decide +kernel, rfl⟩
theorem e_X5_signOf_6 : z_D 2 M_X5_signOf 6 8 (.iload 5) := ⟨by decide +kernel, rfl⟩
theorem e_X5_signOf_8 : z_D 1 M_X5_signOf 8 9 (.iload_n 2) := ⟨by decide +kernel, rfl⟩
theorem e_X5_signOf_9 : z_J M_X5_signOf 9 12 76 (67) (.if_icmp .gt 67) := ⟨by decide +kernel, rfl, rfl⟩
theorem e_X5_signOf_12 : z_D 1 M_X5_signOf 12 13 (.aload_n 0) := ⟨by decide +kernel, rfl⟩
theorem e_X5_signOf_13 : z_D 2 M_X5_signOf 13 15 (.iload 5) := ⟨by decide +kernel, rfl⟩
theorem e_X5_signOf_15 : z_D 1 M_X5_signOf 15 16 (.iload_n 2) := ⟨by decide +kernel, rfl⟩
theorem e_X5_signOf_16 : z_D 3 M_X5_signOf 16 19 (.invokevirtual 146) := ⟨by decide +kernel, rfl⟩
theorem e_X5_signOf_19 : z_D 2 M_X5_signOf 19 21 (.istore 6) := ⟨by decide +kernel, rfl⟩
theorem e_X5_signOf_21 : z_D 1 M_X5_signOf 21 22 (.iconst 0) := ⟨by decide +kernel, rfl⟩
theorem e_X5_signOf_22 : z_D 2 M_X5_signOf 22 24 (.istore 7) := ⟨by decide +kernel, rfl⟩
theorem e_X5_signOf_24 : z_D 2 M_X5_signOf 24 26 (.iload 7) := ⟨by decide +kernel, rfl⟩
theorem e_X5_signOf_26 : z_D 2 M_X5_signOf 26 28 (.iload 6) := ⟨by decide +kernel, rfl⟩
theorem e_X5_signOf_28 : z_J M_X5_signOf 28 31 70 (42) (.if_icmp .ge 42) := ⟨by decide +kernel, rfl, rfl⟩
theorem e_X5_signOf_31 : z_D 1 M_X5_signOf 31 32 (.aload_n 0) := ⟨by decide +kernel, rfl⟩
theorem e_X5_signOf_32 : z_D 1 M_X5_signOf 32 33 (.aload_n 0) := ⟨by decide +kernel, rfl⟩
theorem e_X5_signOf_33 : z_D 2 M_X5_signOf 33 35 (.iload 5) := ⟨by decide +kernel, rfl⟩
theorem e_X5_signOf_35 : z_D 3 M_X5_signOf 35 38 (.invokevirtual 130) := ⟨by decide +kernel, rfl⟩
theorem e_X5_signOf_38 : z_D 2 M_X5_signOf 38 40 (.iload 7) := ⟨by decide +kernel, rfl⟩
theorem e_X5_signOf_40 : z_D 3 M_X5_signOf 40 43 (.invokevirtual 51) := ⟨by decide +kernel, rfl⟩
theorem e_X5_signOf_43 : z_D 2 M_X5_signOf 43 45 (.istore 8) := ⟨by decide +kernel, rfl⟩
theorem e_X5_signOf_45 : z_D 2 M_X5_signOf 45 47 (.iload 8) := ⟨by decide +kernel, rfl⟩
theorem e_X5_signOf_47 : z_D 3 M_X5_signOf 47 50 (.invokestatic 54) := ⟨by decide +kernel, rfl⟩
theorem e_X5_signOf_50 : z_J M_X5_signOf 50 53 64 (14) (.ifCond .ne 14) := ⟨by decide +kernel, rfl, rfl⟩
theorem e_X5_signOf_53 : z_D 2 M_X5_signOf 53 55 (.iload 4) := ⟨by decide +kernel, rfl⟩
theorem e_X5_signOf_55 : z_J M_X5_signOf 55 58 61 (6) (.ifCond .ne 6) := ⟨by decide +kernel, rfl, rfl⟩
theorem e_X5_signOf_58 : z_D 2 M_X5_signOf 58 60 (.iload 8) := ⟨by decide +kernel, rfl⟩
theorem e_X5_signOf_60 : z_D 1 M_X5_signOf 60 61 (.ireturn) := ⟨by decide +kernel, rfl⟩
theorem e_X5_signOf_61 : z_D 3 M_X5_signOf 61 64 (.iinc 4 (-1)) := ⟨by decide +kernel, rfl⟩
theorem e_X5_signOf_64 : z_D 3 M_X5_signOf 64 67 (.iinc 7 1) := ⟨by decide +kernel, rfl⟩
theorem e_X5_signOf_67 : z_J M_X5_signOf 67 70 24 (-43) (.goto (-43)) := ⟨by decide +kernel, rfl, rfl⟩
theorem e_X5_signOf_70 : z_D 3 M_X5_signOf 70 73 (.iinc 5 1) := ⟨by decide +kernel, rfl⟩
theorem e_X5_signOf_73 : z_J M_X5_signOf 73 76 6 (-67) (.goto (-67)) := ⟨by decide +kernel, rfl, rfl⟩
theorem e_X5_signOf_76 : z_D 2 M_X5_signOf 76 78 (.bipush (-9)) := ⟨by decide +kernel, rfl⟩
theorem e_X5_signOf_78 : z_D 1 M_X5_signOf 78 79 (.ireturn) := ⟨by decide +kernel, rfl⟩
theorem e_X5_sign_0 : z_D 1 M_X5_sign 0 1 (.iload_n 1) := ⟨by decide +kernel, rfl⟩
theorem e_X5_sign_1 : z_J M_X5_sign 1 4 8 (7) (.ifCond .lt 7) := ⟨by decide +kernel, rfl, rfl⟩
theorem e_X5_sign_4 : z_D 1 M_X5_sign 4 5 (.iload_n 2) := ⟨by decide +kernel, rfl⟩
theorem e_X5_sign_5 : z_J M_X5_sign 5 8 10 (5) (.ifCond .ge 5) := ⟨by decide +kernel, rfl, rfl⟩
theorem e_X5_sign_8 : z_D 1 M_X5_sign 8 9 (.iconst (-1)) := ⟨by decide +kernel, rfl⟩
theorem e_X5_sign_9 : z_D 1 M_X5_sign 9 10 (.ireturn) := ⟨by decide +kernel, rfl⟩
theorem e_X5_sign_10 : z_D 1 M_X5_sign 10 11 (.aload_n 0) := ⟨by decide +kernel, rfl⟩
theorem e_X5_sign_11 : z_D 3 M_X5_sign 11 14 (.invokevirtual 140) := ⟨by decide +kernel, rfl⟩
theorem e_X5_sign_14 : z_D 1 M_X5_sign 14 15 (.istore_n 3) := ⟨by decide +kernel, rfl⟩
theorem e_X5_sign_15 : z_D 1 M_X5_sign 15 16 (.aload_n 0) := ⟨by decide +kernel, rfl⟩
theorem e_X5_sign_16 : z_D 1 M_X5_sign 16 17 (.iload_n 1) := ⟨by decide +kernel, rfl⟩
theorem e_X5_sign_17 : z_D 1 M_X5_sign 17 18 (.iload_n 3) := ⟨by decide +kernel, rfl⟩
theorem e_X5_sign_18 : z_D 3 M_X5_sign 18 21 (.invokevirtual 155) := ⟨by decide +kernel, rfl⟩
theorem e_X5_sign_21 : z_D 2 M_X5_sign 21 23 (.istore 4) := ⟨by decide +kernel, rfl⟩
theorem e_X5_sign_23 : z_D 2 M_X5_sign 23 25 (.iload 4) := ⟨by decide +kernel, rfl⟩
theorem e_X5_sign_25 : z_D 1 M_X5_sign 25 26 (.iload_n 3) := ⟨by decide +kernel, rfl⟩
theorem e_X5_sign_26 : z_J M_X5_sign 26 29 46 (20) (.if_icmp .ge 20) := ⟨by decide +kernel, rfl, rfl⟩
theorem e_X5_sign_29 : z_D 1 M_X5_sign 29 30 (.aload_n 0) := ⟨by decide +kernel, rfl⟩
theorem e_X5_sign_30 : z_D 2 M_X5_sign 30 32 (.iload 4) := ⟨by decide +kernel, rfl⟩
theorem e_X5_sign_32 : z_D 1 M_X5_sign 32 33 (.aload_n 0) := ⟨by decide +kernel, rfl⟩
theorem e_X5_sign_33 : z_D 2 M_X5_sign 33 35 (.iload 4) := ⟨by decide +kernel, rfl⟩
theorem e_X5_sign_35 : z_D 1 M_X5_sign 35 36 (.iload_n 3) := ⟨by decide +kernel, rfl⟩
theorem e_X5_sign_36 : z_D 3 M_X5_sign 36 39 (.invokevirtual 137) := ⟨by decide +kernel, rfl⟩
theorem e_X5_sign_39 : z_D 1 M_X5_sign 39 40 (.iload_n 2) := ⟨by decide +kernel, rfl⟩
theorem e_X5_sign_40 : z_D 3 M_X5_sign 40 43 (.invokevirtual 162) := ⟨by decide +kernel, rfl⟩
theorem e_X5_sign_43 : z_J M_X5_sign 43 46 48 (5) (.goto 5) := ⟨by decide +kernel, rfl, rfl⟩
theorem e_X5_sign_46 : z_D 2 M_X5_sign 46 48 (.bipush (-9)) := ⟨by decide +kernel, rfl⟩
theorem e_X5_sign_48 : z_D 1 M_X5_sign 48 49 (.ireturn) := ⟨by decide +kernel, rfl⟩
theorem e_X5_lineAt_0 : z_D 1 M_X5_lineAt 0 1 (.aload_n 0) := ⟨by decide +kernel, rfl⟩
theorem e_X5_lineAt_1 : z_D 3 M_X5_lineAt 1 4 (.invokevirtual 140) := ⟨by decide +kernel, rfl⟩
theorem e_X5_lineAt_4 : z_D 1 M_X5_lineAt 4 5 (.istore_n 2) := ⟨by decide +kernel, rfl⟩
theorem e_X5_lineAt_5 : z_D 1 M_X5_lineAt 5 6 (.aload_n 0) := ⟨by decide +kernel, rfl⟩
theorem e_X5_lineAt_6 : z_D 3 M_X5_lineAt 6 9 (.getfield 7) := ⟨by decide +kernel, rfl⟩
theorem e_X5_lineAt_9 : z_D 2 M_X5_lineAt 9 11 (.bipush 14) := ⟨by decide +kernel, rfl⟩
theorem e_X5_lineAt_11 : z_D 1 M_X5_lineAt 11 12 (.iaload) := ⟨by decide +kernel, rfl⟩
theorem e_X5_lineAt_12 : z_D 1 M_X5_lineAt 12 13 (.iload_n 1) := ⟨by decide +kernel, rfl⟩
theorem e_X5_lineAt_13 : z_D 1 M_X5_lineAt 13 14 (.iadd) := ⟨by decide +kernel, rfl⟩
theorem e_X5_lineAt_14 : z_D 1 M_X5_lineAt 14 15 (.istore_n 3) := ⟨by decide +kernel, rfl⟩
theorem e_X5_lineAt_15 : z_D 1 M_X5_lineAt 15 16 (.iconst 0) := ⟨by decide +kernel, rfl⟩
theorem e_X5_lineAt_16 : z_D 2 M_X5_lineAt 16 18 (.istore 4) := ⟨by decide +kernel, rfl⟩
theorem e_X5_lineAt_18 : z_D 1 M_X5_lineAt 18 19 (.iconst 0) := ⟨by decide +kernel, rfl⟩
theorem e_X5_lineAt_19 : z_D 2 M_X5_lineAt 19 21 (.istore 5) := ⟨by decide +kernel, rfl⟩
theorem e_X5_lineAt_21 : z_D 1 M_X5_lineAt 21 22 (.aload_n 0) := ⟨by decide +kernel, rfl⟩
theorem e_X5_lineAt_22 : z_D 2 M_X5_lineAt 22 24 (.iload 5) := ⟨by decide +kernel, rfl⟩
theorem e_X5_lineAt_24 : z_D 1 M_X5_lineAt 24 25 (.iload_n 2) := ⟨by decide +kernel, rfl⟩
theorem e_X5_lineAt_25 : z_D 3 M_X5_lineAt 25 28 (.invokevirtual 137) := ⟨by decide +kernel, rfl⟩
theorem e_X5_lineAt_28 : z_D 1 M_X5_lineAt 28 29 (.iload_n 3) := ⟨by decide +kernel, rfl⟩
theorem e_X5_lineAt_29 : z_J M_X5_lineAt 29 32 49 (20) (.if_icmp .ge 20) := ⟨by decide +kernel, rfl, rfl⟩
theorem e_X5_lineAt_32 : z_D 1 M_X5_lineAt 32 33 (.aload_n 0) := ⟨by decide +kernel, rfl⟩
theorem e_X5_lineAt_33 : z_D 2 M_X5_lineAt 33 35 (.iload 5) := ⟨by decide +kernel, rfl⟩
theorem e_X5_lineAt_35 : z_D 1 M_X5_lineAt 35 36 (.iload_n 2) := ⟨by decide +kernel, rfl⟩
theorem e_X5_lineAt_36 : z_D 3 M_X5_lineAt 36 39 (.invokevirtual 137) := ⟨by decide +kernel, rfl⟩
theorem e_X5_lineAt_39 : z_D 1 M_X5_lineAt 39 40 (.iconst 1) := ⟨by decide +kernel, rfl⟩
theorem e_X5_lineAt_40 : z_D 1 M_X5_lineAt 40 41 (.iadd) := ⟨by decide +kernel, rfl⟩
theorem e_X5_lineAt_41 : z_D 2 M_X5_lineAt 41 43 (.istore 5) := ⟨by decide +kernel, rfl⟩
theorem e_X5_lineAt_43 : z_D 3 M_X5_lineAt 43 46 (.iinc 4 1) := ⟨by decide +kernel, rfl⟩
theorem e_X5_lineAt_46 : z_J M_X5_lineAt 46 49 21 (-25) (.goto (-25)) := ⟨by decide +kernel, rfl, rfl⟩
theorem e_X5_lineAt_49 : z_D 2 M_X5_lineAt 49 51 (.iload 4) := ⟨by decide +kernel, rfl⟩
theorem e_X5_lineAt_51 : z_D 1 M_X5_lineAt 51 52 (.ireturn) := ⟨by decide +kernel, rfl⟩
theorem e_X5_markOf_0 : z_D 1 M_X5_markOf 0 1 (.aload_n 0) := ⟨by decide +kernel, rfl⟩
theorem e_X5_markOf_1 : z_D 3 M_X5_markOf 1 4 (.invokevirtual 140) := ⟨by decide +kernel, rfl⟩
theorem e_X5_markOf_4 : z_D 1 M_X5_markOf 4 5 (.istore_n 3) := ⟨by decide +kernel, rfl⟩
theorem e_X5_markOf_5 : z_D 1 M_X5_markOf 5 6 (.aload_n 0) := ⟨by decide +kernel, rfl⟩
theorem e_X5_markOf_6 : z_D 3 M_X5_markOf 6 9 (.getfield 7) := ⟨by decide +kernel, rfl⟩
theorem e_X5_markOf_9 : z_D 2 M_X5_markOf 9 11 (.bipush 14) := ⟨by decide +kernel, rfl⟩
theorem e_X5_markOf_11 : z_D 1 M_X5_markOf 11 12 (.iaload) := ⟨by decide +kernel, rfl⟩
theorem e_X5_markOf_12 : z_D 1 M_X5_markOf 12 13 (.iload_n 1) := ⟨by decide +kernel, rfl⟩
theorem e_X5_markOf_13 : z_D 1 M_X5_markOf 13 14 (.iadd) := ⟨by decide +kernel, rfl⟩
theorem e_X5_markOf_14 : z_D 2 M_X5_markOf 14 16 (.istore 4) := ⟨by decide +kernel, rfl⟩
theorem e_X5_markOf_16 : z_D 1 M_X5_markOf 16 17 (.aload_n 0) := ⟨by decide +kernel, rfl⟩
theorem e_X5_markOf_17 : z_D 1 M_X5_markOf 17 18 (.aload_n 0) := ⟨by decide +kernel, rfl⟩
theorem e_X5_markOf_18 : z_D 1 M_X5_markOf 18 19 (.iload_n 1) := ⟨by decide +kernel, rfl⟩
theorem e_X5_markOf_19 : z_D 3 M_X5_markOf 19 22 (.invokevirtual 165) := ⟨by decide +kernel, rfl⟩
theorem e_X5_markOf_22 : z_D 1 M_X5_markOf 22 23 (.iload_n 3) := ⟨by decide +kernel, rfl⟩
theorem e_X5_markOf_23 : z_D 3 M_X5_markOf 23 26 (.invokevirtual 155) := ⟨by decide +kernel, rfl⟩
theorem e_X5_markOf_26 : z_D 2 M_X5_markOf 26 28 (.istore 5) := ⟨by decide +kernel, rfl⟩
theorem e_X5_markOf_28 : z_D 1 M_X5_markOf 28 29 (.aload_n 0) := ⟨by decide +kernel, rfl⟩
theorem e_X5_markOf_29 : z_D 2 M_X5_markOf 29 31 (.iload 5) := ⟨by decide +kernel, rfl⟩
theorem e_X5_markOf_31 : z_D 1 M_X5_markOf 31 32 (.iload_n 3) := ⟨by decide +kernel, rfl⟩
theorem e_X5_markOf_32 : z_D 3 M_X5_markOf 32 35 (.invokevirtual 137) := ⟨by decide +kernel, rfl⟩
theorem e_X5_markOf_35 : z_D 2 M_X5_markOf 35 37 (.istore 6) := ⟨by decide +kernel, rfl⟩
theorem e_X5_markOf_37 : z_D 1 M_X5_markOf 37 38 (.iconst 0) := ⟨by decide +kernel, rfl⟩
theorem e_X5_markOf_38 : z_D 2 M_X5_markOf 38 40 (.istore 7) := ⟨by decide +kernel, rfl⟩
theorem e_X5_markOf_40 : z_D 2 M_X5_markOf 40 42 (.iload 5) := ⟨by decide +kernel, rfl⟩
theorem e_X5_markOf_42 : z_D 2 M_X5_markOf 42 44 (.istore 8) := ⟨by decide +kernel, rfl⟩
theorem e_X5_markOf_44 : z_D 2 M_X5_markOf 44 46 (.iload 8) := ⟨by decide +kernel, rfl⟩
theorem e_X5_markOf_46 : z_D 2 M_X5_markOf 46 48 (.iload 4) := ⟨by decide +kernel, rfl⟩
theorem e_X5_markOf_48 : z_J M_X5_markOf 48 51 80 (32) (.if_icmp .ge 32) := ⟨by decide +kernel, rfl, rfl⟩
theorem e_X5_markOf_51 : z_D 2 M_X5_markOf 51 53 (.iload 7) := ⟨by decide +kernel, rfl⟩
theorem e_X5_markOf_53 : z_D 1 M_X5_markOf 53 54 (.aload_n 0) := ⟨by decide +kernel, rfl⟩
theorem e_X5_markOf_54 : z_D 1 M_X5_markOf 54 55 (.aload_n 0) := ⟨by decide +kernel, rfl⟩
theorem e_X5_markOf_55 : z_D 2 M_X5_markOf 55 57 (.iload 8) := ⟨by decide +kernel, rfl⟩
theorem e_X5_markOf_57 : z_D 3 M_X5_markOf 57 60 (.invokevirtual 130) := ⟨by decide +kernel, rfl⟩
theorem e_X5_markOf_60 : z_D 1 M_X5_markOf 60 61 (.aload_n 0) := ⟨by decide +kernel, rfl⟩
theorem e_X5_markOf_61 : z_D 2 M_X5_markOf 61 63 (.iload 8) := ⟨by decide +kernel, rfl⟩
theorem e_X5_markOf_63 : z_D 2 M_X5_markOf 63 65 (.iload 6) := ⟨by decide +kernel, rfl⟩
theorem e_X5_markOf_65 : z_D 3 M_X5_markOf 65 68 (.invokevirtual 146) := ⟨by decide +kernel, rfl⟩
theorem e_X5_markOf_68 : z_D 3 M_X5_markOf 68 71 (.invokevirtual 149) := ⟨by decide +kernel, rfl⟩
theorem e_X5_markOf_71 : z_D 1 M_X5_markOf 71 72 (.iadd) := ⟨by decide +kernel, rfl⟩
theorem e_X5_markOf_72 : z_D 2 M_X5_markOf 72 74 (.istore 7) := ⟨by decide +kernel, rfl⟩
theorem e_X5_markOf_74 : z_D 3 M_X5_markOf 74 77 (.iinc 8 1) := ⟨by decide +kernel, rfl⟩
theorem e_X5_markOf_77 : z_J M_X5_markOf 77 80 44 (-33) (.goto (-33)) := ⟨by decide +kernel, rfl, rfl⟩
theorem e_X5_markOf_80 : z_D 1 M_X5_markOf 80 81 (.aload_n 0) := ⟨by decide +kernel, rfl⟩
theorem e_X5_markOf_81 : z_D 2 M_X5_markOf 81 83 (.iload 4) := ⟨by decide +kernel, rfl⟩
theorem e_X5_markOf_83 : z_D 2 M_X5_markOf 83 85 (.iload 6) := ⟨by decide +kernel, rfl⟩
theorem e_X5_markOf_85 : z_D 3 M_X5_markOf 85 88 (.invokevirtual 146) := ⟨by decide +kernel, rfl⟩
theorem e_X5_markOf_88 : z_D 2 M_X5_markOf 88 90 (.istore 8) := ⟨by decide +kernel, rfl⟩
theorem e_X5_markOf_90 : z_D 2 M_X5_markOf 90 92 (.iload 7) := ⟨by decide +kernel, rfl⟩
theorem e_X5_markOf_92 : z_D 1 M_X5_markOf 92 93 (.aload_n 0) := ⟨by decide +kernel, rfl⟩
theorem e_X5_markOf_93 : z_D 1 M_X5_markOf 93 94 (.aload_n 0) := ⟨by decide +kernel, rfl⟩
theorem e_X5_markOf_94 : z_D 2 M_X5_markOf 94 96 (.iload 4) := ⟨by decide +kernel, rfl⟩
theorem e_X5_markOf_96 : z_D 3 M_X5_markOf 96 99 (.invokevirtual 130) := ⟨by decide +kernel, rfl⟩
theorem e_X5_markOf_99 : z_D 1 M_X5_markOf 99 100 (.iload_n 2) := ⟨by decide +kernel, rfl⟩
theorem e_X5_markOf_100 : z_D 2 M_X5_markOf 100 102 (.iload 8) := ⟨by decide +kernel, rfl⟩
theorem e_X5_markOf_102 : z_J M_X5_markOf 102 105 109 (7) (.if_icmp .ge 7) := ⟨by decide +kernel, rfl, rfl⟩
theorem e_X5_markOf_105 : z_D 1 M_X5_markOf 105 106 (.iload_n 2) := ⟨by decide +kernel, rfl⟩
theorem e_X5_markOf_106 : z_J M_X5_markOf 106 109 111 (5) (.goto 5) := ⟨by decide +kernel, rfl, rfl⟩
theorem e_X5_markOf_109 : z_D 2 M_X5_markOf 109 111 (.iload 8) := ⟨by decide +kernel, rfl⟩
theorem e_X5_markOf_111 : z_D 3 M_X5_markOf 111 114 (.invokevirtual 149) := ⟨by decide +kernel, rfl⟩
theorem e_X5_markOf_114 : z_D 1 M_X5_markOf 114 115 (.iadd) := ⟨by decide +kernel, rfl⟩
theorem e_X5_markOf_115 : z_D 2 M_X5_markOf 115 117 (.istore 7) := ⟨by decide +kernel, rfl⟩
theorem e_X5_markOf_117 : z_D 2 M_X5_markOf 117 119 (.iload 4) := ⟨by decide +kernel, rfl⟩
theorem e_X5_markOf_119 : z_D 2 M_X5_markOf 119 121 (.iload 6) := ⟨by decide +kernel, rfl⟩
theorem e_X5_markOf_121 : z_J M_X5_markOf 121 124 140 (19) (.if_icmp .ne 19) := ⟨by decide +kernel, rfl, rfl⟩
theorem e_X5_markOf_124 : z_D 1 M_X5_markOf 124 125 (.iload_n 2) := ⟨by decide +kernel, rfl⟩
theorem e_X5_markOf_125 : z_D 2 M_X5_markOf 125 127 (.iload 8) := ⟨by decide +kernel, rfl⟩
theorem e_X5_markOf_127 : z_J M_X5_markOf 127 130 140 (13) (.if_icmp .le 13) := ⟨by decide +kernel, rfl, rfl⟩
theorem e_X5_markOf_130 : z_D 2 M_X5_markOf 130 132 (.iload 7) := ⟨by decide +kernel, rfl⟩
theorem e_X5_markOf_132 : z_D 1 M_X5_markOf 132 133 (.iload_n 2) := ⟨by decide +kernel, rfl⟩
theorem e_X5_markOf_133 : z_D 1 M_X5_markOf 133 134 (.iadd) := ⟨by decide +kernel, rfl⟩
theorem e_X5_markOf_134 : z_D 2 M_X5_markOf 134 136 (.iload 8) := ⟨by decide +kernel, rfl⟩
theorem e_X5_markOf_136 : z_D 1 M_X5_markOf 136 137 (.isub) := ⟨by decide +kernel, rfl⟩
theorem e_X5_markOf_137 : z_J M_X5_markOf 137 140 142 (5) (.goto 5) := ⟨by decide +kernel, rfl, rfl⟩
theorem e_X5_markOf_140 : z_D 2 M_X5_markOf 140 142 (.iload 7) := ⟨by decide +kernel, rfl⟩
theorem e_X5_markOf_142 : z_D 1 M_X5_markOf 142 143 (.ireturn) := ⟨by decide +kernel, rfl⟩
theorem e_X5_rowOf_0 : z_D 1 M_X5_rowOf 0 1 (.iload_n 1) := ⟨by decide +kernel, rfl⟩
theorem e_X5_rowOf_1 : z_J M_X5_rowOf 1 4 13 (12) (.ifCond .ne 12) := ⟨by decide +kernel, rfl, rfl⟩
theorem e_X5_rowOf_4 : z_D 1 M_X5_rowOf 4 5 (.aload_n 0) := ⟨by decide +kernel, rfl⟩
theorem e_X5_rowOf_5 : z_D 3 M_X5_rowOf 5 8 (.getfield 7) := ⟨by decide +kernel, rfl⟩
theorem e_X5_rowOf_8 : z_D 1 M_X5_rowOf 8 9 (.iconst 4) := ⟨by decide +kernel, rfl⟩
theorem e_X5_rowOf_9 : z_D 1 M_X5_rowOf 9 10 (.iaload) := ⟨by decide +kernel, rfl⟩
theorem e_X5_rowOf_10 : z_J M_X5_rowOf 10 13 32 (22) (.goto 22) := ⟨by decide +kernel, rfl, rfl⟩
theorem e_X5_rowOf_13 : z_D 1 M_X5_rowOf 13 14 (.aload_n 0) := ⟨by decide +kernel, rfl⟩
theorem e_X5_rowOf_14 : z_D 3 M_X5_rowOf 14 17 (.getfield 7) := ⟨by decide +kernel, rfl⟩
theorem e_X5_rowOf_17 : z_D 2 M_X5_rowOf 17 19 (.bipush 8) := ⟨by decide +kernel, rfl⟩
theorem e_X5_rowOf_19 : z_D 1 M_X5_rowOf 19 20 (.iconst 2) := ⟨by decide +kernel, rfl⟩
theorem e_X5_rowOf_20 : z_D 1 M_X5_rowOf 20 21 (.aload_n 0) := ⟨by decide +kernel, rfl⟩
theorem e_X5_rowOf_21 : z_D 3 M_X5_rowOf 21 24 (.getfield 7) := ⟨by decide +kernel, rfl⟩
theorem e_X5_rowOf_24 : z_D 2 M_X5_rowOf 24 26 (.bipush 7) := ⟨by decide +kernel, rfl⟩
theorem e_X5_rowOf_26 : z_D 1 M_X5_rowOf 26 27 (.iaload) := ⟨by decide +kernel, rfl⟩
theorem e_X5_rowOf_27 : z_D 1 M_X5_rowOf 27 28 (.iload_n 1) := ⟨by decide +kernel, rfl⟩
theorem e_X5_rowOf_28 : z_D 1 M_X5_rowOf 28 29 (.isub) := ⟨by decide +kernel, rfl⟩
theorem e_X5_rowOf_29 : z_D 1 M_X5_rowOf 29 30 (.imul) := ⟨by decide +kernel, rfl⟩
theorem e_X5_rowOf_30 : z_D 1 M_X5_rowOf 30 31 (.iadd) := ⟨by decide +kernel, rfl⟩
theorem e_X5_rowOf_31 : z_D 1 M_X5_rowOf 31 32 (.iaload) := ⟨by decide +kernel, rfl⟩
theorem e_X5_rowOf_32 : z_D 1 M_X5_rowOf 32 33 (.ireturn) := ⟨by decide +kernel, rfl⟩
theorem e_X5_columnOf_0 : z_D 1 M_X5_columnOf 0 1 (.iload_n 1) := ⟨by decide +kernel, rfl⟩
theorem e_X5_columnOf_1 : z_J M_X5_columnOf 1 4 13 (12) (.ifCond .ne 12) := ⟨by decide +kernel, rfl, rfl⟩
theorem e_X5_columnOf_4 : z_D 1 M_X5_columnOf 4 5 (.aload_n 0) := ⟨by decide +kernel, rfl⟩
theorem e_X5_columnOf_5 : z_D 3 M_X5_columnOf 5 8 (.getfield 7) := ⟨by decide +kernel, rfl⟩
theorem e_X5_columnOf_8 : z_D 1 M_X5_columnOf 8 9 (.iconst 5) := ⟨by decide +kernel, rfl⟩
theorem e_X5_columnOf_9 : z_D 1 M_X5_columnOf 9 10 (.iaload) := ⟨by decide +kernel, rfl⟩
theorem e_X5_columnOf_10 : z_J M_X5_columnOf 10 13 34 (24) (.goto 24) := ⟨by decide +kernel, rfl, rfl⟩
theorem e_X5_columnOf_13 : z_D 1 M_X5_columnOf 13 14 (.aload_n 0) := ⟨by decide +kernel, rfl⟩
theorem e_X5_columnOf_14 : z_D 3 M_X5_columnOf 14 17 (.getfield 7) := ⟨by decide +kernel, rfl⟩
theorem e_X5_columnOf_17 : z_D 2 M_X5_columnOf 17 19 (.bipush 8) := ⟨by decide +kernel, rfl⟩
theorem e_X5_columnOf_19 : z_D 1 M_X5_columnOf 19 20 (.iconst 2) := ⟨by decide +kernel, rfl⟩
theorem e_X5_columnOf_20 : z_D 1 M_X5_columnOf 20 21 (.aload_n 0) := ⟨by decide +kernel, rfl⟩
theorem e_X5_columnOf_21 : z_D 3 M_X5_columnOf 21 24 (.getfield 7) := ⟨by decide +kernel, rfl⟩
theorem e_X5_columnOf_24 : z_D 2 M_X5_columnOf 24 26 (.bipush 7) := ⟨by decide +kernel, rfl⟩
theorem e_X5_columnOf_26 : z_D 1 M_X5_columnOf 26 27 (.iaload) := ⟨by decide +kernel, rfl⟩
theorem e_X5_columnOf_27 : z_D 1 M_X5_columnOf 27 28 (.iload_n 1) := ⟨by decide +kernel, rfl⟩
theorem e_X5_columnOf_28 : z_D 1 M_X5_columnOf 28 29 (.isub) := ⟨by decide +kernel, rfl⟩
theorem e_X5_columnOf_29 : z_D 1 M_X5_columnOf 29 30 (.imul) := ⟨by decide +kernel, rfl⟩
theorem e_X5_columnOf_30 : z_D 1 M_X5_columnOf 30 31 (.iadd) := ⟨by decide +kernel, rfl⟩
theorem e_X5_columnOf_31 : z_D 1 M_X5_columnOf 31 32 (.iconst 1) := ⟨by decide +kernel, rfl⟩
theorem e_X5_columnOf_32 : z_D 1 M_X5_columnOf 32 33 (.iadd) := ⟨by decide +kernel, rfl⟩
theorem e_X5_columnOf_33 : z_D 1 M_X5_columnOf 33 34 (.iaload) := ⟨by decide +kernel, rfl⟩
theorem e_X5_columnOf_34 : z_D 1 M_X5_columnOf 34 35 (.ireturn) := ⟨by decide +kernel, rfl⟩
theorem e_X5_cursorOf_0 : z_D 1 M_X5_cursorOf 0 1 (.iload_n 1) := ⟨by decide +kernel, rfl⟩
theorem e_X5_cursorOf_1 : z_J M_X5_cursorOf 1 4 24 (23) (.ifCond .ne 23) := ⟨by decide +kernel, rfl, rfl⟩
theorem e_X5_cursorOf_4 : z_D 1 M_X5_cursorOf 4 5 (.aload_n 0) := ⟨by decide +kernel, rfl⟩
theorem e_X5_cursorOf_5 : z_D 3 M_X5_cursorOf 5 8 (.getfield 7) := ⟨by decide +kernel, rfl⟩
theorem e_X5_cursorOf_8 : z_D 2 M_X5_cursorOf 8 10 (.bipush 6) := ⟨by decide +kernel, rfl⟩
theorem e_X5_cursorOf_10 : z_D 1 M_X5_cursorOf 10 11 (.iaload) := ⟨by decide +kernel, rfl⟩
theorem e_X5_cursorOf_11 : z_D 1 M_X5_cursorOf 11 12 (.iconst 1) := ⟨by decide +kernel, rfl⟩
theorem e_X5_cursorOf_12 : z_J M_X5_cursorOf 12 15 24 (12) (.if_icmp .ne 12) := ⟨by decide +kernel, rfl, rfl⟩
end
section
theorem e_X5_cursorOf_15 : z_D 1 M_X5_cursorOf 15 16 (.aload_n 0) := ⟨by decide +kernel, rfl⟩
theorem e_X5_cursorOf_16 : z_D 3 M_X5_cursorOf 16 19 (.getfield 7) := ⟨by decide +kernel, rfl⟩
theorem e_X5_cursorOf_19 : z_D 1 M_X5_cursorOf 19 20 (.iconst 0) := ⟨by decide +kernel, rfl⟩
theorem e_X5_cursorOf_20 : z_D 1 M_X5_cursorOf 20 21 (.iaload) := ⟨by decide +kernel, rfl⟩
theorem e_X5_cursorOf_21 : z_J M_X5_cursorOf 21 24 29 (8) (.goto 8) := ⟨by decide +kernel, rfl, rfl⟩
theorem e_X5_cursorOf_24 : z_D 1 M_X5_cursorOf 24 25 (.aload_n 0) := ⟨by decide +kernel, rfl⟩
theorem e_X5_cursorOf_25 : z_D 1 M_X5_cursorOf 25 26 (.iload_n 1) := ⟨by decide +kernel, rfl⟩
theorem e_X5_cursorOf_26 : z_D 3 M_X5_cursorOf 26 29 (.invokevirtual 168) := ⟨by decide +kernel, rfl⟩
theorem e_X5_cursorOf_29 : z_D 1 M_X5_cursorOf 29 30 (.istore_n 3) := ⟨by decide +kernel, rfl⟩
theorem e_X5_cursorOf_30 : z_D 1 M_X5_cursorOf 30 31 (.iload_n 2) := ⟨by decide +kernel, rfl⟩
theorem e_X5_cursorOf_31 : z_D 25 M_X5_cursorOf 31 56 (.tableswitch 47 0 2 #[25, 31, 37]) := ⟨by decide +kernel, rfl⟩
theorem e_X5_cursorOf_56 : z_D 1 M_X5_cursorOf 56 57 (.aload_n 0) := ⟨by decide +kernel, rfl⟩
theorem e_X5_cursorOf_57 : z_D 1 M_X5_cursorOf 57 58 (.iload_n 1) := ⟨by decide +kernel, rfl⟩
theorem e_X5_cursorOf_58 : z_D 3 M_X5_cursorOf 58 61 (.invokevirtual 171) := ⟨by decide +kernel, rfl⟩
theorem e_X5_cursorOf_61 : z_D 1 M_X5_cursorOf 61 62 (.ireturn) := ⟨by decide +kernel, rfl⟩
theorem e_X5_cursorOf_62 : z_D 1 M_X5_cursorOf 62 63 (.aload_n 0) := ⟨by decide +kernel, rfl⟩
theorem e_X5_cursorOf_63 : z_D 1 M_X5_cursorOf 63 64 (.iload_n 1) := ⟨by decide +kernel, rfl⟩
theorem e_X5_cursorOf_64 : z_D 3 M_X5_cursorOf 64 67 (.invokevirtual 168) := ⟨by decide +kernel, rfl⟩
theorem e_X5_cursorOf_67 : z_D 1 M_X5_cursorOf 67 68 (.ireturn) := ⟨by decide +kernel, rfl⟩
theorem e_X5_cursorOf_68 : z_D 1 M_X5_cursorOf 68 69 (.aload_n 0) := ⟨by decide +kernel, rfl⟩
theorem e_X5_cursorOf_69 : z_D 1 M_X5_cursorOf 69 70 (.aload_n 0) := ⟨by decide +kernel, rfl⟩
theorem e_X5_cursorOf_70 : z_D 1 M_X5_cursorOf 70 71 (.iload_n 1) := ⟨by decide +kernel, rfl⟩
theorem e_X5_cursorOf_71 : z_D 3 M_X5_cursorOf 71 74 (.invokevirtual 171) := ⟨by decide +kernel, rfl⟩
theorem e_X5_cursorOf_74 : z_D 3 M_X5_cursorOf 74 77 (.invokevirtual 165) := ⟨by decide +kernel, rfl⟩
theorem e_X5_cursorOf_77 : z_D 1 M_X5_cursorOf 77 78 (.ireturn) := ⟨by decide +kernel, rfl⟩
theorem e_X5_cursorOf_78 : z_D 1 M_X5_cursorOf 78 79 (.aload_n 0) := ⟨by decide +kernel, rfl⟩
theorem e_X5_cursorOf_79 : z_D 1 M_X5_cursorOf 79 80 (.aload_n 0) := ⟨by decide +kernel, rfl⟩
theorem e_X5_cursorOf_80 : z_D 1 M_X5_cursorOf 80 81 (.iload_n 1) := ⟨by decide +kernel, rfl⟩
theorem e_X5_cursorOf_81 : z_D 3 M_X5_cursorOf 81 84 (.invokevirtual 171) := ⟨by decide +kernel, rfl⟩
theorem e_X5_cursorOf_84 : z_D 1 M_X5_cursorOf 84 85 (.iload_n 3) := ⟨by decide +kernel, rfl⟩
theorem e_X5_cursorOf_85 : z_D 3 M_X5_cursorOf 85 88 (.invokevirtual 174) := ⟨by decide +kernel, rfl⟩
theorem e_X5_cursorOf_88 : z_D 1 M_X5_cursorOf 88 89 (.ireturn) := ⟨by decide +kernel, rfl⟩
theorem e_X5_cursor_0 : z_D 1 M_X5_cursor 0 1 (.iload_n 1) := ⟨by decide +kernel, rfl⟩
theorem e_X5_cursor_1 : z_D 1 M_X5_cursor 1 2 (.iconst 0) := ⟨by decide +kernel, rfl⟩
theorem e_X5_cursor_2 : z_D 1 M_X5_cursor 2 3 (.iconst 3) := ⟨by decide +kernel, rfl⟩
theorem e_X5_cursor_3 : z_D 3 M_X5_cursor 3 6 (.invokestatic 47) := ⟨by decide +kernel, rfl⟩
theorem e_X5_cursor_6 : z_J M_X5_cursor 6 9 18 (12) (.ifCond .eq 12) := ⟨by decide +kernel, rfl, rfl⟩
theorem e_X5_cursor_9 : z_D 1 M_X5_cursor 9 10 (.iload_n 2) := ⟨by decide +kernel, rfl⟩
theorem e_X5_cursor_10 : z_D 1 M_X5_cursor 10 11 (.iconst 0) := ⟨by decide +kernel, rfl⟩
theorem e_X5_cursor_11 : z_D 1 M_X5_cursor 11 12 (.iconst 3) := ⟨by decide +kernel, rfl⟩
theorem e_X5_cursor_12 : z_D 3 M_X5_cursor 12 15 (.invokestatic 47) := ⟨by decide +kernel, rfl⟩
theorem e_X5_cursor_15 : z_J M_X5_cursor 15 18 20 (5) (.ifCond .ne 5) := ⟨by decide +kernel, rfl, rfl⟩
theorem e_X5_cursor_18 : z_D 1 M_X5_cursor 18 19 (.iconst (-1)) := ⟨by decide +kernel, rfl⟩
theorem e_X5_cursor_19 : z_D 1 M_X5_cursor 19 20 (.ireturn) := ⟨by decide +kernel, rfl⟩
theorem e_X5_cursor_20 : z_D 1 M_X5_cursor 20 21 (.iload_n 1) := ⟨by decide +kernel, rfl⟩
theorem e_X5_cursor_21 : z_D 1 M_X5_cursor 21 22 (.aload_n 0) := ⟨by decide +kernel, rfl⟩
theorem e_X5_cursor_22 : z_D 3 M_X5_cursor 22 25 (.getfield 7) := ⟨by decide +kernel, rfl⟩
theorem e_X5_cursor_25 : z_D 2 M_X5_cursor 25 27 (.bipush 7) := ⟨by decide +kernel, rfl⟩
theorem e_X5_cursor_27 : z_D 1 M_X5_cursor 27 28 (.iaload) := ⟨by decide +kernel, rfl⟩
theorem e_X5_cursor_28 : z_J M_X5_cursor 28 31 40 (12) (.if_icmp .gt 12) := ⟨by decide +kernel, rfl, rfl⟩
theorem e_X5_cursor_31 : z_D 1 M_X5_cursor 31 32 (.aload_n 0) := ⟨by decide +kernel, rfl⟩
theorem e_X5_cursor_32 : z_D 1 M_X5_cursor 32 33 (.iload_n 1) := ⟨by decide +kernel, rfl⟩
theorem e_X5_cursor_33 : z_D 1 M_X5_cursor 33 34 (.iload_n 2) := ⟨by decide +kernel, rfl⟩
theorem e_X5_cursor_34 : z_D 3 M_X5_cursor 34 37 (.invokevirtual 177) := ⟨by decide +kernel, rfl⟩
theorem e_X5_cursor_37 : z_J M_X5_cursor 37 40 42 (5) (.goto 5) := ⟨by decide +kernel, rfl, rfl⟩
theorem e_X5_cursor_40 : z_D 2 M_X5_cursor 40 42 (.bipush (-9)) := ⟨by decide +kernel, rfl⟩
theorem e_X5_cursor_42 : z_D 1 M_X5_cursor 42 43 (.ireturn) := ⟨by decide +kernel, rfl⟩
theorem e_X5_lays_0 : z_D 1 M_X5_lays 0 1 (.aload_n 0) := ⟨by decide +kernel, rfl⟩
theorem e_X5_lays_1 : z_D 3 M_X5_lays 1 4 (.getfield 180) := ⟨by decide +kernel, rfl⟩
theorem e_X5_lays_4 : z_D 1 M_X5_lays 4 5 (.aload_n 0) := ⟨by decide +kernel, rfl⟩
theorem e_X5_lays_5 : z_D 3 M_X5_lays 5 8 (.getfield 183) := ⟨by decide +kernel, rfl⟩
theorem e_X5_lays_8 : z_D 1 M_X5_lays 8 9 (.isub) := ⟨by decide +kernel, rfl⟩
theorem e_X5_lays_9 : z_D 1 M_X5_lays 9 10 (.istore_n 3) := ⟨by decide +kernel, rfl⟩
theorem e_X5_lays_10 : z_D 1 M_X5_lays 10 11 (.aload_n 0) := ⟨by decide +kernel, rfl⟩
theorem e_X5_lays_11 : z_D 3 M_X5_lays 11 14 (.getfield 186) := ⟨by decide +kernel, rfl⟩
theorem e_X5_lays_14 : z_J M_X5_lays 14 17 33 (19) (.ifCond .eq 19) := ⟨by decide +kernel, rfl, rfl⟩
theorem e_X5_lays_17 : z_D 1 M_X5_lays 17 18 (.iload_n 3) := ⟨by decide +kernel, rfl⟩
theorem e_X5_lays_18 : z_J M_X5_lays 18 21 33 (15) (.ifCond .lt 15) := ⟨by decide +kernel, rfl, rfl⟩
theorem e_X5_lays_21 : z_D 1 M_X5_lays 21 22 (.aload_n 0) := ⟨by decide +kernel, rfl⟩
theorem e_X5_lays_22 : z_D 3 M_X5_lays 22 25 (.getfield 13) := ⟨by decide +kernel, rfl⟩
theorem e_X5_lays_25 : z_D 2 M_X5_lays 25 27 (.bipush 22) := ⟨by decide +kernel, rfl⟩
theorem e_X5_lays_27 : z_D 1 M_X5_lays 27 28 (.iload_n 3) := ⟨by decide +kernel, rfl⟩
theorem e_X5_lays_28 : z_D 1 M_X5_lays 28 29 (.imul) := ⟨by decide +kernel, rfl⟩
theorem e_X5_lays_29 : z_D 1 M_X5_lays 29 30 (.iload_n 1) := ⟨by decide +kernel, rfl⟩
theorem e_X5_lays_30 : z_D 1 M_X5_lays 30 31 (.iadd) := ⟨by decide +kernel, rfl⟩
theorem e_X5_lays_31 : z_D 1 M_X5_lays 31 32 (.iload_n 2) := ⟨by decide +kernel, rfl⟩
theorem e_X5_lays_32 : z_D 1 M_X5_lays 32 33 (.iastore) := ⟨by decide +kernel, rfl⟩
theorem e_X5_lays_33 : z_D 1 M_X5_lays 33 34 (.return_) := ⟨by decide +kernel, rfl⟩
theorem e_X5_pours_0 : z_D 1 M_X5_pours 0 1 (.iload_n 1) := ⟨by decide +kernel, rfl⟩
theorem e_X5_pours_1 : z_D 3 M_X5_pours 1 4 (.invokestatic 62) := ⟨by decide +kernel, rfl⟩
theorem e_X5_pours_4 : z_J M_X5_pours 4 7 11 (7) (.ifCond .eq 7) := ⟨by decide +kernel, rfl, rfl⟩
theorem e_X5_pours_7 : z_D 1 M_X5_pours 7 8 (.iconst 2) := ⟨by decide +kernel, rfl⟩
theorem e_X5_pours_8 : z_J M_X5_pours 8 11 12 (4) (.goto 4) := ⟨by decide +kernel, rfl, rfl⟩
theorem e_X5_pours_11 : z_D 1 M_X5_pours 11 12 (.iconst 1) := ⟨by decide +kernel, rfl⟩
theorem e_X5_pours_12 : z_D 1 M_X5_pours 12 13 (.istore_n 2) := ⟨by decide +kernel, rfl⟩
theorem e_X5_pours_13 : z_D 1 M_X5_pours 13 14 (.aload_n 0) := ⟨by decide +kernel, rfl⟩
theorem e_X5_pours_14 : z_D 3 M_X5_pours 14 17 (.getfield 190) := ⟨by decide +kernel, rfl⟩
theorem e_X5_pours_17 : z_D 1 M_X5_pours 17 18 (.iload_n 2) := ⟨by decide +kernel, rfl⟩
theorem e_X5_pours_18 : z_D 1 M_X5_pours 18 19 (.iadd) := ⟨by decide +kernel, rfl⟩
theorem e_X5_pours_19 : z_D 1 M_X5_pours 19 20 (.aload_n 0) := ⟨by decide +kernel, rfl⟩
theorem e_X5_pours_20 : z_D 3 M_X5_pours 20 23 (.getfield 193) := ⟨by decide +kernel, rfl⟩
theorem e_X5_pours_23 : z_J M_X5_pours 23 26 70 (47) (.if_icmp .le 47) := ⟨by decide +kernel, rfl, rfl⟩
theorem e_X5_pours_26 : z_D 1 M_X5_pours 26 27 (.aload_n 0) := ⟨by decide +kernel, rfl⟩
theorem e_X5_pours_27 : z_D 2 M_X5_pours 27 29 (.bipush 20) := ⟨by decide +kernel, rfl⟩
theorem e_X5_pours_29 : z_D 1 M_X5_pours 29 30 (.iconst 1) := ⟨by decide +kernel, rfl⟩
theorem e_X5_pours_30 : z_D 3 M_X5_pours 30 33 (.invokevirtual 196) := ⟨by decide +kernel, rfl⟩
theorem e_X5_pours_33 : z_D 1 M_X5_pours 33 34 (.aload_n 0) := ⟨by decide +kernel, rfl⟩
theorem e_X5_pours_34 : z_D 2 M_X5_pours 34 36 (.bipush 21) := ⟨by decide +kernel, rfl⟩
theorem e_X5_pours_36 : z_D 1 M_X5_pours 36 37 (.aload_n 0) := ⟨by decide +kernel, rfl⟩
theorem e_X5_pours_37 : z_D 3 M_X5_pours 37 40 (.getfield 190) := ⟨by decide +kernel, rfl⟩
theorem e_X5_pours_40 : z_D 1 M_X5_pours 40 41 (.aload_n 0) := ⟨by decide +kernel, rfl⟩
theorem e_X5_pours_41 : z_D 3 M_X5_pours 41 44 (.getfield 193) := ⟨by decide +kernel, rfl⟩
theorem e_X5_pours_44 : z_J M_X5_pours 44 47 51 (7) (.if_icmp .ge 7) := ⟨by decide +kernel, rfl, rfl⟩
theorem e_X5_pours_47 : z_D 1 M_X5_pours 47 48 (.iconst 1) := ⟨by decide +kernel, rfl⟩
theorem e_X5_pours_48 : z_J M_X5_pours 48 51 52 (4) (.goto 4) := ⟨by decide +kernel, rfl, rfl⟩
theorem e_X5_pours_51 : z_D 1 M_X5_pours 51 52 (.iconst 0) := ⟨by decide +kernel, rfl⟩
theorem e_X5_pours_52 : z_D 3 M_X5_pours 52 55 (.invokevirtual 196) := ⟨by decide +kernel, rfl⟩
theorem e_X5_pours_55 : z_D 1 M_X5_pours 55 56 (.aload_n 0) := ⟨by decide +kernel, rfl⟩
theorem e_X5_pours_56 : z_D 1 M_X5_pours 56 57 (.dup) := ⟨by decide +kernel, rfl⟩
theorem e_X5_pours_57 : z_D 3 M_X5_pours 57 60 (.getfield 180) := ⟨by decide +kernel, rfl⟩
theorem e_X5_pours_60 : z_D 1 M_X5_pours 60 61 (.iconst 1) := ⟨by decide +kernel, rfl⟩
theorem e_X5_pours_61 : z_D 1 M_X5_pours 61 62 (.iadd) := ⟨by decide +kernel, rfl⟩
theorem e_X5_pours_62 : z_D 3 M_X5_pours 62 65 (.putfield 180) := ⟨by decide +kernel, rfl⟩
theorem e_X5_pours_65 : z_D 1 M_X5_pours 65 66 (.aload_n 0) := ⟨by decide +kernel, rfl⟩
theorem e_X5_pours_66 : z_D 1 M_X5_pours 66 67 (.iconst 0) := ⟨by decide +kernel, rfl⟩
theorem e_X5_pours_67 : z_D 3 M_X5_pours 67 70 (.putfield 190) := ⟨by decide +kernel, rfl⟩
theorem e_X5_pours_70 : z_D 1 M_X5_pours 70 71 (.aload_n 0) := ⟨by decide +kernel, rfl⟩
theorem e_X5_pours_71 : z_D 1 M_X5_pours 71 72 (.aload_n 0) := ⟨by decide +kernel, rfl⟩
theorem e_X5_pours_72 : z_D 3 M_X5_pours 72 75 (.getfield 190) := ⟨by decide +kernel, rfl⟩
theorem e_X5_pours_75 : z_D 1 M_X5_pours 75 76 (.iload_n 1) := ⟨by decide +kernel, rfl⟩
theorem e_X5_pours_76 : z_D 3 M_X5_pours 76 79 (.invokevirtual 196) := ⟨by decide +kernel, rfl⟩
theorem e_X5_pours_79 : z_D 1 M_X5_pours 79 80 (.iload_n 2) := ⟨by decide +kernel, rfl⟩
theorem e_X5_pours_80 : z_D 1 M_X5_pours 80 81 (.iconst 2) := ⟨by decide +kernel, rfl⟩
theorem e_X5_pours_81 : z_J M_X5_pours 81 84 99 (18) (.if_icmp .ne 18) := ⟨by decide +kernel, rfl, rfl⟩
theorem e_X5_pours_84 : z_D 1 M_X5_pours 84 85 (.aload_n 0) := ⟨by decide +kernel, rfl⟩
theorem e_X5_pours_85 : z_D 1 M_X5_pours 85 86 (.aload_n 0) := ⟨by decide +kernel, rfl⟩
theorem e_X5_pours_86 : z_D 3 M_X5_pours 86 89 (.getfield 190) := ⟨by decide +kernel, rfl⟩
theorem e_X5_pours_89 : z_D 1 M_X5_pours 89 90 (.iconst 1) := ⟨by decide +kernel, rfl⟩
theorem e_X5_pours_90 : z_D 1 M_X5_pours 90 91 (.iadd) := ⟨by decide +kernel, rfl⟩
theorem e_X5_pours_91 : z_D 1 M_X5_pours 91 92 (.iload_n 1) := ⟨by decide +kernel, rfl⟩
theorem e_X5_pours_92 : z_D 3 M_X5_pours 92 95 (.sipush 128) := ⟨by decide +kernel, rfl⟩
theorem e_X5_pours_95 : z_D 1 M_X5_pours 95 96 (.iadd) := ⟨by decide +kernel, rfl⟩
theorem e_X5_pours_96 : z_D 3 M_X5_pours 96 99 (.invokevirtual 196) := ⟨by decide +kernel, rfl⟩
theorem e_X5_pours_99 : z_D 1 M_X5_pours 99 100 (.return_) := ⟨by decide +kernel, rfl⟩
theorem e_X5_meets_0 : z_D 1 M_X5_meets 0 1 (.iconst 0) := ⟨by decide +kernel, rfl⟩
theorem e_X5_meets_1 : z_D 1 M_X5_meets 1 2 (.istore_n 3) := ⟨by decide +kernel, rfl⟩
theorem e_X5_meets_2 : z_D 1 M_X5_meets 2 3 (.iload_n 3) := ⟨by decide +kernel, rfl⟩
theorem e_X5_meets_3 : z_D 1 M_X5_meets 3 4 (.iconst 4) := ⟨by decide +kernel, rfl⟩
theorem e_X5_meets_4 : z_J M_X5_meets 4 7 53 (49) (.if_icmp .ge 49) := ⟨by decide +kernel, rfl, rfl⟩
theorem e_X5_meets_7 : z_D 1 M_X5_meets 7 8 (.aload_n 0) := ⟨by decide +kernel, rfl⟩
theorem e_X5_meets_8 : z_D 3 M_X5_meets 8 11 (.getfield 16) := ⟨by decide +kernel, rfl⟩
theorem e_X5_meets_11 : z_D 1 M_X5_meets 11 12 (.iload_n 3) := ⟨by decide +kernel, rfl⟩
theorem e_X5_meets_12 : z_D 1 M_X5_meets 12 13 (.iaload) := ⟨by decide +kernel, rfl⟩
theorem e_X5_meets_13 : z_D 1 M_X5_meets 13 14 (.iload_n 1) := ⟨by decide +kernel, rfl⟩
theorem e_X5_meets_14 : z_J M_X5_meets 14 17 47 (33) (.if_icmp .ne 33) := ⟨by decide +kernel, rfl, rfl⟩
theorem e_X5_meets_17 : z_D 1 M_X5_meets 17 18 (.aload_n 0) := ⟨by decide +kernel, rfl⟩
theorem e_X5_meets_18 : z_D 3 M_X5_meets 18 21 (.getfield 19) := ⟨by decide +kernel, rfl⟩
theorem e_X5_meets_21 : z_D 1 M_X5_meets 21 22 (.iload_n 3) := ⟨by decide +kernel, rfl⟩
theorem e_X5_meets_22 : z_D 1 M_X5_meets 22 23 (.iaload) := ⟨by decide +kernel, rfl⟩
theorem e_X5_meets_23 : z_D 1 M_X5_meets 23 24 (.iload_n 2) := ⟨by decide +kernel, rfl⟩
theorem e_X5_meets_24 : z_J M_X5_meets 24 27 47 (23) (.if_icmp .ne 23) := ⟨by decide +kernel, rfl, rfl⟩
theorem e_X5_meets_27 : z_D 1 M_X5_meets 27 28 (.aload_n 0) := ⟨by decide +kernel, rfl⟩
theorem e_X5_meets_28 : z_D 3 M_X5_meets 28 31 (.getfield 22) := ⟨by decide +kernel, rfl⟩
theorem e_X5_meets_31 : z_D 1 M_X5_meets 31 32 (.iload_n 3) := ⟨by decide +kernel, rfl⟩
theorem e_X5_meets_32 : z_D 1 M_X5_meets 32 33 (.aload_n 0) := ⟨by decide +kernel, rfl⟩
theorem e_X5_meets_33 : z_D 3 M_X5_meets 33 36 (.getfield 180) := ⟨by decide +kernel, rfl⟩
theorem e_X5_meets_36 : z_D 1 M_X5_meets 36 37 (.iastore) := ⟨by decide +kernel, rfl⟩
theorem e_X5_meets_37 : z_D 1 M_X5_meets 37 38 (.aload_n 0) := ⟨by decide +kernel, rfl⟩
theorem e_X5_meets_38 : z_D 3 M_X5_meets 38 41 (.getfield 25) := ⟨by decide +kernel, rfl⟩
theorem e_X5_meets_41 : z_D 1 M_X5_meets 41 42 (.iload_n 3) := ⟨by decide +kernel, rfl⟩
theorem e_X5_meets_42 : z_D 1 M_X5_meets 42 43 (.aload_n 0) := ⟨by decide +kernel, rfl⟩
theorem e_X5_meets_43 : z_D 3 M_X5_meets 43 46 (.getfield 190) := ⟨by decide +kernel, rfl⟩
theorem e_X5_meets_46 : z_D 1 M_X5_meets 46 47 (.iastore) := ⟨by decide +kernel, rfl⟩
theorem e_X5_meets_47 : z_D 3 M_X5_meets 47 50 (.iinc 3 1) := ⟨by decide +kernel, rfl⟩
theorem e_X5_meets_50 : z_J M_X5_meets 50 53 2 (-48) (.goto (-48)) := ⟨by decide +kernel, rfl, rfl⟩
theorem e_X5_meets_53 : z_D 1 M_X5_meets 53 54 (.return_) := ⟨by decide +kernel, rfl⟩
theorem e_X5_ends_0 : z_D 1 M_X5_ends 0 1 (.iconst 0) := ⟨by decide +kernel, rfl⟩
theorem e_X5_ends_1 : z_D 1 M_X5_ends 1 2 (.istore_n 3) := ⟨by decide +kernel, rfl⟩
theorem e_X5_ends_2 : z_D 1 M_X5_ends 2 3 (.iload_n 3) := ⟨by decide +kernel, rfl⟩
theorem e_X5_ends_3 : z_D 1 M_X5_ends 3 4 (.iconst 4) := ⟨by decide +kernel, rfl⟩
theorem e_X5_ends_4 : z_J M_X5_ends 4 7 120 (116) (.if_icmp .ge 116) := ⟨by decide +kernel, rfl, rfl⟩
theorem e_X5_ends_7 : z_D 1 M_X5_ends 7 8 (.aload_n 0) := ⟨by decide +kernel, rfl⟩
theorem e_X5_ends_8 : z_D 3 M_X5_ends 8 11 (.getfield 16) := ⟨by decide +kernel, rfl⟩
theorem e_X5_ends_11 : z_D 1 M_X5_ends 11 12 (.iload_n 3) := ⟨by decide +kernel, rfl⟩
theorem e_X5_ends_12 : z_D 1 M_X5_ends 12 13 (.iaload) := ⟨by decide +kernel, rfl⟩
theorem e_X5_ends_13 : z_D 1 M_X5_ends 13 14 (.iload_n 1) := ⟨by decide +kernel, rfl⟩
theorem e_X5_ends_14 : z_J M_X5_ends 14 17 114 (100) (.if_icmp .ne 100) := ⟨by decide +kernel, rfl, rfl⟩
theorem e_X5_ends_17 : z_D 1 M_X5_ends 17 18 (.aload_n 0) := ⟨by decide +kernel, rfl⟩
theorem e_X5_ends_18 : z_D 3 M_X5_ends 18 21 (.getfield 19) := ⟨by decide +kernel, rfl⟩
theorem e_X5_ends_21 : z_D 1 M_X5_ends 21 22 (.iload_n 3) := ⟨by decide +kernel, rfl⟩
theorem e_X5_ends_22 : z_D 1 M_X5_ends 22 23 (.iaload) := ⟨by decide +kernel, rfl⟩
theorem e_X5_ends_23 : z_D 1 M_X5_ends 23 24 (.iload_n 2) := ⟨by decide +kernel, rfl⟩
theorem e_X5_ends_24 : z_J M_X5_ends 24 27 114 (90) (.if_icmp .lt 90) := ⟨by decide +kernel, rfl, rfl⟩
theorem e_X5_ends_27 : z_D 1 M_X5_ends 27 28 (.aload_n 0) := ⟨by decide +kernel, rfl⟩
theorem e_X5_ends_28 : z_D 3 M_X5_ends 28 31 (.getfield 190) := ⟨by decide +kernel, rfl⟩
theorem e_X5_ends_31 : z_D 1 M_X5_ends 31 32 (.aload_n 0) := ⟨by decide +kernel, rfl⟩
theorem e_X5_ends_32 : z_D 3 M_X5_ends 32 35 (.getfield 19) := ⟨by decide +kernel, rfl⟩
theorem e_X5_ends_35 : z_D 1 M_X5_ends 35 36 (.iload_n 3) := ⟨by decide +kernel, rfl⟩
theorem e_X5_ends_36 : z_D 1 M_X5_ends 36 37 (.iaload) := ⟨by decide +kernel, rfl⟩
theorem e_X5_ends_37 : z_D 1 M_X5_ends 37 38 (.iadd) := ⟨by decide +kernel, rfl⟩
theorem e_X5_ends_38 : z_D 1 M_X5_ends 38 39 (.iload_n 2) := ⟨by decide +kernel, rfl⟩
theorem e_X5_ends_39 : z_D 1 M_X5_ends 39 40 (.isub) := ⟨by decide +kernel, rfl⟩
theorem e_X5_ends_40 : z_D 2 M_X5_ends 40 42 (.istore 4) := ⟨by decide +kernel, rfl⟩
theorem e_X5_ends_42 : z_D 1 M_X5_ends 42 43 (.aload_n 0) := ⟨by decide +kernel, rfl⟩
theorem e_X5_ends_43 : z_D 3 M_X5_ends 43 46 (.getfield 22) := ⟨by decide +kernel, rfl⟩
theorem e_X5_ends_46 : z_D 1 M_X5_ends 46 47 (.iload_n 3) := ⟨by decide +kernel, rfl⟩
theorem e_X5_ends_47 : z_D 1 M_X5_ends 47 48 (.aload_n 0) := ⟨by decide +kernel, rfl⟩
theorem e_X5_ends_48 : z_D 3 M_X5_ends 48 51 (.getfield 180) := ⟨by decide +kernel, rfl⟩
theorem e_X5_ends_51 : z_D 1 M_X5_ends 51 52 (.iastore) := ⟨by decide +kernel, rfl⟩
theorem e_X5_ends_52 : z_D 1 M_X5_ends 52 53 (.aload_n 0) := ⟨by decide +kernel, rfl⟩
theorem e_X5_ends_53 : z_D 3 M_X5_ends 53 56 (.getfield 25) := ⟨by decide +kernel, rfl⟩
theorem e_X5_ends_56 : z_D 1 M_X5_ends 56 57 (.iload_n 3) := ⟨by decide +kernel, rfl⟩
theorem e_X5_ends_57 : z_D 2 M_X5_ends 57 59 (.iload 4) := ⟨by decide +kernel, rfl⟩
theorem e_X5_ends_59 : z_D 1 M_X5_ends 59 60 (.aload_n 0) := ⟨by decide +kernel, rfl⟩
theorem e_X5_ends_60 : z_D 3 M_X5_ends 60 63 (.getfield 193) := ⟨by decide +kernel, rfl⟩
theorem e_X5_ends_63 : z_J M_X5_ends 63 66 71 (8) (.if_icmp .ge 8) := ⟨by decide +kernel, rfl, rfl⟩
theorem e_X5_ends_66 : z_D 2 M_X5_ends 66 68 (.iload 4) := ⟨by decide +kernel, rfl⟩
theorem e_X5_ends_68 : z_J M_X5_ends 68 71 77 (9) (.goto 9) := ⟨by decide +kernel, rfl, rfl⟩
theorem e_X5_ends_71 : z_D 1 M_X5_ends 71 72 (.aload_n 0) := ⟨by decide +kernel, rfl⟩
theorem e_X5_ends_72 : z_D 3 M_X5_ends 72 75 (.getfield 193) := ⟨by decide +kernel, rfl⟩
theorem e_X5_ends_75 : z_D 1 M_X5_ends 75 76 (.iconst 1) := ⟨by decide +kernel, rfl⟩
theorem e_X5_ends_76 : z_D 1 M_X5_ends 76 77 (.isub) := ⟨by decide +kernel, rfl⟩
theorem e_X5_ends_77 : z_D 1 M_X5_ends 77 78 (.iastore) := ⟨by decide +kernel, rfl⟩
theorem e_X5_ends_78 : z_D 1 M_X5_ends 78 79 (.aload_n 0) := ⟨by decide +kernel, rfl⟩
theorem e_X5_ends_79 : z_D 3 M_X5_ends 79 82 (.getfield 28) := ⟨by decide +kernel, rfl⟩
theorem e_X5_ends_82 : z_D 1 M_X5_ends 82 83 (.iload_n 3) := ⟨by decide +kernel, rfl⟩
theorem e_X5_ends_83 : z_D 1 M_X5_ends 83 84 (.iload_n 2) := ⟨by decide +kernel, rfl⟩
theorem e_X5_ends_84 : z_J M_X5_ends 84 87 112 (28) (.ifCond .le 28) := ⟨by decide +kernel, rfl, rfl⟩
theorem e_X5_ends_87 : z_D 1 M_X5_ends 87 88 (.aload_n 0) := ⟨by decide +kernel, rfl⟩
theorem e_X5_ends_88 : z_D 3 M_X5_ends 88 91 (.getfield 19) := ⟨by decide +kernel, rfl⟩
theorem e_X5_ends_91 : z_D 1 M_X5_ends 91 92 (.iload_n 3) := ⟨by decide +kernel, rfl⟩
theorem e_X5_ends_92 : z_D 1 M_X5_ends 92 93 (.iaload) := ⟨by decide +kernel, rfl⟩
theorem e_X5_ends_93 : z_D 1 M_X5_ends 93 94 (.iload_n 2) := ⟨by decide +kernel, rfl⟩
theorem e_X5_ends_94 : z_J M_X5_ends 94 97 112 (18) (.if_icmp .ne 18) := ⟨by decide +kernel, rfl, rfl⟩
theorem e_X5_ends_97 : z_D 1 M_X5_ends 97 98 (.aload_n 0) := ⟨by decide +kernel, rfl⟩
theorem e_X5_ends_98 : z_D 3 M_X5_ends 98 101 (.getfield 190) := ⟨by decide +kernel, rfl⟩
theorem e_X5_ends_101 : z_D 1 M_X5_ends 101 102 (.aload_n 0) := ⟨by decide +kernel, rfl⟩
theorem e_X5_ends_102 : z_D 3 M_X5_ends 102 105 (.getfield 193) := ⟨by decide +kernel, rfl⟩
theorem e_X5_ends_105 : z_J M_X5_ends 105 108 112 (7) (.if_icmp .ne 7) := ⟨by decide +kernel, rfl, rfl⟩
theorem e_X5_ends_108 : z_D 1 M_X5_ends 108 109 (.iconst 1) := ⟨by decide +kernel, rfl⟩
theorem e_X5_ends_109 : z_J M_X5_ends 109 112 113 (4) (.goto 4) := ⟨by decide +kernel, rfl, rfl⟩
theorem e_X5_ends_112 : z_D 1 M_X5_ends 112 113 (.iconst 0) := ⟨by decide +kernel, rfl⟩
theorem e_X5_ends_113 : z_D 1 M_X5_ends 113 114 (.bastore) := ⟨by decide +kernel, rfl⟩
theorem e_X5_ends_114 : z_D 3 M_X5_ends 114 117 (.iinc 3 1) := ⟨by decide +kernel, rfl⟩
theorem e_X5_ends_117 : z_J M_X5_ends 117 120 2 (-115) (.goto (-115)) := ⟨by decide +kernel, rfl, rfl⟩
theorem e_X5_ends_120 : z_D 1 M_X5_ends 120 121 (.return_) := ⟨by decide +kernel, rfl⟩
theorem e_X5_poursAll_0 : z_D 1 M_X5_poursAll 0 1 (.aload_n 0) := ⟨by decide +kernel, rfl⟩
theorem e_X5_poursAll_1 : z_D 3 M_X5_poursAll 1 4 (.invokevirtual 140) := ⟨by decide +kernel, rfl⟩
theorem e_X5_poursAll_4 : z_D 1 M_X5_poursAll 4 5 (.istore_n 1) := ⟨by decide +kernel, rfl⟩
theorem e_X5_poursAll_5 : z_D 1 M_X5_poursAll 5 6 (.iconst 0) := ⟨by decide +kernel, rfl⟩
theorem e_X5_poursAll_6 : z_D 1 M_X5_poursAll 6 7 (.istore_n 2) := ⟨by decide +kernel, rfl⟩
theorem e_X5_poursAll_7 : z_D 1 M_X5_poursAll 7 8 (.aload_n 0) := ⟨by decide +kernel, rfl⟩
theorem e_X5_poursAll_8 : z_D 1 M_X5_poursAll 8 9 (.iconst 0) := ⟨by decide +kernel, rfl⟩
theorem e_X5_poursAll_9 : z_D 3 M_X5_poursAll 9 12 (.putfield 180) := ⟨by decide +kernel, rfl⟩
theorem e_X5_poursAll_12 : z_D 1 M_X5_poursAll 12 13 (.iconst 0) := ⟨by decide +kernel, rfl⟩
theorem e_X5_poursAll_13 : z_D 1 M_X5_poursAll 13 14 (.istore_n 3) := ⟨by decide +kernel, rfl⟩
theorem e_X5_poursAll_14 : z_D 1 M_X5_poursAll 14 15 (.iload_n 3) := ⟨by decide +kernel, rfl⟩
theorem e_X5_poursAll_15 : z_D 1 M_X5_poursAll 15 16 (.iload_n 1) := ⟨by decide +kernel, rfl⟩
theorem e_X5_poursAll_16 : z_J M_X5_poursAll 16 19 169 (153) (.if_icmp .ge 153) := ⟨by decide +kernel, rfl, rfl⟩
theorem e_X5_poursAll_19 : z_D 1 M_X5_poursAll 19 20 (.aload_n 0) := ⟨by decide +kernel, rfl⟩
theorem e_X5_poursAll_20 : z_D 1 M_X5_poursAll 20 21 (.iload_n 3) := ⟨by decide +kernel, rfl⟩
theorem e_X5_poursAll_21 : z_D 1 M_X5_poursAll 21 22 (.iload_n 1) := ⟨by decide +kernel, rfl⟩
theorem e_X5_poursAll_22 : z_D 3 M_X5_poursAll 22 25 (.invokevirtual 137) := ⟨by decide +kernel, rfl⟩
theorem e_X5_poursAll_25 : z_D 2 M_X5_poursAll 25 27 (.istore 4) := ⟨by decide +kernel, rfl⟩
theorem e_X5_poursAll_27 : z_D 1 M_X5_poursAll 27 28 (.iconst 0) := ⟨by decide +kernel, rfl⟩
theorem e_X5_poursAll_28 : z_D 2 M_X5_poursAll 28 30 (.istore 5) := ⟨by decide +kernel, rfl⟩
theorem e_X5_poursAll_30 : z_D 1 M_X5_poursAll 30 31 (.aload_n 0) := ⟨by decide +kernel, rfl⟩
theorem e_X5_poursAll_31 : z_D 1 M_X5_poursAll 31 32 (.iconst 0) := ⟨by decide +kernel, rfl⟩
theorem e_X5_poursAll_32 : z_D 3 M_X5_poursAll 32 35 (.putfield 190) := ⟨by decide +kernel, rfl⟩
theorem e_X5_poursAll_35 : z_D 1 M_X5_poursAll 35 36 (.iload_n 3) := ⟨by decide +kernel, rfl⟩
theorem e_X5_poursAll_36 : z_D 2 M_X5_poursAll 36 38 (.istore 6) := ⟨by decide +kernel, rfl⟩
theorem e_X5_poursAll_38 : z_D 2 M_X5_poursAll 38 40 (.iload 6) := ⟨by decide +kernel, rfl⟩
theorem e_X5_poursAll_40 : z_D 2 M_X5_poursAll 40 42 (.iload 4) := ⟨by decide +kernel, rfl⟩
theorem e_X5_poursAll_42 : z_J M_X5_poursAll 42 45 137 (95) (.if_icmp .gt 95) := ⟨by decide +kernel, rfl, rfl⟩
theorem e_X5_poursAll_45 : z_D 1 M_X5_poursAll 45 46 (.aload_n 0) := ⟨by decide +kernel, rfl⟩
theorem e_X5_poursAll_46 : z_D 2 M_X5_poursAll 46 48 (.iload 6) := ⟨by decide +kernel, rfl⟩
theorem e_X5_poursAll_48 : z_D 2 M_X5_poursAll 48 50 (.iload 4) := ⟨by decide +kernel, rfl⟩
theorem e_X5_poursAll_50 : z_D 3 M_X5_poursAll 50 53 (.invokevirtual 146) := ⟨by decide +kernel, rfl⟩
theorem e_X5_poursAll_53 : z_D 2 M_X5_poursAll 53 55 (.istore 7) := ⟨by decide +kernel, rfl⟩
theorem e_X5_poursAll_55 : z_D 1 M_X5_poursAll 55 56 (.iconst 0) := ⟨by decide +kernel, rfl⟩
theorem e_X5_poursAll_56 : z_D 2 M_X5_poursAll 56 58 (.istore 8) := ⟨by decide +kernel, rfl⟩
theorem e_X5_poursAll_58 : z_D 2 M_X5_poursAll 58 60 (.iload 8) := ⟨by decide +kernel, rfl⟩
theorem e_X5_poursAll_60 : z_D 2 M_X5_poursAll 60 62 (.iload 7) := ⟨by decide +kernel, rfl⟩
theorem e_X5_poursAll_62 : z_J M_X5_poursAll 62 65 131 (69) (.if_icmp .ge 69) := ⟨by decide +kernel, rfl, rfl⟩
theorem e_X5_poursAll_65 : z_D 1 M_X5_poursAll 65 66 (.aload_n 0) := ⟨by decide +kernel, rfl⟩
theorem e_X5_poursAll_66 : z_D 1 M_X5_poursAll 66 67 (.aload_n 0) := ⟨by decide +kernel, rfl⟩
theorem e_X5_poursAll_67 : z_D 2 M_X5_poursAll 67 69 (.iload 6) := ⟨by decide +kernel, rfl⟩
theorem e_X5_poursAll_69 : z_D 3 M_X5_poursAll 69 72 (.invokevirtual 130) := ⟨by decide +kernel, rfl⟩
theorem e_X5_poursAll_72 : z_D 2 M_X5_poursAll 72 74 (.iload 8) := ⟨by decide +kernel, rfl⟩
theorem e_X5_poursAll_74 : z_D 3 M_X5_poursAll 74 77 (.invokevirtual 51) := ⟨by decide +kernel, rfl⟩
theorem e_X5_poursAll_77 : z_D 2 M_X5_poursAll 77 79 (.istore 9) := ⟨by decide +kernel, rfl⟩
theorem e_X5_poursAll_79 : z_D 2 M_X5_poursAll 79 81 (.iload 9) := ⟨by decide +kernel, rfl⟩
theorem e_X5_poursAll_81 : z_D 3 M_X5_poursAll 81 84 (.invokestatic 54) := ⟨by decide +kernel, rfl⟩
theorem e_X5_poursAll_84 : z_J M_X5_poursAll 84 87 125 (41) (.ifCond .ne 41) := ⟨by decide +kernel, rfl, rfl⟩
theorem e_X5_poursAll_87 : z_D 1 M_X5_poursAll 87 88 (.aload_n 0) := ⟨by decide +kernel, rfl⟩
theorem e_X5_poursAll_88 : z_D 2 M_X5_poursAll 88 90 (.iload 9) := ⟨by decide +kernel, rfl⟩
theorem e_X5_poursAll_90 : z_D 3 M_X5_poursAll 90 93 (.invokevirtual 199) := ⟨by decide +kernel, rfl⟩
theorem e_X5_poursAll_93 : z_D 1 M_X5_poursAll 93 94 (.aload_n 0) := ⟨by decide +kernel, rfl⟩
theorem e_X5_poursAll_94 : z_D 1 M_X5_poursAll 94 95 (.iload_n 2) := ⟨by decide +kernel, rfl⟩
theorem e_X5_poursAll_95 : z_D 2 M_X5_poursAll 95 97 (.iload 5) := ⟨by decide +kernel, rfl⟩
theorem e_X5_poursAll_97 : z_D 3 M_X5_poursAll 97 100 (.invokevirtual 202) := ⟨by decide +kernel, rfl⟩
theorem e_X5_poursAll_100 : z_D 1 M_X5_poursAll 100 101 (.aload_n 0) := ⟨by decide +kernel, rfl⟩
theorem e_X5_poursAll_101 : z_D 1 M_X5_poursAll 101 102 (.dup) := ⟨by decide +kernel, rfl⟩
theorem e_X5_poursAll_102 : z_D 3 M_X5_poursAll 102 105 (.getfield 190) := ⟨by decide +kernel, rfl⟩
theorem e_X5_poursAll_105 : z_D 2 M_X5_poursAll 105 107 (.iload 9) := ⟨by decide +kernel, rfl⟩
theorem e_X5_poursAll_107 : z_D 3 M_X5_poursAll 107 110 (.invokestatic 62) := ⟨by decide +kernel, rfl⟩
theorem e_X5_poursAll_110 : z_J M_X5_poursAll 110 113 117 (7) (.ifCond .eq 7) := ⟨by decide +kernel, rfl, rfl⟩
theorem e_X5_poursAll_113 : z_D 1 M_X5_poursAll 113 114 (.iconst 2) := ⟨by decide +kernel, rfl⟩
theorem e_X5_poursAll_114 : z_J M_X5_poursAll 114 117 118 (4) (.goto 4) := ⟨by decide +kernel, rfl, rfl⟩
theorem e_X5_poursAll_117 : z_D 1 M_X5_poursAll 117 118 (.iconst 1) := ⟨by decide +kernel, rfl⟩
theorem e_X5_poursAll_118 : z_D 1 M_X5_poursAll 118 119 (.iadd) := ⟨by decide +kernel, rfl⟩
theorem e_X5_poursAll_119 : z_D 3 M_X5_poursAll 119 122 (.putfield 190) := ⟨by decide +kernel, rfl⟩
theorem e_X5_poursAll_122 : z_D 3 M_X5_poursAll 122 125 (.iinc 5 1) := ⟨by decide +kernel, rfl⟩
theorem e_X5_poursAll_125 : z_D 3 M_X5_poursAll 125 128 (.iinc 8 1) := ⟨by decide +kernel, rfl⟩
theorem e_X5_poursAll_128 : z_J M_X5_poursAll 128 131 58 (-70) (.goto (-70)) := ⟨by decide +kernel, rfl, rfl⟩
theorem e_X5_poursAll_131 : z_D 3 M_X5_poursAll 131 134 (.iinc 6 1) := ⟨by decide +kernel, rfl⟩
theorem e_X5_poursAll_134 : z_J M_X5_poursAll 134 137 38 (-96) (.goto (-96)) := ⟨by decide +kernel, rfl, rfl⟩
theorem e_X5_poursAll_137 : z_D 1 M_X5_poursAll 137 138 (.aload_n 0) := ⟨by decide +kernel, rfl⟩
theorem e_X5_poursAll_138 : z_D 1 M_X5_poursAll 138 139 (.iload_n 2) := ⟨by decide +kernel, rfl⟩
theorem e_X5_poursAll_139 : z_D 2 M_X5_poursAll 139 141 (.iload 5) := ⟨by decide +kernel, rfl⟩
theorem e_X5_poursAll_141 : z_D 3 M_X5_poursAll 141 144 (.invokevirtual 205) := ⟨by decide +kernel, rfl⟩
theorem e_X5_poursAll_144 : z_D 1 M_X5_poursAll 144 145 (.aload_n 0) := ⟨by decide +kernel, rfl⟩
theorem e_X5_poursAll_145 : z_D 1 M_X5_poursAll 145 146 (.dup) := ⟨by decide +kernel, rfl⟩
theorem e_X5_poursAll_146 : z_D 3 M_X5_poursAll 146 149 (.getfield 180) := ⟨by decide +kernel, rfl⟩
theorem e_X5_poursAll_149 : z_D 1 M_X5_poursAll 149 150 (.iconst 1) := ⟨by decide +kernel, rfl⟩
theorem e_X5_poursAll_150 : z_D 1 M_X5_poursAll 150 151 (.iadd) := ⟨by decide +kernel, rfl⟩
theorem e_X5_poursAll_151 : z_D 3 M_X5_poursAll 151 154 (.putfield 180) := ⟨by decide +kernel, rfl⟩
theorem e_X5_poursAll_154 : z_D 3 M_X5_poursAll 154 157 (.iinc 2 1) := ⟨by decide +kernel, rfl⟩
theorem e_X5_poursAll_157 : z_D 1 M_X5_poursAll 157 158 (.aload_n 0) := ⟨by decide +kernel, rfl⟩
theorem e_X5_poursAll_158 : z_D 1 M_X5_poursAll 158 159 (.iload_n 3) := ⟨by decide +kernel, rfl⟩
theorem e_X5_poursAll_159 : z_D 1 M_X5_poursAll 159 160 (.iload_n 1) := ⟨by decide +kernel, rfl⟩
theorem e_X5_poursAll_160 : z_D 3 M_X5_poursAll 160 163 (.invokevirtual 137) := ⟨by decide +kernel, rfl⟩
theorem e_X5_poursAll_163 : z_D 1 M_X5_poursAll 163 164 (.iconst 1) := ⟨by decide +kernel, rfl⟩
theorem e_X5_poursAll_164 : z_D 1 M_X5_poursAll 164 165 (.iadd) := ⟨by decide +kernel, rfl⟩
theorem e_X5_poursAll_165 : z_D 1 M_X5_poursAll 165 166 (.istore_n 3) := ⟨by decide +kernel, rfl⟩
theorem e_X5_poursAll_166 : z_J M_X5_poursAll 166 169 14 (-152) (.goto (-152)) := ⟨by decide +kernel, rfl, rfl⟩
theorem e_X5_poursAll_169 : z_D 1 M_X5_poursAll 169 170 (.aload_n 0) := ⟨by decide +kernel, rfl⟩
theorem e_X5_poursAll_170 : z_D 3 M_X5_poursAll 170 173 (.getfield 180) := ⟨by decide +kernel, rfl⟩
theorem e_X5_poursAll_173 : z_D 1 M_X5_poursAll 173 174 (.ireturn) := ⟨by decide +kernel, rfl⟩
theorem e_X5_rowsWith_0 : z_D 1 M_X5_rowsWith 0 1 (.aload_n 0) := ⟨by decide +kernel, rfl⟩
theorem e_X5_rowsWith_1 : z_D 1 M_X5_rowsWith 1 2 (.iload_n 1) := ⟨by decide +kernel, rfl⟩
theorem e_X5_rowsWith_2 : z_D 3 M_X5_rowsWith 2 5 (.putfield 193) := ⟨by decide +kernel, rfl⟩
theorem e_X5_rowsWith_5 : z_D 1 M_X5_rowsWith 5 6 (.aload_n 0) := ⟨by decide +kernel, rfl⟩
theorem e_X5_rowsWith_6 : z_D 1 M_X5_rowsWith 6 7 (.iconst 0) := ⟨by decide +kernel, rfl⟩
theorem e_X5_rowsWith_7 : z_D 3 M_X5_rowsWith 7 10 (.putfield 186) := ⟨by decide +kernel, rfl⟩
theorem e_X5_rowsWith_10 : z_D 1 M_X5_rowsWith 10 11 (.aload_n 0) := ⟨by decide +kernel, rfl⟩
theorem e_X5_rowsWith_11 : z_D 3 M_X5_rowsWith 11 14 (.invokevirtual 208) := ⟨by decide +kernel, rfl⟩
theorem e_X5_rowsWith_14 : z_D 1 M_X5_rowsWith 14 15 (.ireturn) := ⟨by decide +kernel, rfl⟩
theorem e_X5_ifWidth_0 : z_D 1 M_X5_ifWidth 0 1 (.iload_n 1) := ⟨by decide +kernel, rfl⟩
theorem e_X5_ifWidth_1 : z_D 1 M_X5_ifWidth 1 2 (.iconst 4) := ⟨by decide +kernel, rfl⟩
theorem e_X5_ifWidth_2 : z_D 2 M_X5_ifWidth 2 4 (.bipush 20) := ⟨by decide +kernel, rfl⟩
theorem e_X5_ifWidth_4 : z_D 3 M_X5_ifWidth 4 7 (.invokestatic 47) := ⟨by decide +kernel, rfl⟩
theorem e_X5_ifWidth_7 : z_J M_X5_ifWidth 7 10 18 (11) (.ifCond .eq 11) := ⟨by decide +kernel, rfl, rfl⟩
theorem e_X5_ifWidth_10 : z_D 1 M_X5_ifWidth 10 11 (.aload_n 0) := ⟨by decide +kernel, rfl⟩
theorem e_X5_ifWidth_11 : z_D 1 M_X5_ifWidth 11 12 (.iload_n 1) := ⟨by decide +kernel, rfl⟩
theorem e_X5_ifWidth_12 : z_D 3 M_X5_ifWidth 12 15 (.invokevirtual 211) := ⟨by decide +kernel, rfl⟩
theorem e_X5_ifWidth_15 : z_J M_X5_ifWidth 15 18 19 (4) (.goto 4) := ⟨by decide +kernel, rfl, rfl⟩
theorem e_X5_ifWidth_18 : z_D 1 M_X5_ifWidth 18 19 (.iconst (-1)) := ⟨by decide +kernel, rfl⟩
theorem e_X5_ifWidth_19 : z_D 1 M_X5_ifWidth 19 20 (.ireturn) := ⟨by decide +kernel, rfl⟩
theorem e_X5_widthFor_0 : z_D 1 M_X5_widthFor 0 1 (.iload_n 1) := ⟨by decide +kernel, rfl⟩
theorem e_X5_widthFor_1 : z_D 1 M_X5_widthFor 1 2 (.iconst 1) := ⟨by decide +kernel, rfl⟩
theorem e_X5_widthFor_2 : z_D 2 M_X5_widthFor 2 4 (.bipush 40) := ⟨by decide +kernel, rfl⟩
theorem e_X5_widthFor_4 : z_D 3 M_X5_widthFor 4 7 (.invokestatic 47) := ⟨by decide +kernel, rfl⟩
theorem e_X5_widthFor_7 : z_J M_X5_widthFor 7 10 12 (5) (.ifCond .ne 5) := ⟨by decide +kernel, rfl, rfl⟩
theorem e_X5_widthFor_10 : z_D 1 M_X5_widthFor 10 11 (.iconst (-1)) := ⟨by decide +kernel, rfl⟩
theorem e_X5_widthFor_11 : z_D 1 M_X5_widthFor 11 12 (.ireturn) := ⟨by decide +kernel, rfl⟩
theorem e_X5_widthFor_12 : z_D 1 M_X5_widthFor 12 13 (.iconst 4) := ⟨by decide +kernel, rfl⟩
theorem e_X5_widthFor_13 : z_D 1 M_X5_widthFor 13 14 (.istore_n 2) := ⟨by decide +kernel, rfl⟩
theorem e_X5_widthFor_14 : z_D 1 M_X5_widthFor 14 15 (.iload_n 2) := ⟨by decide +kernel, rfl⟩
theorem e_X5_widthFor_15 : z_D 2 M_X5_widthFor 15 17 (.bipush 20) := ⟨by decide +kernel, rfl⟩
theorem e_X5_widthFor_17 : z_J M_X5_widthFor 17 20 37 (20) (.if_icmp .gt 20) := ⟨by decide +kernel, rfl, rfl⟩
theorem e_X5_widthFor_20 : z_D 1 M_X5_widthFor 20 21 (.aload_n 0) := ⟨by decide +kernel, rfl⟩
theorem e_X5_widthFor_21 : z_D 1 M_X5_widthFor 21 22 (.iload_n 2) := ⟨by decide +kernel, rfl⟩
theorem e_X5_widthFor_22 : z_D 3 M_X5_widthFor 22 25 (.invokevirtual 211) := ⟨by decide +kernel, rfl⟩
theorem e_X5_widthFor_25 : z_D 1 M_X5_widthFor 25 26 (.iload_n 1) := ⟨by decide +kernel, rfl⟩
theorem e_X5_widthFor_26 : z_J M_X5_widthFor 26 29 31 (5) (.if_icmp .gt 5) := ⟨by decide +kernel, rfl, rfl⟩
theorem e_X5_widthFor_29 : z_D 1 M_X5_widthFor 29 30 (.iload_n 2) := ⟨by decide +kernel, rfl⟩
theorem e_X5_widthFor_30 : z_D 1 M_X5_widthFor 30 31 (.ireturn) := ⟨by decide +kernel, rfl⟩
theorem e_X5_widthFor_31 : z_D 3 M_X5_widthFor 31 34 (.iinc 2 1) := ⟨by decide +kernel, rfl⟩
theorem e_X5_widthFor_34 : z_J M_X5_widthFor 34 37 14 (-20) (.goto (-20)) := ⟨by decide +kernel, rfl, rfl⟩
theorem e_X5_widthFor_37 : z_D 2 M_X5_widthFor 37 39 (.bipush (-9)) := ⟨by decide +kernel, rfl⟩
theorem e_X5_widthFor_39 : z_D 1 M_X5_widthFor 39 40 (.ireturn) := ⟨by decide +kernel, rfl⟩
theorem e_X5_marks_0 : z_D 1 M_X5_marks 0 1 (.iconst 0) := ⟨by decide +kernel, rfl⟩
theorem e_X5_marks_1 : z_D 1 M_X5_marks 1 2 (.istore_n 1) := ⟨by decide +kernel, rfl⟩
theorem e_X5_marks_2 : z_D 1 M_X5_marks 2 3 (.iload_n 1) := ⟨by decide +kernel, rfl⟩
theorem e_X5_marks_3 : z_D 1 M_X5_marks 3 4 (.iconst 4) := ⟨by decide +kernel, rfl⟩
theorem e_X5_marks_4 : z_J M_X5_marks 4 7 79 (75) (.if_icmp .ge 75) := ⟨by decide +kernel, rfl, rfl⟩
theorem e_X5_marks_7 : z_D 1 M_X5_marks 7 8 (.iload_n 1) := ⟨by decide +kernel, rfl⟩
theorem e_X5_marks_8 : z_D 1 M_X5_marks 8 9 (.aload_n 0) := ⟨by decide +kernel, rfl⟩
theorem e_X5_marks_9 : z_D 3 M_X5_marks 9 12 (.getfield 7) := ⟨by decide +kernel, rfl⟩
theorem e_X5_marks_12 : z_D 2 M_X5_marks 12 14 (.bipush 7) := ⟨by decide +kernel, rfl⟩
theorem e_X5_marks_14 : z_D 1 M_X5_marks 14 15 (.iaload) := ⟨by decide +kernel, rfl⟩
theorem e_X5_marks_15 : z_J M_X5_marks 15 18 22 (7) (.if_icmp .gt 7) := ⟨by decide +kernel, rfl, rfl⟩
theorem e_X5_marks_18 : z_D 1 M_X5_marks 18 19 (.iconst 1) := ⟨by decide +kernel, rfl⟩
theorem e_X5_marks_19 : z_J M_X5_marks 19 22 23 (4) (.goto 4) := ⟨by decide +kernel, rfl, rfl⟩
theorem e_X5_marks_22 : z_D 1 M_X5_marks 22 23 (.iconst 0) := ⟨by decide +kernel, rfl⟩
theorem e_X5_marks_23 : z_D 1 M_X5_marks 23 24 (.istore_n 2) := ⟨by decide +kernel, rfl⟩
theorem e_X5_marks_24 : z_D 1 M_X5_marks 24 25 (.aload_n 0) := ⟨by decide +kernel, rfl⟩
theorem e_X5_marks_25 : z_D 3 M_X5_marks 25 28 (.getfield 16) := ⟨by decide +kernel, rfl⟩
theorem e_X5_marks_28 : z_D 1 M_X5_marks 28 29 (.iload_n 1) := ⟨by decide +kernel, rfl⟩
theorem e_X5_marks_29 : z_D 1 M_X5_marks 29 30 (.iload_n 2) := ⟨by decide +kernel, rfl⟩
theorem e_X5_marks_30 : z_J M_X5_marks 30 33 42 (12) (.ifCond .eq 12) := ⟨by decide +kernel, rfl, rfl⟩
theorem e_X5_marks_33 : z_D 1 M_X5_marks 33 34 (.aload_n 0) := ⟨by decide +kernel, rfl⟩
theorem e_X5_marks_34 : z_D 1 M_X5_marks 34 35 (.iload_n 1) := ⟨by decide +kernel, rfl⟩
theorem e_X5_marks_35 : z_D 1 M_X5_marks 35 36 (.iconst 2) := ⟨by decide +kernel, rfl⟩
theorem e_X5_marks_36 : z_D 3 M_X5_marks 36 39 (.invokevirtual 177) := ⟨by decide +kernel, rfl⟩
theorem e_X5_marks_39 : z_J M_X5_marks 39 42 44 (5) (.goto 5) := ⟨by decide +kernel, rfl, rfl⟩
theorem e_X5_marks_42 : z_D 2 M_X5_marks 42 44 (.bipush (-9)) := ⟨by decide +kernel, rfl⟩
theorem e_X5_marks_44 : z_D 1 M_X5_marks 44 45 (.iastore) := ⟨by decide +kernel, rfl⟩
theorem e_X5_marks_45 : z_D 1 M_X5_marks 45 46 (.aload_n 0) := ⟨by decide +kernel, rfl⟩
theorem e_X5_marks_46 : z_D 3 M_X5_marks 46 49 (.getfield 19) := ⟨by decide +kernel, rfl⟩
theorem e_X5_marks_49 : z_D 1 M_X5_marks 49 50 (.iload_n 1) := ⟨by decide +kernel, rfl⟩
theorem e_X5_marks_50 : z_D 1 M_X5_marks 50 51 (.iload_n 2) := ⟨by decide +kernel, rfl⟩
theorem e_X5_marks_51 : z_J M_X5_marks 51 54 63 (12) (.ifCond .eq 12) := ⟨by decide +kernel, rfl, rfl⟩
theorem e_X5_marks_54 : z_D 1 M_X5_marks 54 55 (.aload_n 0) := ⟨by decide +kernel, rfl⟩
theorem e_X5_marks_55 : z_D 1 M_X5_marks 55 56 (.iload_n 1) := ⟨by decide +kernel, rfl⟩
theorem e_X5_marks_56 : z_D 1 M_X5_marks 56 57 (.iconst 3) := ⟨by decide +kernel, rfl⟩
theorem e_X5_marks_57 : z_D 3 M_X5_marks 57 60 (.invokevirtual 177) := ⟨by decide +kernel, rfl⟩
theorem e_X5_marks_60 : z_J M_X5_marks 60 63 65 (5) (.goto 5) := ⟨by decide +kernel, rfl, rfl⟩
theorem e_X5_marks_63 : z_D 2 M_X5_marks 63 65 (.bipush (-9)) := ⟨by decide +kernel, rfl⟩
theorem e_X5_marks_65 : z_D 1 M_X5_marks 65 66 (.iastore) := ⟨by decide +kernel, rfl⟩
theorem e_X5_marks_66 : z_D 1 M_X5_marks 66 67 (.aload_n 0) := ⟨by decide +kernel, rfl⟩
theorem e_X5_marks_67 : z_D 3 M_X5_marks 67 70 (.getfield 28) := ⟨by decide +kernel, rfl⟩
theorem e_X5_marks_70 : z_D 1 M_X5_marks 70 71 (.iload_n 1) := ⟨by decide +kernel, rfl⟩
theorem e_X5_marks_71 : z_D 1 M_X5_marks 71 72 (.iconst 0) := ⟨by decide +kernel, rfl⟩
theorem e_X5_marks_72 : z_D 1 M_X5_marks 72 73 (.bastore) := ⟨by decide +kernel, rfl⟩
theorem e_X5_marks_73 : z_D 3 M_X5_marks 73 76 (.iinc 1 1) := ⟨by decide +kernel, rfl⟩
theorem e_X5_marks_76 : z_J M_X5_marks 76 79 2 (-74) (.goto (-74)) := ⟨by decide +kernel, rfl, rfl⟩
theorem e_X5_marks_79 : z_D 1 M_X5_marks 79 80 (.return_) := ⟨by decide +kernel, rfl⟩
theorem e_X5_takes_0 : z_D 1 M_X5_takes 0 1 (.iconst 0) := ⟨by decide +kernel, rfl⟩
theorem e_X5_takes_1 : z_D 1 M_X5_takes 1 2 (.istore_n 3) := ⟨by decide +kernel, rfl⟩
theorem e_X5_takes_2 : z_D 1 M_X5_takes 2 3 (.iload_n 3) := ⟨by decide +kernel, rfl⟩
theorem e_X5_takes_3 : z_D 2 M_X5_takes 3 5 (.bipush 22) := ⟨by decide +kernel, rfl⟩
theorem e_X5_takes_5 : z_J M_X5_takes 5 8 35 (30) (.if_icmp .ge 30) := ⟨by decide +kernel, rfl, rfl⟩
theorem e_X5_takes_8 : z_D 1 M_X5_takes 8 9 (.aload_n 0) := ⟨by decide +kernel, rfl⟩
theorem e_X5_takes_9 : z_D 3 M_X5_takes 9 12 (.getfield 7) := ⟨by decide +kernel, rfl⟩
theorem e_X5_takes_12 : z_D 1 M_X5_takes 12 13 (.iload_n 2) := ⟨by decide +kernel, rfl⟩
theorem e_X5_takes_13 : z_D 1 M_X5_takes 13 14 (.iload_n 3) := ⟨by decide +kernel, rfl⟩
theorem e_X5_takes_14 : z_D 3 M_X5_takes 14 17 (.invokestatic 40) := ⟨by decide +kernel, rfl⟩
theorem e_X5_takes_17 : z_D 1 M_X5_takes 17 18 (.aload_n 0) := ⟨by decide +kernel, rfl⟩
theorem e_X5_takes_18 : z_D 3 M_X5_takes 18 21 (.getfield 13) := ⟨by decide +kernel, rfl⟩
theorem e_X5_takes_21 : z_D 2 M_X5_takes 21 23 (.bipush 22) := ⟨by decide +kernel, rfl⟩
theorem e_X5_takes_23 : z_D 1 M_X5_takes 23 24 (.iload_n 1) := ⟨by decide +kernel, rfl⟩
theorem e_X5_takes_24 : z_D 1 M_X5_takes 24 25 (.imul) := ⟨by decide +kernel, rfl⟩
theorem e_X5_takes_25 : z_D 1 M_X5_takes 25 26 (.iload_n 3) := ⟨by decide +kernel, rfl⟩
theorem e_X5_takes_26 : z_D 1 M_X5_takes 26 27 (.iadd) := ⟨by decide +kernel, rfl⟩
theorem e_X5_takes_27 : z_D 1 M_X5_takes 27 28 (.iaload) := ⟨by decide +kernel, rfl⟩
theorem e_X5_takes_28 : z_D 1 M_X5_takes 28 29 (.iastore) := ⟨by decide +kernel, rfl⟩
theorem e_X5_takes_29 : z_D 3 M_X5_takes 29 32 (.iinc 3 1) := ⟨by decide +kernel, rfl⟩
theorem e_X5_takes_32 : z_J M_X5_takes 32 35 2 (-30) (.goto (-30)) := ⟨by decide +kernel, rfl, rfl⟩
theorem e_X5_takes_35 : z_D 1 M_X5_takes 35 36 (.return_) := ⟨by decide +kernel, rfl⟩
theorem e_X5_resize_0 : z_D 1 M_X5_resize 0 1 (.iload_n 1) := ⟨by decide +kernel, rfl⟩
theorem e_X5_resize_1 : z_D 1 M_X5_resize 1 2 (.iconst 4) := ⟨by decide +kernel, rfl⟩
theorem e_X5_resize_2 : z_D 2 M_X5_resize 2 4 (.bipush 20) := ⟨by decide +kernel, rfl⟩
theorem e_X5_resize_4 : z_D 3 M_X5_resize 4 7 (.invokestatic 47) := ⟨by decide +kernel, rfl⟩
theorem e_X5_resize_7 : z_J M_X5_resize 7 10 20 (13) (.ifCond .eq 13) := ⟨by decide +kernel, rfl, rfl⟩
theorem e_X5_resize_10 : z_D 1 M_X5_resize 10 11 (.iload_n 2) := ⟨by decide +kernel, rfl⟩
theorem e_X5_resize_11 : z_D 1 M_X5_resize 11 12 (.iconst 2) := ⟨by decide +kernel, rfl⟩
theorem e_X5_resize_12 : z_D 2 M_X5_resize 12 14 (.bipush 8) := ⟨by decide +kernel, rfl⟩
theorem e_X5_resize_14 : z_D 3 M_X5_resize 14 17 (.invokestatic 47) := ⟨by decide +kernel, rfl⟩
theorem e_X5_resize_17 : z_J M_X5_resize 17 20 22 (5) (.ifCond .ne 5) := ⟨by decide +kernel, rfl, rfl⟩
theorem e_X5_resize_20 : z_D 1 M_X5_resize 20 21 (.iconst (-1)) := ⟨by decide +kernel, rfl⟩
theorem e_X5_resize_21 : z_D 1 M_X5_resize 21 22 (.ireturn) := ⟨by decide +kernel, rfl⟩
theorem e_X5_resize_22 : z_D 1 M_X5_resize 22 23 (.aload_n 0) := ⟨by decide +kernel, rfl⟩
theorem e_X5_resize_23 : z_D 3 M_X5_resize 23 26 (.invokevirtual 96) := ⟨by decide +kernel, rfl⟩
theorem e_X5_resize_26 : z_D 1 M_X5_resize 26 27 (.aload_n 0) := ⟨by decide +kernel, rfl⟩
theorem e_X5_resize_27 : z_D 3 M_X5_resize 27 30 (.invokevirtual 214) := ⟨by decide +kernel, rfl⟩
theorem e_X5_resize_30 : z_D 1 M_X5_resize 30 31 (.aload_n 0) := ⟨by decide +kernel, rfl⟩
theorem e_X5_resize_31 : z_D 1 M_X5_resize 31 32 (.iload_n 1) := ⟨by decide +kernel, rfl⟩
theorem e_X5_resize_32 : z_D 3 M_X5_resize 32 35 (.invokevirtual 211) := ⟨by decide +kernel, rfl⟩
theorem e_X5_resize_35 : z_D 1 M_X5_resize 35 36 (.istore_n 3) := ⟨by decide +kernel, rfl⟩
theorem e_X5_resize_36 : z_D 1 M_X5_resize 36 37 (.iload_n 3) := ⟨by decide +kernel, rfl⟩
theorem e_X5_resize_37 : z_D 1 M_X5_resize 37 38 (.iload_n 2) := ⟨by decide +kernel, rfl⟩
theorem e_X5_resize_38 : z_J M_X5_resize 38 41 47 (9) (.if_icmp .le 9) := ⟨by decide +kernel, rfl, rfl⟩
theorem e_X5_resize_41 : z_D 1 M_X5_resize 41 42 (.iload_n 3) := ⟨by decide +kernel, rfl⟩
theorem e_X5_resize_42 : z_D 1 M_X5_resize 42 43 (.iload_n 2) := ⟨by decide +kernel, rfl⟩
theorem e_X5_resize_43 : z_D 1 M_X5_resize 43 44 (.isub) := ⟨by decide +kernel, rfl⟩
theorem e_X5_resize_44 : z_J M_X5_resize 44 47 48 (4) (.goto 4) := ⟨by decide +kernel, rfl, rfl⟩
theorem e_X5_resize_47 : z_D 1 M_X5_resize 47 48 (.iconst 0) := ⟨by decide +kernel, rfl⟩
theorem e_X5_resize_48 : z_D 2 M_X5_resize 48 50 (.istore 4) := ⟨by decide +kernel, rfl⟩
theorem e_X5_resize_50 : z_D 1 M_X5_resize 50 51 (.aload_n 0) := ⟨by decide +kernel, rfl⟩
theorem e_X5_resize_51 : z_D 2 M_X5_resize 51 53 (.iload 4) := ⟨by decide +kernel, rfl⟩
theorem e_X5_resize_53 : z_D 2 M_X5_resize 53 55 (.bipush 24) := ⟨by decide +kernel, rfl⟩
theorem e_X5_resize_55 : z_J M_X5_resize 55 58 66 (11) (.if_icmp .le 11) := ⟨by decide +kernel, rfl, rfl⟩
theorem e_X5_resize_58 : z_D 2 M_X5_resize 58 60 (.iload 4) := ⟨by decide +kernel, rfl⟩
theorem e_X5_resize_60 : z_D 2 M_X5_resize 60 62 (.bipush 24) := ⟨by decide +kernel, rfl⟩
theorem e_X5_resize_62 : z_D 1 M_X5_resize 62 63 (.isub) := ⟨by decide +kernel, rfl⟩
theorem e_X5_resize_63 : z_J M_X5_resize 63 66 67 (4) (.goto 4) := ⟨by decide +kernel, rfl, rfl⟩
theorem e_X5_resize_66 : z_D 1 M_X5_resize 66 67 (.iconst 0) := ⟨by decide +kernel, rfl⟩
theorem e_X5_resize_67 : z_D 3 M_X5_resize 67 70 (.putfield 183) := ⟨by decide +kernel, rfl⟩
theorem e_X5_resize_70 : z_D 1 M_X5_resize 70 71 (.iconst 0) := ⟨by decide +kernel, rfl⟩
theorem e_X5_resize_71 : z_D 2 M_X5_resize 71 73 (.istore 5) := ⟨by decide +kernel, rfl⟩
theorem e_X5_resize_73 : z_D 2 M_X5_resize 73 75 (.iload 5) := ⟨by decide +kernel, rfl⟩
theorem e_X5_resize_75 : z_D 3 M_X5_resize 75 78 (.sipush 704) := ⟨by decide +kernel, rfl⟩
theorem e_X5_resize_78 : z_J M_X5_resize 78 81 110 (32) (.if_icmp .ge 32) := ⟨by decide +kernel, rfl, rfl⟩
theorem e_X5_resize_81 : z_D 1 M_X5_resize 81 82 (.aload_n 0) := ⟨by decide +kernel, rfl⟩
theorem e_X5_resize_82 : z_D 3 M_X5_resize 82 85 (.getfield 13) := ⟨by decide +kernel, rfl⟩
theorem e_X5_resize_85 : z_D 2 M_X5_resize 85 87 (.iload 5) := ⟨by decide +kernel, rfl⟩
theorem e_X5_resize_87 : z_D 2 M_X5_resize 87 89 (.iload 5) := ⟨by decide +kernel, rfl⟩
theorem e_X5_resize_89 : z_D 2 M_X5_resize 89 91 (.bipush 22) := ⟨by decide +kernel, rfl⟩
theorem e_X5_resize_91 : z_D 1 M_X5_resize 91 92 (.irem) := ⟨by decide +kernel, rfl⟩
theorem e_X5_resize_92 : z_D 2 M_X5_resize 92 94 (.bipush 20) := ⟨by decide +kernel, rfl⟩
theorem e_X5_resize_94 : z_J M_X5_resize 94 97 102 (8) (.if_icmp .ge 8) := ⟨by decide +kernel, rfl, rfl⟩
theorem e_X5_resize_97 : z_D 2 M_X5_resize 97 99 (.bipush 32) := ⟨by decide +kernel, rfl⟩
theorem e_X5_resize_99 : z_J M_X5_resize 99 102 103 (4) (.goto 4) := ⟨by decide +kernel, rfl, rfl⟩
theorem e_X5_resize_102 : z_D 1 M_X5_resize 102 103 (.iconst 0) := ⟨by decide +kernel, rfl⟩
theorem e_X5_resize_103 : z_D 1 M_X5_resize 103 104 (.iastore) := ⟨by decide +kernel, rfl⟩
theorem e_X5_resize_104 : z_D 3 M_X5_resize 104 107 (.iinc 5 1) := ⟨by decide +kernel, rfl⟩
theorem e_X5_resize_107 : z_J M_X5_resize 107 110 73 (-34) (.goto (-34)) := ⟨by decide +kernel, rfl, rfl⟩
theorem e_X5_resize_110 : z_D 1 M_X5_resize 110 111 (.aload_n 0) := ⟨by decide +kernel, rfl⟩
theorem e_X5_resize_111 : z_D 1 M_X5_resize 111 112 (.iconst 1) := ⟨by decide +kernel, rfl⟩
theorem e_X5_resize_112 : z_D 3 M_X5_resize 112 115 (.putfield 186) := ⟨by decide +kernel, rfl⟩
theorem e_X5_resize_115 : z_D 1 M_X5_resize 115 116 (.aload_n 0) := ⟨by decide +kernel, rfl⟩
theorem e_X5_resize_116 : z_D 3 M_X5_resize 116 119 (.invokevirtual 208) := ⟨by decide +kernel, rfl⟩
theorem e_X5_resize_119 : z_D 1 M_X5_resize 119 120 (.pop) := ⟨by decide +kernel, rfl⟩
theorem e_X5_resize_120 : z_D 1 M_X5_resize 120 121 (.aload_n 0) := ⟨by decide +kernel, rfl⟩
theorem e_X5_resize_121 : z_D 3 M_X5_resize 121 124 (.getfield 7) := ⟨by decide +kernel, rfl⟩
theorem e_X5_resize_124 : z_D 1 M_X5_resize 124 125 (.iconst 0) := ⟨by decide +kernel, rfl⟩
theorem e_X5_resize_125 : z_D 1 M_X5_resize 125 126 (.iload_n 1) := ⟨by decide +kernel, rfl⟩
theorem e_X5_resize_126 : z_D 1 M_X5_resize 126 127 (.iastore) := ⟨by decide +kernel, rfl⟩
theorem e_X5_resize_127 : z_D 1 M_X5_resize 127 128 (.aload_n 0) := ⟨by decide +kernel, rfl⟩
theorem e_X5_resize_128 : z_D 3 M_X5_resize 128 131 (.getfield 7) := ⟨by decide +kernel, rfl⟩
theorem e_X5_resize_131 : z_D 1 M_X5_resize 131 132 (.iconst 1) := ⟨by decide +kernel, rfl⟩
theorem e_X5_resize_132 : z_D 1 M_X5_resize 132 133 (.iload_n 2) := ⟨by decide +kernel, rfl⟩
theorem e_X5_resize_133 : z_D 1 M_X5_resize 133 134 (.iastore) := ⟨by decide +kernel, rfl⟩
theorem e_X5_resize_134 : z_D 1 M_X5_resize 134 135 (.aload_n 0) := ⟨by decide +kernel, rfl⟩
theorem e_X5_resize_135 : z_D 3 M_X5_resize 135 138 (.getfield 7) := ⟨by decide +kernel, rfl⟩
theorem e_X5_resize_138 : z_D 1 M_X5_resize 138 139 (.iconst 2) := ⟨by decide +kernel, rfl⟩
theorem e_X5_resize_139 : z_D 1 M_X5_resize 139 140 (.iconst 0) := ⟨by decide +kernel, rfl⟩
theorem e_X5_resize_140 : z_D 1 M_X5_resize 140 141 (.iastore) := ⟨by decide +kernel, rfl⟩
theorem e_X5_resize_141 : z_D 1 M_X5_resize 141 142 (.aload_n 0) := ⟨by decide +kernel, rfl⟩
theorem e_X5_resize_142 : z_D 3 M_X5_resize 142 145 (.getfield 7) := ⟨by decide +kernel, rfl⟩
theorem e_X5_resize_145 : z_D 1 M_X5_resize 145 146 (.iconst 3) := ⟨by decide +kernel, rfl⟩
theorem e_X5_resize_146 : z_D 1 M_X5_resize 146 147 (.iload_n 2) := ⟨by decide +kernel, rfl⟩
theorem e_X5_resize_147 : z_D 1 M_X5_resize 147 148 (.iconst 1) := ⟨by decide +kernel, rfl⟩
theorem e_X5_resize_148 : z_D 1 M_X5_resize 148 149 (.isub) := ⟨by decide +kernel, rfl⟩
theorem e_X5_resize_149 : z_D 1 M_X5_resize 149 150 (.iastore) := ⟨by decide +kernel, rfl⟩
theorem e_X5_resize_150 : z_D 1 M_X5_resize 150 151 (.aload_n 0) := ⟨by decide +kernel, rfl⟩
theorem e_X5_resize_151 : z_D 3 M_X5_resize 151 154 (.getfield 7) := ⟨by decide +kernel, rfl⟩
theorem e_X5_resize_154 : z_D 2 M_X5_resize 154 156 (.bipush 14) := ⟨by decide +kernel, rfl⟩
theorem e_X5_resize_156 : z_D 2 M_X5_resize 156 158 (.iload 4) := ⟨by decide +kernel, rfl⟩
theorem e_X5_resize_158 : z_D 1 M_X5_resize 158 159 (.aload_n 0) := ⟨by decide +kernel, rfl⟩
theorem e_X5_resize_159 : z_D 3 M_X5_resize 159 162 (.getfield 183) := ⟨by decide +kernel, rfl⟩
theorem e_X5_resize_162 : z_D 1 M_X5_resize 162 163 (.isub) := ⟨by decide +kernel, rfl⟩
theorem e_X5_resize_163 : z_D 1 M_X5_resize 163 164 (.iastore) := ⟨by decide +kernel, rfl⟩
theorem e_X5_resize_164 : z_D 1 M_X5_resize 164 165 (.iconst 0) := ⟨by decide +kernel, rfl⟩
theorem e_X5_resize_165 : z_D 2 M_X5_resize 165 167 (.istore 5) := ⟨by decide +kernel, rfl⟩
theorem e_X5_resize_167 : z_D 2 M_X5_resize 167 169 (.iload 5) := ⟨by decide +kernel, rfl⟩
theorem e_X5_resize_169 : z_D 2 M_X5_resize 169 171 (.bipush 24) := ⟨by decide +kernel, rfl⟩
theorem e_X5_resize_171 : z_J M_X5_resize 171 174 206 (35) (.if_icmp .ge 35) := ⟨by decide +kernel, rfl, rfl⟩
theorem e_X5_resize_174 : z_D 1 M_X5_resize 174 175 (.aload_n 0) := ⟨by decide +kernel, rfl⟩
theorem e_X5_resize_175 : z_D 2 M_X5_resize 175 177 (.iload 5) := ⟨by decide +kernel, rfl⟩
theorem e_X5_resize_177 : z_D 3 M_X5_resize 177 180 (.invokevirtual 32) := ⟨by decide +kernel, rfl⟩
theorem e_X5_resize_180 : z_D 2 M_X5_resize 180 182 (.iload 5) := ⟨by decide +kernel, rfl⟩
theorem e_X5_resize_182 : z_D 2 M_X5_resize 182 184 (.iload 4) := ⟨by decide +kernel, rfl⟩
theorem e_X5_resize_184 : z_D 1 M_X5_resize 184 185 (.aload_n 0) := ⟨by decide +kernel, rfl⟩
theorem e_X5_resize_185 : z_D 3 M_X5_resize 185 188 (.getfield 183) := ⟨by decide +kernel, rfl⟩
theorem e_X5_resize_188 : z_D 1 M_X5_resize 188 189 (.isub) := ⟨by decide +kernel, rfl⟩
theorem e_X5_resize_189 : z_J M_X5_resize 189 192 200 (11) (.if_icmp .ge 11) := ⟨by decide +kernel, rfl, rfl⟩
theorem e_X5_resize_192 : z_D 1 M_X5_resize 192 193 (.aload_n 0) := ⟨by decide +kernel, rfl⟩
theorem e_X5_resize_193 : z_D 2 M_X5_resize 193 195 (.iload 5) := ⟨by decide +kernel, rfl⟩
theorem e_X5_resize_195 : z_D 2 M_X5_resize 195 197 (.iload 5) := ⟨by decide +kernel, rfl⟩
theorem e_X5_resize_197 : z_D 3 M_X5_resize 197 200 (.invokevirtual 217) := ⟨by decide +kernel, rfl⟩
theorem e_X5_resize_200 : z_D 3 M_X5_resize 200 203 (.iinc 5 1) := ⟨by decide +kernel, rfl⟩
theorem e_X5_resize_203 : z_J M_X5_resize 203 206 167 (-36) (.goto (-36)) := ⟨by decide +kernel, rfl, rfl⟩
theorem e_X5_resize_206 : z_D 1 M_X5_resize 206 207 (.iconst 0) := ⟨by decide +kernel, rfl⟩
theorem e_X5_resize_207 : z_D 2 M_X5_resize 207 209 (.istore 5) := ⟨by decide +kernel, rfl⟩
theorem e_X5_resize_209 : z_D 2 M_X5_resize 209 211 (.iload 5) := ⟨by decide +kernel, rfl⟩
theorem e_X5_resize_211 : z_D 2 M_X5_resize 211 213 (.bipush 8) := ⟨by decide +kernel, rfl⟩
theorem e_X5_resize_213 : z_J M_X5_resize 213 216 256 (43) (.if_icmp .ge 43) := ⟨by decide +kernel, rfl, rfl⟩
theorem e_X5_resize_216 : z_D 1 M_X5_resize 216 217 (.aload_n 0) := ⟨by decide +kernel, rfl⟩
theorem e_X5_resize_217 : z_D 2 M_X5_resize 217 219 (.bipush 24) := ⟨by decide +kernel, rfl⟩
theorem e_X5_resize_219 : z_D 2 M_X5_resize 219 221 (.iload 5) := ⟨by decide +kernel, rfl⟩
theorem e_X5_resize_221 : z_D 1 M_X5_resize 221 222 (.iadd) := ⟨by decide +kernel, rfl⟩
theorem e_X5_resize_222 : z_D 3 M_X5_resize 222 225 (.invokevirtual 32) := ⟨by decide +kernel, rfl⟩
theorem e_X5_resize_225 : z_D 2 M_X5_resize 225 227 (.iload 5) := ⟨by decide +kernel, rfl⟩
theorem e_X5_resize_227 : z_D 1 M_X5_resize 227 228 (.iload_n 2) := ⟨by decide +kernel, rfl⟩
theorem e_X5_resize_228 : z_J M_X5_resize 228 231 250 (22) (.if_icmp .ge 22) := ⟨by decide +kernel, rfl, rfl⟩
theorem e_X5_resize_231 : z_D 1 M_X5_resize 231 232 (.aload_n 0) := ⟨by decide +kernel, rfl⟩
theorem e_X5_resize_232 : z_D 2 M_X5_resize 232 234 (.iload 4) := ⟨by decide +kernel, rfl⟩
theorem e_X5_resize_234 : z_D 1 M_X5_resize 234 235 (.aload_n 0) := ⟨by decide +kernel, rfl⟩
theorem e_X5_resize_235 : z_D 3 M_X5_resize 235 238 (.getfield 183) := ⟨by decide +kernel, rfl⟩
theorem e_X5_resize_238 : z_D 1 M_X5_resize 238 239 (.isub) := ⟨by decide +kernel, rfl⟩
theorem e_X5_resize_239 : z_D 2 M_X5_resize 239 241 (.iload 5) := ⟨by decide +kernel, rfl⟩
theorem e_X5_resize_241 : z_D 1 M_X5_resize 241 242 (.iadd) := ⟨by decide +kernel, rfl⟩
theorem e_X5_resize_242 : z_D 2 M_X5_resize 242 244 (.bipush 24) := ⟨by decide +kernel, rfl⟩
theorem e_X5_resize_244 : z_D 2 M_X5_resize 244 246 (.iload 5) := ⟨by decide +kernel, rfl⟩
theorem e_X5_resize_246 : z_D 1 M_X5_resize 246 247 (.iadd) := ⟨by decide +kernel, rfl⟩
theorem e_X5_resize_247 : z_D 3 M_X5_resize 247 250 (.invokevirtual 217) := ⟨by decide +kernel, rfl⟩
theorem e_X5_resize_250 : z_D 3 M_X5_resize 250 253 (.iinc 5 1) := ⟨by decide +kernel, rfl⟩
theorem e_X5_resize_253 : z_J M_X5_resize 253 256 209 (-44) (.goto (-44)) := ⟨by decide +kernel, rfl, rfl⟩
theorem e_X5_resize_256 : z_D 1 M_X5_resize 256 257 (.aload_n 0) := ⟨by decide +kernel, rfl⟩
theorem e_X5_resize_257 : z_D 2 M_X5_resize 257 259 (.iload 4) := ⟨by decide +kernel, rfl⟩
theorem e_X5_resize_259 : z_D 3 M_X5_resize 259 262 (.invokevirtual 220) := ⟨by decide +kernel, rfl⟩
theorem e_X5_resize_262 : z_D 1 M_X5_resize 262 263 (.iload_n 3) := ⟨by decide +kernel, rfl⟩
theorem e_X5_resize_263 : z_D 1 M_X5_resize 263 264 (.ireturn) := ⟨by decide +kernel, rfl⟩
theorem e_X5_lands_0 : z_D 1 M_X5_lands 0 1 (.iconst 0) := ⟨by decide +kernel, rfl⟩
theorem e_X5_lands_1 : z_D 1 M_X5_lands 1 2 (.istore_n 2) := ⟨by decide +kernel, rfl⟩
theorem e_X5_lands_2 : z_D 1 M_X5_lands 2 3 (.iload_n 2) := ⟨by decide +kernel, rfl⟩
theorem e_X5_lands_3 : z_D 1 M_X5_lands 3 4 (.aload_n 0) := ⟨by decide +kernel, rfl⟩
theorem e_X5_lands_4 : z_D 3 M_X5_lands 4 7 (.getfield 7) := ⟨by decide +kernel, rfl⟩
theorem e_X5_lands_7 : z_D 2 M_X5_lands 7 9 (.bipush 7) := ⟨by decide +kernel, rfl⟩
theorem e_X5_lands_9 : z_D 1 M_X5_lands 9 10 (.iaload) := ⟨by decide +kernel, rfl⟩
theorem e_X5_lands_10 : z_J M_X5_lands 10 13 153 (143) (.if_icmp .gt 143) := ⟨by decide +kernel, rfl, rfl⟩
theorem e_X5_lands_13 : z_D 1 M_X5_lands 13 14 (.aload_n 0) := ⟨by decide +kernel, rfl⟩
theorem e_X5_lands_14 : z_D 3 M_X5_lands 14 17 (.getfield 22) := ⟨by decide +kernel, rfl⟩
theorem e_X5_lands_17 : z_D 1 M_X5_lands 17 18 (.iload_n 2) := ⟨by decide +kernel, rfl⟩
theorem e_X5_lands_18 : z_D 1 M_X5_lands 18 19 (.iaload) := ⟨by decide +kernel, rfl⟩
theorem e_X5_lands_19 : z_D 1 M_X5_lands 19 20 (.iload_n 1) := ⟨by decide +kernel, rfl⟩
theorem e_X5_lands_20 : z_J M_X5_lands 20 23 27 (7) (.if_icmp .lt 7) := ⟨by decide +kernel, rfl, rfl⟩
theorem e_X5_lands_23 : z_D 1 M_X5_lands 23 24 (.iconst 1) := ⟨by decide +kernel, rfl⟩
theorem e_X5_lands_24 : z_J M_X5_lands 24 27 28 (4) (.goto 4) := ⟨by decide +kernel, rfl, rfl⟩
theorem e_X5_lands_27 : z_D 1 M_X5_lands 27 28 (.iconst 0) := ⟨by decide +kernel, rfl⟩
theorem e_X5_lands_28 : z_D 1 M_X5_lands 28 29 (.istore_n 3) := ⟨by decide +kernel, rfl⟩
theorem e_X5_lands_29 : z_D 1 M_X5_lands 29 30 (.iload_n 3) := ⟨by decide +kernel, rfl⟩
theorem e_X5_lands_30 : z_J M_X5_lands 30 33 44 (14) (.ifCond .eq 14) := ⟨by decide +kernel, rfl, rfl⟩
theorem e_X5_lands_33 : z_D 1 M_X5_lands 33 34 (.aload_n 0) := ⟨by decide +kernel, rfl⟩
theorem e_X5_lands_34 : z_D 3 M_X5_lands 34 37 (.getfield 22) := ⟨by decide +kernel, rfl⟩
theorem e_X5_lands_37 : z_D 1 M_X5_lands 37 38 (.iload_n 2) := ⟨by decide +kernel, rfl⟩
theorem e_X5_lands_38 : z_D 1 M_X5_lands 38 39 (.iaload) := ⟨by decide +kernel, rfl⟩
theorem e_X5_lands_39 : z_D 1 M_X5_lands 39 40 (.iload_n 1) := ⟨by decide +kernel, rfl⟩
theorem e_X5_lands_40 : z_D 1 M_X5_lands 40 41 (.isub) := ⟨by decide +kernel, rfl⟩
theorem e_X5_lands_41 : z_J M_X5_lands 41 44 45 (4) (.goto 4) := ⟨by decide +kernel, rfl, rfl⟩
theorem e_X5_lands_44 : z_D 1 M_X5_lands 44 45 (.iconst 0) := ⟨by decide +kernel, rfl⟩
theorem e_X5_lands_45 : z_D 2 M_X5_lands 45 47 (.istore 4) := ⟨by decide +kernel, rfl⟩
theorem e_X5_lands_47 : z_D 1 M_X5_lands 47 48 (.iload_n 3) := ⟨by decide +kernel, rfl⟩
theorem e_X5_lands_48 : z_J M_X5_lands 48 51 60 (12) (.ifCond .eq 12) := ⟨by decide +kernel, rfl, rfl⟩
theorem e_X5_lands_51 : z_D 1 M_X5_lands 51 52 (.aload_n 0) := ⟨by decide +kernel, rfl⟩
theorem e_X5_lands_52 : z_D 3 M_X5_lands 52 55 (.getfield 25) := ⟨by decide +kernel, rfl⟩
theorem e_X5_lands_55 : z_D 1 M_X5_lands 55 56 (.iload_n 2) := ⟨by decide +kernel, rfl⟩
theorem e_X5_lands_56 : z_D 1 M_X5_lands 56 57 (.iaload) := ⟨by decide +kernel, rfl⟩
theorem e_X5_lands_57 : z_J M_X5_lands 57 60 61 (4) (.goto 4) := ⟨by decide +kernel, rfl, rfl⟩
theorem e_X5_lands_60 : z_D 1 M_X5_lands 60 61 (.iconst 0) := ⟨by decide +kernel, rfl⟩
theorem e_X5_lands_61 : z_D 2 M_X5_lands 61 63 (.istore 5) := ⟨by decide +kernel, rfl⟩
theorem e_X5_lands_63 : z_D 1 M_X5_lands 63 64 (.iload_n 2) := ⟨by decide +kernel, rfl⟩
theorem e_X5_lands_64 : z_J M_X5_lands 64 67 103 (39) (.ifCond .ne 39) := ⟨by decide +kernel, rfl, rfl⟩
theorem e_X5_lands_67 : z_D 1 M_X5_lands 67 68 (.aload_n 0) := ⟨by decide +kernel, rfl⟩
theorem e_X5_lands_68 : z_D 2 M_X5_lands 68 70 (.iload 4) := ⟨by decide +kernel, rfl⟩
theorem e_X5_lands_70 : z_D 2 M_X5_lands 70 72 (.iload 5) := ⟨by decide +kernel, rfl⟩
theorem e_X5_lands_72 : z_D 3 M_X5_lands 72 75 (.invokevirtual 111) := ⟨by decide +kernel, rfl⟩
theorem e_X5_lands_75 : z_D 1 M_X5_lands 75 76 (.aload_n 0) := ⟨by decide +kernel, rfl⟩
theorem e_X5_lands_76 : z_D 3 M_X5_lands 76 79 (.getfield 7) := ⟨by decide +kernel, rfl⟩
theorem e_X5_lands_79 : z_D 2 M_X5_lands 79 81 (.bipush 6) := ⟨by decide +kernel, rfl⟩
theorem e_X5_lands_81 : z_D 1 M_X5_lands 81 82 (.iload_n 3) := ⟨by decide +kernel, rfl⟩
theorem e_X5_lands_82 : z_J M_X5_lands 82 85 98 (16) (.ifCond .eq 16) := ⟨by decide +kernel, rfl, rfl⟩
theorem e_X5_lands_85 : z_D 1 M_X5_lands 85 86 (.aload_n 0) := ⟨by decide +kernel, rfl⟩
theorem e_X5_lands_86 : z_D 3 M_X5_lands 86 89 (.getfield 28) := ⟨by decide +kernel, rfl⟩
theorem e_X5_lands_89 : z_D 1 M_X5_lands 89 90 (.iconst 0) := ⟨by decide +kernel, rfl⟩
theorem e_X5_lands_90 : z_D 1 M_X5_lands 90 91 (.baload) := ⟨by decide +kernel, rfl⟩
theorem e_X5_lands_91 : z_J M_X5_lands 91 94 98 (7) (.ifCond .eq 7) := ⟨by decide +kernel, rfl, rfl⟩
theorem e_X5_lands_94 : z_D 1 M_X5_lands 94 95 (.iconst 1) := ⟨by decide +kernel, rfl⟩
theorem e_X5_lands_95 : z_J M_X5_lands 95 98 99 (4) (.goto 4) := ⟨by decide +kernel, rfl, rfl⟩
theorem e_X5_lands_98 : z_D 1 M_X5_lands 98 99 (.iconst 0) := ⟨by decide +kernel, rfl⟩
theorem e_X5_lands_99 : z_D 1 M_X5_lands 99 100 (.iastore) := ⟨by decide +kernel, rfl⟩
theorem e_X5_lands_100 : z_J M_X5_lands 100 103 147 (47) (.goto 47) := ⟨by decide +kernel, rfl, rfl⟩
theorem e_X5_lands_103 : z_D 1 M_X5_lands 103 104 (.aload_n 0) := ⟨by decide +kernel, rfl⟩
theorem e_X5_lands_104 : z_D 3 M_X5_lands 104 107 (.getfield 7) := ⟨by decide +kernel, rfl⟩
theorem e_X5_lands_107 : z_D 2 M_X5_lands 107 109 (.bipush 8) := ⟨by decide +kernel, rfl⟩
theorem e_X5_lands_109 : z_D 1 M_X5_lands 109 110 (.iconst 2) := ⟨by decide +kernel, rfl⟩
theorem e_X5_lands_110 : z_D 1 M_X5_lands 110 111 (.aload_n 0) := ⟨by decide +kernel, rfl⟩
theorem e_X5_lands_111 : z_D 3 M_X5_lands 111 114 (.getfield 7) := ⟨by decide +kernel, rfl⟩
theorem e_X5_lands_114 : z_D 2 M_X5_lands 114 116 (.bipush 7) := ⟨by decide +kernel, rfl⟩
theorem e_X5_lands_116 : z_D 1 M_X5_lands 116 117 (.iaload) := ⟨by decide +kernel, rfl⟩
theorem e_X5_lands_117 : z_D 1 M_X5_lands 117 118 (.iload_n 2) := ⟨by decide +kernel, rfl⟩
theorem e_X5_lands_118 : z_D 1 M_X5_lands 118 119 (.isub) := ⟨by decide +kernel, rfl⟩
theorem e_X5_lands_119 : z_D 1 M_X5_lands 119 120 (.imul) := ⟨by decide +kernel, rfl⟩
theorem e_X5_lands_120 : z_D 1 M_X5_lands 120 121 (.iadd) := ⟨by decide +kernel, rfl⟩
theorem e_X5_lands_121 : z_D 2 M_X5_lands 121 123 (.iload 4) := ⟨by decide +kernel, rfl⟩
theorem e_X5_lands_123 : z_D 1 M_X5_lands 123 124 (.iastore) := ⟨by decide +kernel, rfl⟩
theorem e_X5_lands_124 : z_D 1 M_X5_lands 124 125 (.aload_n 0) := ⟨by decide +kernel, rfl⟩
theorem e_X5_lands_125 : z_D 3 M_X5_lands 125 128 (.getfield 7) := ⟨by decide +kernel, rfl⟩
theorem e_X5_lands_128 : z_D 2 M_X5_lands 128 130 (.bipush 8) := ⟨by decide +kernel, rfl⟩
theorem e_X5_lands_130 : z_D 1 M_X5_lands 130 131 (.iconst 2) := ⟨by decide +kernel, rfl⟩
theorem e_X5_lands_131 : z_D 1 M_X5_lands 131 132 (.aload_n 0) := ⟨by decide +kernel, rfl⟩
theorem e_X5_lands_132 : z_D 3 M_X5_lands 132 135 (.getfield 7) := ⟨by decide +kernel, rfl⟩
theorem e_X5_lands_135 : z_D 2 M_X5_lands 135 137 (.bipush 7) := ⟨by decide +kernel, rfl⟩
theorem e_X5_lands_137 : z_D 1 M_X5_lands 137 138 (.iaload) := ⟨by decide +kernel, rfl⟩
theorem e_X5_lands_138 : z_D 1 M_X5_lands 138 139 (.iload_n 2) := ⟨by decide +kernel, rfl⟩
theorem e_X5_lands_139 : z_D 1 M_X5_lands 139 140 (.isub) := ⟨by decide +kernel, rfl⟩
theorem e_X5_lands_140 : z_D 1 M_X5_lands 140 141 (.imul) := ⟨by decide +kernel, rfl⟩
theorem e_X5_lands_141 : z_D 1 M_X5_lands 141 142 (.iadd) := ⟨by decide +kernel, rfl⟩
theorem e_X5_lands_142 : z_D 1 M_X5_lands 142 143 (.iconst 1) := ⟨by decide +kernel, rfl⟩
theorem e_X5_lands_143 : z_D 1 M_X5_lands 143 144 (.iadd) := ⟨by decide +kernel, rfl⟩
theorem e_X5_lands_144 : z_D 2 M_X5_lands 144 146 (.iload 5) := ⟨by decide +kernel, rfl⟩
theorem e_X5_lands_146 : z_D 1 M_X5_lands 146 147 (.iastore) := ⟨by decide +kernel, rfl⟩
theorem e_X5_lands_147 : z_D 3 M_X5_lands 147 150 (.iinc 2 1) := ⟨by decide +kernel, rfl⟩
theorem e_X5_lands_150 : z_J M_X5_lands 150 153 2 (-148) (.goto (-148)) := ⟨by decide +kernel, rfl, rfl⟩
theorem e_X5_lands_153 : z_D 1 M_X5_lands 153 154 (.return_) := ⟨by decide +kernel, rfl⟩
theorem e_X5_cell_0 : z_D 1 M_X5_cell 0 1 (.aload_n 0) := ⟨by decide +kernel, rfl⟩
theorem e_X5_cell_1 : z_D 1 M_X5_cell 1 2 (.iload_n 1) := ⟨by decide +kernel, rfl⟩
theorem e_X5_cell_2 : z_D 3 M_X5_cell 2 5 (.invokevirtual 105) := ⟨by decide +kernel, rfl⟩
theorem e_X5_cell_5 : z_J M_X5_cell 5 8 16 (11) (.ifCond .eq 11) := ⟨by decide +kernel, rfl, rfl⟩
theorem e_X5_cell_8 : z_D 1 M_X5_cell 8 9 (.aload_n 0) := ⟨by decide +kernel, rfl⟩
theorem e_X5_cell_9 : z_D 1 M_X5_cell 9 10 (.iload_n 2) := ⟨by decide +kernel, rfl⟩
theorem e_X5_cell_10 : z_D 3 M_X5_cell 10 13 (.invokevirtual 108) := ⟨by decide +kernel, rfl⟩
theorem e_X5_cell_13 : z_J M_X5_cell 13 16 18 (5) (.ifCond .ne 5) := ⟨by decide +kernel, rfl, rfl⟩
theorem e_X5_cell_16 : z_D 1 M_X5_cell 16 17 (.iconst (-1)) := ⟨by decide +kernel, rfl⟩
theorem e_X5_cell_17 : z_D 1 M_X5_cell 17 18 (.ireturn) := ⟨by decide +kernel, rfl⟩
theorem e_X5_cell_18 : z_D 1 M_X5_cell 18 19 (.aload_n 0) := ⟨by decide +kernel, rfl⟩
theorem e_X5_cell_19 : z_D 2 M_X5_cell 19 21 (.bipush 24) := ⟨by decide +kernel, rfl⟩
theorem e_X5_cell_21 : z_D 1 M_X5_cell 21 22 (.iload_n 1) := ⟨by decide +kernel, rfl⟩
theorem e_X5_cell_22 : z_D 1 M_X5_cell 22 23 (.iadd) := ⟨by decide +kernel, rfl⟩
theorem e_X5_cell_23 : z_D 1 M_X5_cell 23 24 (.iload_n 2) := ⟨by decide +kernel, rfl⟩
theorem e_X5_cell_24 : z_D 3 M_X5_cell 24 27 (.invokevirtual 51) := ⟨by decide +kernel, rfl⟩
theorem e_X5_cell_27 : z_D 1 M_X5_cell 27 28 (.istore_n 3) := ⟨by decide +kernel, rfl⟩
theorem e_X5_cell_28 : z_D 1 M_X5_cell 28 29 (.iload_n 3) := ⟨by decide +kernel, rfl⟩
theorem e_X5_cell_29 : z_D 3 M_X5_cell 29 32 (.invokestatic 54) := ⟨by decide +kernel, rfl⟩
theorem e_X5_cell_32 : z_J M_X5_cell 32 35 43 (11) (.ifCond .eq 11) := ⟨by decide +kernel, rfl, rfl⟩
theorem e_X5_cell_35 : z_D 1 M_X5_cell 35 36 (.iload_n 3) := ⟨by decide +kernel, rfl⟩
theorem e_X5_cell_36 : z_D 3 M_X5_cell 36 39 (.sipush 128) := ⟨by decide +kernel, rfl⟩
end
section
theorem e_X5_cell_39 : z_D 1 M_X5_cell 39 40 (.isub) := ⟨by decide +kernel, rfl⟩
theorem e_X5_cell_40 : z_J M_X5_cell 40 43 44 (4) (.goto 4) := ⟨by decide +kernel, rfl, rfl⟩
theorem e_X5_cell_43 : z_D 1 M_X5_cell 43 44 (.iload_n 3) := ⟨by decide +kernel, rfl⟩
theorem e_X5_cell_44 : z_D 1 M_X5_cell 44 45 (.ireturn) := ⟨by decide +kernel, rfl⟩
theorem e_X5_signsFilled_0 : z_D 1 M_X5_signsFilled 0 1 (.iconst 0) := ⟨by decide +kernel, rfl⟩
theorem e_X5_signsFilled_1 : z_D 1 M_X5_signsFilled 1 2 (.istore_n 2) := ⟨by decide +kernel, rfl⟩
theorem e_X5_signsFilled_2 : z_D 1 M_X5_signsFilled 2 3 (.iconst 0) := ⟨by decide +kernel, rfl⟩
theorem e_X5_signsFilled_3 : z_D 1 M_X5_signsFilled 3 4 (.istore_n 3) := ⟨by decide +kernel, rfl⟩
theorem e_X5_signsFilled_4 : z_D 1 M_X5_signsFilled 4 5 (.iload_n 3) := ⟨by decide +kernel, rfl⟩
theorem e_X5_signsFilled_5 : z_D 1 M_X5_signsFilled 5 6 (.aload_n 0) := ⟨by decide +kernel, rfl⟩
theorem e_X5_signsFilled_6 : z_D 3 M_X5_signsFilled 6 9 (.getfield 7) := ⟨by decide +kernel, rfl⟩
theorem e_X5_signsFilled_9 : z_D 1 M_X5_signsFilled 9 10 (.iconst 0) := ⟨by decide +kernel, rfl⟩
theorem e_X5_signsFilled_10 : z_D 1 M_X5_signsFilled 10 11 (.iaload) := ⟨by decide +kernel, rfl⟩
theorem e_X5_signsFilled_11 : z_J M_X5_signsFilled 11 14 51 (40) (.if_icmp .ge 40) := ⟨by decide +kernel, rfl, rfl⟩
theorem e_X5_signsFilled_14 : z_D 1 M_X5_signsFilled 14 15 (.iload_n 2) := ⟨by decide +kernel, rfl⟩
theorem e_X5_signsFilled_15 : z_D 1 M_X5_signsFilled 15 16 (.aload_n 0) := ⟨by decide +kernel, rfl⟩
theorem e_X5_signsFilled_16 : z_D 1 M_X5_signsFilled 16 17 (.iload_n 1) := ⟨by decide +kernel, rfl⟩
theorem e_X5_signsFilled_17 : z_D 1 M_X5_signsFilled 17 18 (.iload_n 3) := ⟨by decide +kernel, rfl⟩
theorem e_X5_signsFilled_18 : z_D 3 M_X5_signsFilled 18 21 (.invokevirtual 51) := ⟨by decide +kernel, rfl⟩
theorem e_X5_signsFilled_21 : z_D 2 M_X5_signsFilled 21 23 (.bipush 32) := ⟨by decide +kernel, rfl⟩
theorem e_X5_signsFilled_23 : z_J M_X5_signsFilled 23 26 42 (19) (.if_icmp .eq 19) := ⟨by decide +kernel, rfl, rfl⟩
theorem e_X5_signsFilled_26 : z_D 1 M_X5_signsFilled 26 27 (.aload_n 0) := ⟨by decide +kernel, rfl⟩
theorem e_X5_signsFilled_27 : z_D 1 M_X5_signsFilled 27 28 (.iload_n 1) := ⟨by decide +kernel, rfl⟩
theorem e_X5_signsFilled_28 : z_D 1 M_X5_signsFilled 28 29 (.iload_n 3) := ⟨by decide +kernel, rfl⟩
theorem e_X5_signsFilled_29 : z_D 3 M_X5_signsFilled 29 32 (.invokevirtual 51) := ⟨by decide +kernel, rfl⟩
theorem e_X5_signsFilled_32 : z_D 3 M_X5_signsFilled 32 35 (.invokestatic 54) := ⟨by decide +kernel, rfl⟩
theorem e_X5_signsFilled_35 : z_J M_X5_signsFilled 35 38 42 (7) (.ifCond .ne 7) := ⟨by decide +kernel, rfl, rfl⟩
theorem e_X5_signsFilled_38 : z_D 1 M_X5_signsFilled 38 39 (.iconst 1) := ⟨by decide +kernel, rfl⟩
theorem e_X5_signsFilled_39 : z_J M_X5_signsFilled 39 42 43 (4) (.goto 4) := ⟨by decide +kernel, rfl, rfl⟩
theorem e_X5_signsFilled_42 : z_D 1 M_X5_signsFilled 42 43 (.iconst 0) := ⟨by decide +kernel, rfl⟩
theorem e_X5_signsFilled_43 : z_D 1 M_X5_signsFilled 43 44 (.iadd) := ⟨by decide +kernel, rfl⟩
theorem e_X5_signsFilled_44 : z_D 1 M_X5_signsFilled 44 45 (.istore_n 2) := ⟨by decide +kernel, rfl⟩
theorem e_X5_signsFilled_45 : z_D 3 M_X5_signsFilled 45 48 (.iinc 3 1) := ⟨by decide +kernel, rfl⟩
theorem e_X5_signsFilled_48 : z_J M_X5_signsFilled 48 51 4 (-44) (.goto (-44)) := ⟨by decide +kernel, rfl, rfl⟩
theorem e_X5_signsFilled_51 : z_D 1 M_X5_signsFilled 51 52 (.iload_n 2) := ⟨by decide +kernel, rfl⟩
theorem e_X5_signsFilled_52 : z_D 1 M_X5_signsFilled 52 53 (.ireturn) := ⟨by decide +kernel, rfl⟩
theorem e_X5_rowOfSlot_0 : z_D 1 M_X5_rowOfSlot 0 1 (.iload_n 2) := ⟨by decide +kernel, rfl⟩
theorem e_X5_rowOfSlot_1 : z_D 1 M_X5_rowOfSlot 1 2 (.iconst 2) := ⟨by decide +kernel, rfl⟩
theorem e_X5_rowOfSlot_2 : z_J M_X5_rowOfSlot 2 5 21 (19) (.if_icmp .ge 19) := ⟨by decide +kernel, rfl, rfl⟩
theorem e_X5_rowOfSlot_5 : z_D 1 M_X5_rowOfSlot 5 6 (.aload_n 0) := ⟨by decide +kernel, rfl⟩
theorem e_X5_rowOfSlot_6 : z_D 3 M_X5_rowOfSlot 6 9 (.getfield 7) := ⟨by decide +kernel, rfl⟩
theorem e_X5_rowOfSlot_9 : z_D 1 M_X5_rowOfSlot 9 10 (.iload_n 1) := ⟨by decide +kernel, rfl⟩
theorem e_X5_rowOfSlot_10 : z_D 2 M_X5_rowOfSlot 10 12 (.bipush 20) := ⟨by decide +kernel, rfl⟩
theorem e_X5_rowOfSlot_12 : z_D 1 M_X5_rowOfSlot 12 13 (.iload_n 2) := ⟨by decide +kernel, rfl⟩
theorem e_X5_rowOfSlot_13 : z_D 1 M_X5_rowOfSlot 13 14 (.iadd) := ⟨by decide +kernel, rfl⟩
theorem e_X5_rowOfSlot_14 : z_D 3 M_X5_rowOfSlot 14 17 (.invokestatic 40) := ⟨by decide +kernel, rfl⟩
theorem e_X5_rowOfSlot_17 : z_D 1 M_X5_rowOfSlot 17 18 (.iaload) := ⟨by decide +kernel, rfl⟩
theorem e_X5_rowOfSlot_18 : z_J M_X5_rowOfSlot 18 21 39 (21) (.goto 21) := ⟨by decide +kernel, rfl, rfl⟩
theorem e_X5_rowOfSlot_21 : z_D 1 M_X5_rowOfSlot 21 22 (.iload_n 2) := ⟨by decide +kernel, rfl⟩
theorem e_X5_rowOfSlot_22 : z_D 1 M_X5_rowOfSlot 22 23 (.iconst 2) := ⟨by decide +kernel, rfl⟩
theorem e_X5_rowOfSlot_23 : z_J M_X5_rowOfSlot 23 26 34 (11) (.if_icmp .ne 11) := ⟨by decide +kernel, rfl, rfl⟩
theorem e_X5_rowOfSlot_26 : z_D 1 M_X5_rowOfSlot 26 27 (.aload_n 0) := ⟨by decide +kernel, rfl⟩
theorem e_X5_rowOfSlot_27 : z_D 1 M_X5_rowOfSlot 27 28 (.iload_n 1) := ⟨by decide +kernel, rfl⟩
theorem e_X5_rowOfSlot_28 : z_D 3 M_X5_rowOfSlot 28 31 (.invokevirtual 143) := ⟨by decide +kernel, rfl⟩
theorem e_X5_rowOfSlot_31 : z_J M_X5_rowOfSlot 31 34 39 (8) (.goto 8) := ⟨by decide +kernel, rfl, rfl⟩
theorem e_X5_rowOfSlot_34 : z_D 1 M_X5_rowOfSlot 34 35 (.aload_n 0) := ⟨by decide +kernel, rfl⟩
theorem e_X5_rowOfSlot_35 : z_D 1 M_X5_rowOfSlot 35 36 (.iload_n 1) := ⟨by decide +kernel, rfl⟩
theorem e_X5_rowOfSlot_36 : z_D 3 M_X5_rowOfSlot 36 39 (.invokevirtual 223) := ⟨by decide +kernel, rfl⟩
theorem e_X5_rowOfSlot_39 : z_D 1 M_X5_rowOfSlot 39 40 (.ireturn) := ⟨by decide +kernel, rfl⟩
theorem e_X5_row_0 : z_D 1 M_X5_row 0 1 (.iload_n 1) := ⟨by decide +kernel, rfl⟩
theorem e_X5_row_1 : z_D 2 M_X5_row 1 3 (.bipush (-24)) := ⟨by decide +kernel, rfl⟩
theorem e_X5_row_3 : z_D 1 M_X5_row 3 4 (.aload_n 0) := ⟨by decide +kernel, rfl⟩
theorem e_X5_row_4 : z_D 3 M_X5_row 4 7 (.getfield 7) := ⟨by decide +kernel, rfl⟩
theorem e_X5_row_7 : z_D 1 M_X5_row 7 8 (.iconst 1) := ⟨by decide +kernel, rfl⟩
theorem e_X5_row_8 : z_D 1 M_X5_row 8 9 (.iaload) := ⟨by decide +kernel, rfl⟩
theorem e_X5_row_9 : z_D 1 M_X5_row 9 10 (.iconst 1) := ⟨by decide +kernel, rfl⟩
theorem e_X5_row_10 : z_D 1 M_X5_row 10 11 (.isub) := ⟨by decide +kernel, rfl⟩
theorem e_X5_row_11 : z_D 3 M_X5_row 11 14 (.invokestatic 47) := ⟨by decide +kernel, rfl⟩
theorem e_X5_row_14 : z_J M_X5_row 14 17 26 (12) (.ifCond .eq 12) := ⟨by decide +kernel, rfl, rfl⟩
theorem e_X5_row_17 : z_D 1 M_X5_row 17 18 (.iload_n 2) := ⟨by decide +kernel, rfl⟩
theorem e_X5_row_18 : z_D 1 M_X5_row 18 19 (.iconst 0) := ⟨by decide +kernel, rfl⟩
theorem e_X5_row_19 : z_D 1 M_X5_row 19 20 (.iconst 3) := ⟨by decide +kernel, rfl⟩
theorem e_X5_row_20 : z_D 3 M_X5_row 20 23 (.invokestatic 47) := ⟨by decide +kernel, rfl⟩
theorem e_X5_row_23 : z_J M_X5_row 23 26 28 (5) (.ifCond .ne 5) := ⟨by decide +kernel, rfl, rfl⟩
theorem e_X5_row_26 : z_D 1 M_X5_row 26 27 (.iconst (-1)) := ⟨by decide +kernel, rfl⟩
theorem e_X5_row_27 : z_D 1 M_X5_row 27 28 (.ireturn) := ⟨by decide +kernel, rfl⟩
theorem e_X5_row_28 : z_D 1 M_X5_row 28 29 (.iload_n 1) := ⟨by decide +kernel, rfl⟩
theorem e_X5_row_29 : z_D 1 M_X5_row 29 30 (.aload_n 0) := ⟨by decide +kernel, rfl⟩
theorem e_X5_row_30 : z_D 3 M_X5_row 30 33 (.getfield 7) := ⟨by decide +kernel, rfl⟩
theorem e_X5_row_33 : z_D 2 M_X5_row 33 35 (.bipush 14) := ⟨by decide +kernel, rfl⟩
theorem e_X5_row_35 : z_D 1 M_X5_row 35 36 (.iaload) := ⟨by decide +kernel, rfl⟩
theorem e_X5_row_36 : z_D 1 M_X5_row 36 37 (.ineg) := ⟨by decide +kernel, rfl⟩
theorem e_X5_row_37 : z_J M_X5_row 37 40 43 (6) (.if_icmp .ge 6) := ⟨by decide +kernel, rfl, rfl⟩
theorem e_X5_row_40 : z_D 2 M_X5_row 40 42 (.bipush (-9)) := ⟨by decide +kernel, rfl⟩
theorem e_X5_row_42 : z_D 1 M_X5_row 42 43 (.ireturn) := ⟨by decide +kernel, rfl⟩
theorem e_X5_row_43 : z_D 1 M_X5_row 43 44 (.aload_n 0) := ⟨by decide +kernel, rfl⟩
theorem e_X5_row_44 : z_D 1 M_X5_row 44 45 (.iload_n 1) := ⟨by decide +kernel, rfl⟩
theorem e_X5_row_45 : z_J M_X5_row 45 48 60 (15) (.ifCond .ge 15) := ⟨by decide +kernel, rfl, rfl⟩
theorem e_X5_row_48 : z_D 1 M_X5_row 48 49 (.aload_n 0) := ⟨by decide +kernel, rfl⟩
theorem e_X5_row_49 : z_D 3 M_X5_row 49 52 (.getfield 7) := ⟨by decide +kernel, rfl⟩
theorem e_X5_row_52 : z_D 2 M_X5_row 52 54 (.bipush 14) := ⟨by decide +kernel, rfl⟩
theorem e_X5_row_54 : z_D 1 M_X5_row 54 55 (.iaload) := ⟨by decide +kernel, rfl⟩
theorem e_X5_row_55 : z_D 1 M_X5_row 55 56 (.iload_n 1) := ⟨by decide +kernel, rfl⟩
theorem e_X5_row_56 : z_D 1 M_X5_row 56 57 (.iadd) := ⟨by decide +kernel, rfl⟩
theorem e_X5_row_57 : z_J M_X5_row 57 60 64 (7) (.goto 7) := ⟨by decide +kernel, rfl, rfl⟩
theorem e_X5_row_60 : z_D 2 M_X5_row 60 62 (.bipush 24) := ⟨by decide +kernel, rfl⟩
theorem e_X5_row_62 : z_D 1 M_X5_row 62 63 (.iload_n 1) := ⟨by decide +kernel, rfl⟩
theorem e_X5_row_63 : z_D 1 M_X5_row 63 64 (.iadd) := ⟨by decide +kernel, rfl⟩
theorem e_X5_row_64 : z_D 1 M_X5_row 64 65 (.iload_n 2) := ⟨by decide +kernel, rfl⟩
theorem e_X5_row_65 : z_D 3 M_X5_row 65 68 (.invokevirtual 226) := ⟨by decide +kernel, rfl⟩
theorem e_X5_row_68 : z_D 1 M_X5_row 68 69 (.ireturn) := ⟨by decide +kernel, rfl⟩
theorem e_X5_told_0 : z_D 1 M_X5_told 0 1 (.iload_n 1) := ⟨by decide +kernel, rfl⟩
theorem e_X5_told_1 : z_D 59 M_X5_told 1 60 (.tableswitch 110 0 10 #[59, 59, 59, 59, 66, 74, 82, 90, 95, 100, 105]) := ⟨by decide +kernel, rfl⟩
theorem e_X5_told_60 : z_D 1 M_X5_told 60 61 (.aload_n 0) := ⟨by decide +kernel, rfl⟩
theorem e_X5_told_61 : z_D 3 M_X5_told 61 64 (.getfield 7) := ⟨by decide +kernel, rfl⟩
theorem e_X5_told_64 : z_D 1 M_X5_told 64 65 (.iload_n 1) := ⟨by decide +kernel, rfl⟩
theorem e_X5_told_65 : z_D 1 M_X5_told 65 66 (.iaload) := ⟨by decide +kernel, rfl⟩
theorem e_X5_told_66 : z_D 1 M_X5_told 66 67 (.ireturn) := ⟨by decide +kernel, rfl⟩
theorem e_X5_told_67 : z_D 1 M_X5_told 67 68 (.aload_n 0) := ⟨by decide +kernel, rfl⟩
theorem e_X5_told_68 : z_D 3 M_X5_told 68 71 (.getfield 7) := ⟨by decide +kernel, rfl⟩
theorem e_X5_told_71 : z_D 2 M_X5_told 71 73 (.bipush 6) := ⟨by decide +kernel, rfl⟩
theorem e_X5_told_73 : z_D 1 M_X5_told 73 74 (.iaload) := ⟨by decide +kernel, rfl⟩
theorem e_X5_told_74 : z_D 1 M_X5_told 74 75 (.ireturn) := ⟨by decide +kernel, rfl⟩
theorem e_X5_told_75 : z_D 1 M_X5_told 75 76 (.aload_n 0) := ⟨by decide +kernel, rfl⟩
theorem e_X5_told_76 : z_D 3 M_X5_told 76 79 (.getfield 7) := ⟨by decide +kernel, rfl⟩
theorem e_X5_told_79 : z_D 2 M_X5_told 79 81 (.bipush 14) := ⟨by decide +kernel, rfl⟩
theorem e_X5_told_81 : z_D 1 M_X5_told 81 82 (.iaload) := ⟨by decide +kernel, rfl⟩
theorem e_X5_told_82 : z_D 1 M_X5_told 82 83 (.ireturn) := ⟨by decide +kernel, rfl⟩
theorem e_X5_told_83 : z_D 1 M_X5_told 83 84 (.aload_n 0) := ⟨by decide +kernel, rfl⟩
theorem e_X5_told_84 : z_D 3 M_X5_told 84 87 (.getfield 7) := ⟨by decide +kernel, rfl⟩
theorem e_X5_told_87 : z_D 2 M_X5_told 87 89 (.bipush 7) := ⟨by decide +kernel, rfl⟩
theorem e_X5_told_89 : z_D 1 M_X5_told 89 90 (.iaload) := ⟨by decide +kernel, rfl⟩
theorem e_X5_told_90 : z_D 1 M_X5_told 90 91 (.ireturn) := ⟨by decide +kernel, rfl⟩
theorem e_X5_told_91 : z_D 1 M_X5_told 91 92 (.aload_n 0) := ⟨by decide +kernel, rfl⟩
theorem e_X5_told_92 : z_D 3 M_X5_told 92 95 (.invokevirtual 229) := ⟨by decide +kernel, rfl⟩
theorem e_X5_told_95 : z_D 1 M_X5_told 95 96 (.ireturn) := ⟨by decide +kernel, rfl⟩
theorem e_X5_told_96 : z_D 1 M_X5_told 96 97 (.aload_n 0) := ⟨by decide +kernel, rfl⟩
theorem e_X5_told_97 : z_D 3 M_X5_told 97 100 (.invokevirtual 140) := ⟨by decide +kernel, rfl⟩
theorem e_X5_told_100 : z_D 1 M_X5_told 100 101 (.ireturn) := ⟨by decide +kernel, rfl⟩
theorem e_X5_told_101 : z_D 1 M_X5_told 101 102 (.aload_n 0) := ⟨by decide +kernel, rfl⟩
theorem e_X5_told_102 : z_D 3 M_X5_told 102 105 (.invokevirtual 114) := ⟨by decide +kernel, rfl⟩
theorem e_X5_told_105 : z_D 1 M_X5_told 105 106 (.ireturn) := ⟨by decide +kernel, rfl⟩
theorem e_X5_told_106 : z_D 1 M_X5_told 106 107 (.aload_n 0) := ⟨by decide +kernel, rfl⟩
theorem e_X5_told_107 : z_D 3 M_X5_told 107 110 (.getfield 36) := ⟨by decide +kernel, rfl⟩
theorem e_X5_told_110 : z_D 1 M_X5_told 110 111 (.ireturn) := ⟨by decide +kernel, rfl⟩
theorem e_X5_told_111 : z_D 1 M_X5_told 111 112 (.iconst (-1)) := ⟨by decide +kernel, rfl⟩
theorem e_X5_told_112 : z_D 1 M_X5_told 112 113 (.ireturn) := ⟨by decide +kernel, rfl⟩
theorem e_X5_undo_0 : z_D 1 M_X5_undo 0 1 (.aload_n 0) := ⟨by decide +kernel, rfl⟩
theorem e_X5_undo_1 : z_D 3 M_X5_undo 1 4 (.getfield 36) := ⟨by decide +kernel, rfl⟩
theorem e_X5_undo_4 : z_J M_X5_undo 4 7 10 (6) (.ifCond .ne 6) := ⟨by decide +kernel, rfl, rfl⟩
theorem e_X5_undo_7 : z_D 2 M_X5_undo 7 9 (.bipush (-2)) := ⟨by decide +kernel, rfl⟩
theorem e_X5_undo_9 : z_D 1 M_X5_undo 9 10 (.ireturn) := ⟨by decide +kernel, rfl⟩
theorem e_X5_undo_10 : z_D 1 M_X5_undo 10 11 (.iconst 0) := ⟨by decide +kernel, rfl⟩
theorem e_X5_undo_11 : z_D 1 M_X5_undo 11 12 (.istore_n 1) := ⟨by decide +kernel, rfl⟩
theorem e_X5_undo_12 : z_D 1 M_X5_undo 12 13 (.iload_n 1) := ⟨by decide +kernel, rfl⟩
theorem e_X5_undo_13 : z_D 3 M_X5_undo 13 16 (.sipush 719) := ⟨by decide +kernel, rfl⟩
theorem e_X5_undo_16 : z_J M_X5_undo 16 19 46 (30) (.if_icmp .ge 30) := ⟨by decide +kernel, rfl, rfl⟩
theorem e_X5_undo_19 : z_D 1 M_X5_undo 19 20 (.aload_n 0) := ⟨by decide +kernel, rfl⟩
theorem e_X5_undo_20 : z_D 3 M_X5_undo 20 23 (.getfield 7) := ⟨by decide +kernel, rfl⟩
theorem e_X5_undo_23 : z_D 1 M_X5_undo 23 24 (.iload_n 1) := ⟨by decide +kernel, rfl⟩
theorem e_X5_undo_24 : z_D 1 M_X5_undo 24 25 (.aload_n 0) := ⟨by decide +kernel, rfl⟩
theorem e_X5_undo_25 : z_D 3 M_X5_undo 25 28 (.getfield 7) := ⟨by decide +kernel, rfl⟩
theorem e_X5_undo_28 : z_D 3 M_X5_undo 28 31 (.sipush 719) := ⟨by decide +kernel, rfl⟩
theorem e_X5_undo_31 : z_D 1 M_X5_undo 31 32 (.aload_n 0) := ⟨by decide +kernel, rfl⟩
theorem e_X5_undo_32 : z_D 3 M_X5_undo 32 35 (.getfield 36) := ⟨by decide +kernel, rfl⟩
theorem e_X5_undo_35 : z_D 1 M_X5_undo 35 36 (.imul) := ⟨by decide +kernel, rfl⟩
theorem e_X5_undo_36 : z_D 1 M_X5_undo 36 37 (.iload_n 1) := ⟨by decide +kernel, rfl⟩
theorem e_X5_undo_37 : z_D 1 M_X5_undo 37 38 (.iadd) := ⟨by decide +kernel, rfl⟩
theorem e_X5_undo_38 : z_D 1 M_X5_undo 38 39 (.iaload) := ⟨by decide +kernel, rfl⟩
theorem e_X5_undo_39 : z_D 1 M_X5_undo 39 40 (.iastore) := ⟨by decide +kernel, rfl⟩
theorem e_X5_undo_40 : z_D 3 M_X5_undo 40 43 (.iinc 1 1) := ⟨by decide +kernel, rfl⟩
theorem e_X5_undo_43 : z_J M_X5_undo 43 46 12 (-31) (.goto (-31)) := ⟨by decide +kernel, rfl, rfl⟩
theorem e_X5_undo_46 : z_D 1 M_X5_undo 46 47 (.aload_n 0) := ⟨by decide +kernel, rfl⟩
theorem e_X5_undo_47 : z_D 1 M_X5_undo 47 48 (.dup) := ⟨by decide +kernel, rfl⟩
theorem e_X5_undo_48 : z_D 3 M_X5_undo 48 51 (.getfield 36) := ⟨by decide +kernel, rfl⟩
theorem e_X5_undo_51 : z_D 1 M_X5_undo 51 52 (.iconst 1) := ⟨by decide +kernel, rfl⟩
theorem e_X5_undo_52 : z_D 1 M_X5_undo 52 53 (.isub) := ⟨by decide +kernel, rfl⟩
theorem e_X5_undo_53 : z_D 3 M_X5_undo 53 56 (.putfield 36) := ⟨by decide +kernel, rfl⟩
theorem e_X5_undo_56 : z_D 1 M_X5_undo 56 57 (.aload_n 0) := ⟨by decide +kernel, rfl⟩
theorem e_X5_undo_57 : z_D 3 M_X5_undo 57 60 (.getfield 36) := ⟨by decide +kernel, rfl⟩
theorem e_X5_undo_60 : z_D 1 M_X5_undo 60 61 (.ireturn) := ⟨by decide +kernel, rfl⟩
theorem e_X5_mixedLines_0 : z_D 1 M_X5_mixedLines 0 1 (.lload_n 1) := ⟨by decide +kernel, rfl⟩
theorem e_X5_mixedLines_1 : z_D 1 M_X5_mixedLines 1 2 (.lstore_n 3) := ⟨by decide +kernel, rfl⟩
theorem e_X5_mixedLines_2 : z_D 1 M_X5_mixedLines 2 3 (.aload_n 0) := ⟨by decide +kernel, rfl⟩
theorem e_X5_mixedLines_3 : z_D 3 M_X5_mixedLines 3 6 (.invokevirtual 140) := ⟨by decide +kernel, rfl⟩
theorem e_X5_mixedLines_6 : z_D 2 M_X5_mixedLines 6 8 (.istore 5) := ⟨by decide +kernel, rfl⟩
theorem e_X5_mixedLines_8 : z_D 1 M_X5_mixedLines 8 9 (.iconst 0) := ⟨by decide +kernel, rfl⟩
theorem e_X5_mixedLines_9 : z_D 2 M_X5_mixedLines 9 11 (.istore 6) := ⟨by decide +kernel, rfl⟩
theorem e_X5_mixedLines_11 : z_D 2 M_X5_mixedLines 11 13 (.iload 6) := ⟨by decide +kernel, rfl⟩
theorem e_X5_mixedLines_13 : z_D 2 M_X5_mixedLines 13 15 (.iload 5) := ⟨by decide +kernel, rfl⟩
theorem e_X5_mixedLines_15 : z_J M_X5_mixedLines 15 18 120 (105) (.if_icmp .ge 105) := ⟨by decide +kernel, rfl, rfl⟩
theorem e_X5_mixedLines_18 : z_D 1 M_X5_mixedLines 18 19 (.aload_n 0) := ⟨by decide +kernel, rfl⟩
theorem e_X5_mixedLines_19 : z_D 2 M_X5_mixedLines 19 21 (.iload 6) := ⟨by decide +kernel, rfl⟩
theorem e_X5_mixedLines_21 : z_D 2 M_X5_mixedLines 21 23 (.iload 5) := ⟨by decide +kernel, rfl⟩
theorem e_X5_mixedLines_23 : z_D 3 M_X5_mixedLines 23 26 (.invokevirtual 137) := ⟨by decide +kernel, rfl⟩
theorem e_X5_mixedLines_26 : z_D 2 M_X5_mixedLines 26 28 (.istore 7) := ⟨by decide +kernel, rfl⟩
theorem e_X5_mixedLines_28 : z_D 1 M_X5_mixedLines 28 29 (.iconst 0) := ⟨by decide +kernel, rfl⟩
theorem e_X5_mixedLines_29 : z_D 2 M_X5_mixedLines 29 31 (.istore 8) := ⟨by decide +kernel, rfl⟩
theorem e_X5_mixedLines_31 : z_D 2 M_X5_mixedLines 31 33 (.iload 8) := ⟨by decide +kernel, rfl⟩
theorem e_X5_mixedLines_33 : z_D 1 M_X5_mixedLines 33 34 (.iconst 2) := ⟨by decide +kernel, rfl⟩
theorem e_X5_mixedLines_34 : z_J M_X5_mixedLines 34 37 61 (27) (.if_icmp .gt 27) := ⟨by decide +kernel, rfl, rfl⟩
theorem e_X5_mixedLines_37 : z_D 3 M_X5_mixedLines 37 40 (.ldc2_w 232) := ⟨by decide +kernel, rfl⟩
theorem e_X5_mixedLines_40 : z_D 1 M_X5_mixedLines 40 41 (.lload_n 3) := ⟨by decide +kernel, rfl⟩
theorem e_X5_mixedLines_41 : z_D 1 M_X5_mixedLines 41 42 (.lmul) := ⟨by decide +kernel, rfl⟩
theorem e_X5_mixedLines_42 : z_D 1 M_X5_mixedLines 42 43 (.aload_n 0) := ⟨by decide +kernel, rfl⟩
theorem e_X5_mixedLines_43 : z_D 2 M_X5_mixedLines 43 45 (.iload 6) := ⟨by decide +kernel, rfl⟩
theorem e_X5_mixedLines_45 : z_D 2 M_X5_mixedLines 45 47 (.iload 7) := ⟨by decide +kernel, rfl⟩
theorem e_X5_mixedLines_47 : z_D 2 M_X5_mixedLines 47 49 (.iload 8) := ⟨by decide +kernel, rfl⟩
theorem e_X5_mixedLines_49 : z_D 3 M_X5_mixedLines 49 52 (.invokevirtual 158) := ⟨by decide +kernel, rfl⟩
theorem e_X5_mixedLines_52 : z_D 1 M_X5_mixedLines 52 53 (.i2l) := ⟨by decide +kernel, rfl⟩
theorem e_X5_mixedLines_53 : z_D 1 M_X5_mixedLines 53 54 (.ladd) := ⟨by decide +kernel, rfl⟩
theorem e_X5_mixedLines_54 : z_D 1 M_X5_mixedLines 54 55 (.lstore_n 3) := ⟨by decide +kernel, rfl⟩
theorem e_X5_mixedLines_55 : z_D 3 M_X5_mixedLines 55 58 (.iinc 8 1) := ⟨by decide +kernel, rfl⟩
theorem e_X5_mixedLines_58 : z_J M_X5_mixedLines 58 61 31 (-27) (.goto (-27)) := ⟨by decide +kernel, rfl, rfl⟩
theorem e_X5_mixedLines_61 : z_D 1 M_X5_mixedLines 61 62 (.aload_n 0) := ⟨by decide +kernel, rfl⟩
theorem e_X5_mixedLines_62 : z_D 2 M_X5_mixedLines 62 64 (.iload 6) := ⟨by decide +kernel, rfl⟩
theorem e_X5_mixedLines_64 : z_D 2 M_X5_mixedLines 64 66 (.iload 7) := ⟨by decide +kernel, rfl⟩
theorem e_X5_mixedLines_66 : z_D 3 M_X5_mixedLines 66 69 (.invokevirtual 152) := ⟨by decide +kernel, rfl⟩
theorem e_X5_mixedLines_69 : z_D 2 M_X5_mixedLines 69 71 (.istore 8) := ⟨by decide +kernel, rfl⟩
theorem e_X5_mixedLines_71 : z_D 1 M_X5_mixedLines 71 72 (.iconst 0) := ⟨by decide +kernel, rfl⟩
theorem e_X5_mixedLines_72 : z_D 2 M_X5_mixedLines 72 74 (.istore 9) := ⟨by decide +kernel, rfl⟩
theorem e_X5_mixedLines_74 : z_D 2 M_X5_mixedLines 74 76 (.iload 9) := ⟨by decide +kernel, rfl⟩
theorem e_X5_mixedLines_76 : z_D 2 M_X5_mixedLines 76 78 (.iload 8) := ⟨by decide +kernel, rfl⟩
theorem e_X5_mixedLines_78 : z_J M_X5_mixedLines 78 81 105 (27) (.if_icmp .ge 27) := ⟨by decide +kernel, rfl, rfl⟩
theorem e_X5_mixedLines_81 : z_D 3 M_X5_mixedLines 81 84 (.ldc2_w 232) := ⟨by decide +kernel, rfl⟩
theorem e_X5_mixedLines_84 : z_D 1 M_X5_mixedLines 84 85 (.lload_n 3) := ⟨by decide +kernel, rfl⟩
theorem e_X5_mixedLines_85 : z_D 1 M_X5_mixedLines 85 86 (.lmul) := ⟨by decide +kernel, rfl⟩
theorem e_X5_mixedLines_86 : z_D 1 M_X5_mixedLines 86 87 (.aload_n 0) := ⟨by decide +kernel, rfl⟩
theorem e_X5_mixedLines_87 : z_D 2 M_X5_mixedLines 87 89 (.iload 6) := ⟨by decide +kernel, rfl⟩
theorem e_X5_mixedLines_89 : z_D 2 M_X5_mixedLines 89 91 (.iload 7) := ⟨by decide +kernel, rfl⟩
theorem e_X5_mixedLines_91 : z_D 2 M_X5_mixedLines 91 93 (.iload 9) := ⟨by decide +kernel, rfl⟩
theorem e_X5_mixedLines_93 : z_D 3 M_X5_mixedLines 93 96 (.invokevirtual 162) := ⟨by decide +kernel, rfl⟩
theorem e_X5_mixedLines_96 : z_D 1 M_X5_mixedLines 96 97 (.i2l) := ⟨by decide +kernel, rfl⟩
theorem e_X5_mixedLines_97 : z_D 1 M_X5_mixedLines 97 98 (.ladd) := ⟨by decide +kernel, rfl⟩
theorem e_X5_mixedLines_98 : z_D 1 M_X5_mixedLines 98 99 (.lstore_n 3) := ⟨by decide +kernel, rfl⟩
theorem e_X5_mixedLines_99 : z_D 3 M_X5_mixedLines 99 102 (.iinc 9 1) := ⟨by decide +kernel, rfl⟩
theorem e_X5_mixedLines_102 : z_J M_X5_mixedLines 102 105 74 (-28) (.goto (-28)) := ⟨by decide +kernel, rfl, rfl⟩
theorem e_X5_mixedLines_105 : z_D 1 M_X5_mixedLines 105 106 (.aload_n 0) := ⟨by decide +kernel, rfl⟩
theorem e_X5_mixedLines_106 : z_D 2 M_X5_mixedLines 106 108 (.iload 6) := ⟨by decide +kernel, rfl⟩
theorem e_X5_mixedLines_108 : z_D 2 M_X5_mixedLines 108 110 (.iload 5) := ⟨by decide +kernel, rfl⟩
theorem e_X5_mixedLines_110 : z_D 3 M_X5_mixedLines 110 113 (.invokevirtual 137) := ⟨by decide +kernel, rfl⟩
theorem e_X5_mixedLines_113 : z_D 1 M_X5_mixedLines 113 114 (.iconst 1) := ⟨by decide +kernel, rfl⟩
theorem e_X5_mixedLines_114 : z_D 1 M_X5_mixedLines 114 115 (.iadd) := ⟨by decide +kernel, rfl⟩
theorem e_X5_mixedLines_115 : z_D 2 M_X5_mixedLines 115 117 (.istore 6) := ⟨by decide +kernel, rfl⟩
theorem e_X5_mixedLines_117 : z_J M_X5_mixedLines 117 120 11 (-106) (.goto (-106)) := ⟨by decide +kernel, rfl, rfl⟩
theorem e_X5_mixedLines_120 : z_D 1 M_X5_mixedLines 120 121 (.lload_n 3) := ⟨by decide +kernel, rfl⟩
theorem e_X5_mixedLines_121 : z_D 1 M_X5_mixedLines 121 122 (.lreturn) := ⟨by decide +kernel, rfl⟩
theorem e_X5_digest_0 : z_D 3 M_X5_digest 0 3 (.ldc2_w 234) := ⟨by decide +kernel, rfl⟩
theorem e_X5_digest_3 : z_D 1 M_X5_digest 3 4 (.lstore_n 1) := ⟨by decide +kernel, rfl⟩
theorem e_X5_digest_4 : z_D 1 M_X5_digest 4 5 (.iconst 0) := ⟨by decide +kernel, rfl⟩
theorem e_X5_digest_5 : z_D 1 M_X5_digest 5 6 (.istore_n 3) := ⟨by decide +kernel, rfl⟩
theorem e_X5_digest_6 : z_D 1 M_X5_digest 6 7 (.iload_n 3) := ⟨by decide +kernel, rfl⟩
theorem e_X5_digest_7 : z_D 2 M_X5_digest 7 9 (.bipush 10) := ⟨by decide +kernel, rfl⟩
theorem e_X5_digest_9 : z_J M_X5_digest 9 12 31 (22) (.if_icmp .gt 22) := ⟨by decide +kernel, rfl, rfl⟩
theorem e_X5_digest_12 : z_D 3 M_X5_digest 12 15 (.ldc2_w 232) := ⟨by decide +kernel, rfl⟩
theorem e_X5_digest_15 : z_D 1 M_X5_digest 15 16 (.lload_n 1) := ⟨by decide +kernel, rfl⟩
theorem e_X5_digest_16 : z_D 1 M_X5_digest 16 17 (.lmul) := ⟨by decide +kernel, rfl⟩
theorem e_X5_digest_17 : z_D 1 M_X5_digest 17 18 (.aload_n 0) := ⟨by decide +kernel, rfl⟩
theorem e_X5_digest_18 : z_D 1 M_X5_digest 18 19 (.iload_n 3) := ⟨by decide +kernel, rfl⟩
theorem e_X5_digest_19 : z_D 3 M_X5_digest 19 22 (.invokevirtual 236) := ⟨by decide +kernel, rfl⟩
theorem e_X5_digest_22 : z_D 1 M_X5_digest 22 23 (.i2l) := ⟨by decide +kernel, rfl⟩
theorem e_X5_digest_23 : z_D 1 M_X5_digest 23 24 (.ladd) := ⟨by decide +kernel, rfl⟩
theorem e_X5_digest_24 : z_D 1 M_X5_digest 24 25 (.lstore_n 1) := ⟨by decide +kernel, rfl⟩
theorem e_X5_digest_25 : z_D 3 M_X5_digest 25 28 (.iinc 3 1) := ⟨by decide +kernel, rfl⟩
theorem e_X5_digest_28 : z_J M_X5_digest 28 31 6 (-22) (.goto (-22)) := ⟨by decide +kernel, rfl, rfl⟩
theorem e_X5_digest_31 : z_D 1 M_X5_digest 31 32 (.iconst 0) := ⟨by decide +kernel, rfl⟩
theorem e_X5_digest_32 : z_D 1 M_X5_digest 32 33 (.istore_n 3) := ⟨by decide +kernel, rfl⟩
theorem e_X5_digest_33 : z_D 1 M_X5_digest 33 34 (.iload_n 3) := ⟨by decide +kernel, rfl⟩
theorem e_X5_digest_34 : z_D 1 M_X5_digest 34 35 (.aload_n 0) := ⟨by decide +kernel, rfl⟩
theorem e_X5_digest_35 : z_D 3 M_X5_digest 35 38 (.getfield 7) := ⟨by decide +kernel, rfl⟩
theorem e_X5_digest_38 : z_D 2 M_X5_digest 38 40 (.bipush 14) := ⟨by decide +kernel, rfl⟩
theorem e_X5_digest_40 : z_D 1 M_X5_digest 40 41 (.iaload) := ⟨by decide +kernel, rfl⟩
theorem e_X5_digest_41 : z_D 1 M_X5_digest 41 42 (.aload_n 0) := ⟨by decide +kernel, rfl⟩
theorem e_X5_digest_42 : z_D 3 M_X5_digest 42 45 (.getfield 7) := ⟨by decide +kernel, rfl⟩
theorem e_X5_digest_45 : z_D 1 M_X5_digest 45 46 (.iconst 1) := ⟨by decide +kernel, rfl⟩
theorem e_X5_digest_46 : z_D 1 M_X5_digest 46 47 (.iaload) := ⟨by decide +kernel, rfl⟩
theorem e_X5_digest_47 : z_D 1 M_X5_digest 47 48 (.iadd) := ⟨by decide +kernel, rfl⟩
theorem e_X5_digest_48 : z_J M_X5_digest 48 51 91 (43) (.if_icmp .ge 43) := ⟨by decide +kernel, rfl, rfl⟩
theorem e_X5_digest_51 : z_D 1 M_X5_digest 51 52 (.iconst 0) := ⟨by decide +kernel, rfl⟩
theorem e_X5_digest_52 : z_D 2 M_X5_digest 52 54 (.istore 4) := ⟨by decide +kernel, rfl⟩
theorem e_X5_digest_54 : z_D 2 M_X5_digest 54 56 (.iload 4) := ⟨by decide +kernel, rfl⟩
theorem e_X5_digest_56 : z_D 1 M_X5_digest 56 57 (.iconst 3) := ⟨by decide +kernel, rfl⟩
theorem e_X5_digest_57 : z_J M_X5_digest 57 60 85 (28) (.if_icmp .gt 28) := ⟨by decide +kernel, rfl, rfl⟩
theorem e_X5_digest_60 : z_D 3 M_X5_digest 60 63 (.ldc2_w 232) := ⟨by decide +kernel, rfl⟩
theorem e_X5_digest_63 : z_D 1 M_X5_digest 63 64 (.lload_n 1) := ⟨by decide +kernel, rfl⟩
theorem e_X5_digest_64 : z_D 1 M_X5_digest 64 65 (.lmul) := ⟨by decide +kernel, rfl⟩
theorem e_X5_digest_65 : z_D 1 M_X5_digest 65 66 (.aload_n 0) := ⟨by decide +kernel, rfl⟩
theorem e_X5_digest_66 : z_D 1 M_X5_digest 66 67 (.aload_n 0) := ⟨by decide +kernel, rfl⟩
theorem e_X5_digest_67 : z_D 1 M_X5_digest 67 68 (.iload_n 3) := ⟨by decide +kernel, rfl⟩
theorem e_X5_digest_68 : z_D 3 M_X5_digest 68 71 (.invokevirtual 130) := ⟨by decide +kernel, rfl⟩
theorem e_X5_digest_71 : z_D 2 M_X5_digest 71 73 (.iload 4) := ⟨by decide +kernel, rfl⟩
theorem e_X5_digest_73 : z_D 3 M_X5_digest 73 76 (.invokevirtual 226) := ⟨by decide +kernel, rfl⟩
theorem e_X5_digest_76 : z_D 1 M_X5_digest 76 77 (.i2l) := ⟨by decide +kernel, rfl⟩
theorem e_X5_digest_77 : z_D 1 M_X5_digest 77 78 (.ladd) := ⟨by decide +kernel, rfl⟩
theorem e_X5_digest_78 : z_D 1 M_X5_digest 78 79 (.lstore_n 1) := ⟨by decide +kernel, rfl⟩
theorem e_X5_digest_79 : z_D 3 M_X5_digest 79 82 (.iinc 4 1) := ⟨by decide +kernel, rfl⟩
theorem e_X5_digest_82 : z_J M_X5_digest 82 85 54 (-28) (.goto (-28)) := ⟨by decide +kernel, rfl, rfl⟩
theorem e_X5_digest_85 : z_D 3 M_X5_digest 85 88 (.iinc 3 1) := ⟨by decide +kernel, rfl⟩
theorem e_X5_digest_88 : z_J M_X5_digest 88 91 33 (-55) (.goto (-55)) := ⟨by decide +kernel, rfl, rfl⟩
theorem e_X5_digest_91 : z_D 1 M_X5_digest 91 92 (.iconst 0) := ⟨by decide +kernel, rfl⟩
theorem e_X5_digest_92 : z_D 1 M_X5_digest 92 93 (.istore_n 3) := ⟨by decide +kernel, rfl⟩
theorem e_X5_digest_93 : z_D 1 M_X5_digest 93 94 (.iload_n 3) := ⟨by decide +kernel, rfl⟩
theorem e_X5_digest_94 : z_D 1 M_X5_digest 94 95 (.aload_n 0) := ⟨by decide +kernel, rfl⟩
theorem e_X5_digest_95 : z_D 3 M_X5_digest 95 98 (.getfield 7) := ⟨by decide +kernel, rfl⟩
theorem e_X5_digest_98 : z_D 1 M_X5_digest 98 99 (.iconst 1) := ⟨by decide +kernel, rfl⟩
theorem e_X5_digest_99 : z_D 1 M_X5_digest 99 100 (.iaload) := ⟨by decide +kernel, rfl⟩
theorem e_X5_digest_100 : z_D 1 M_X5_digest 100 101 (.aload_n 0) := ⟨by decide +kernel, rfl⟩
theorem e_X5_digest_101 : z_D 3 M_X5_digest 101 104 (.getfield 7) := ⟨by decide +kernel, rfl⟩
theorem e_X5_digest_104 : z_D 1 M_X5_digest 104 105 (.iconst 0) := ⟨by decide +kernel, rfl⟩
theorem e_X5_digest_105 : z_D 1 M_X5_digest 105 106 (.iaload) := ⟨by decide +kernel, rfl⟩
theorem e_X5_digest_106 : z_D 1 M_X5_digest 106 107 (.imul) := ⟨by decide +kernel, rfl⟩
theorem e_X5_digest_107 : z_J M_X5_digest 107 110 144 (37) (.if_icmp .ge 37) := ⟨by decide +kernel, rfl, rfl⟩
theorem e_X5_digest_110 : z_D 3 M_X5_digest 110 113 (.ldc2_w 232) := ⟨by decide +kernel, rfl⟩
theorem e_X5_digest_113 : z_D 1 M_X5_digest 113 114 (.lload_n 1) := ⟨by decide +kernel, rfl⟩
theorem e_X5_digest_114 : z_D 1 M_X5_digest 114 115 (.lmul) := ⟨by decide +kernel, rfl⟩
theorem e_X5_digest_115 : z_D 1 M_X5_digest 115 116 (.aload_n 0) := ⟨by decide +kernel, rfl⟩
theorem e_X5_digest_116 : z_D 1 M_X5_digest 116 117 (.iload_n 3) := ⟨by decide +kernel, rfl⟩
theorem e_X5_digest_117 : z_D 1 M_X5_digest 117 118 (.aload_n 0) := ⟨by decide +kernel, rfl⟩
theorem e_X5_digest_118 : z_D 3 M_X5_digest 118 121 (.getfield 7) := ⟨by decide +kernel, rfl⟩
theorem e_X5_digest_121 : z_D 1 M_X5_digest 121 122 (.iconst 0) := ⟨by decide +kernel, rfl⟩
theorem e_X5_digest_122 : z_D 1 M_X5_digest 122 123 (.iaload) := ⟨by decide +kernel, rfl⟩
theorem e_X5_digest_123 : z_D 1 M_X5_digest 123 124 (.idiv) := ⟨by decide +kernel, rfl⟩
theorem e_X5_digest_124 : z_D 1 M_X5_digest 124 125 (.iload_n 3) := ⟨by decide +kernel, rfl⟩
theorem e_X5_digest_125 : z_D 1 M_X5_digest 125 126 (.aload_n 0) := ⟨by decide +kernel, rfl⟩
theorem e_X5_digest_126 : z_D 3 M_X5_digest 126 129 (.getfield 7) := ⟨by decide +kernel, rfl⟩
theorem e_X5_digest_129 : z_D 1 M_X5_digest 129 130 (.iconst 0) := ⟨by decide +kernel, rfl⟩
theorem e_X5_digest_130 : z_D 1 M_X5_digest 130 131 (.iaload) := ⟨by decide +kernel, rfl⟩
theorem e_X5_digest_131 : z_D 1 M_X5_digest 131 132 (.irem) := ⟨by decide +kernel, rfl⟩
theorem e_X5_digest_132 : z_D 3 M_X5_digest 132 135 (.invokevirtual 239) := ⟨by decide +kernel, rfl⟩
theorem e_X5_digest_135 : z_D 1 M_X5_digest 135 136 (.i2l) := ⟨by decide +kernel, rfl⟩
theorem e_X5_digest_136 : z_D 1 M_X5_digest 136 137 (.ladd) := ⟨by decide +kernel, rfl⟩
theorem e_X5_digest_137 : z_D 1 M_X5_digest 137 138 (.lstore_n 1) := ⟨by decide +kernel, rfl⟩
theorem e_X5_digest_138 : z_D 3 M_X5_digest 138 141 (.iinc 3 1) := ⟨by decide +kernel, rfl⟩
theorem e_X5_digest_141 : z_J M_X5_digest 141 144 93 (-48) (.goto (-48)) := ⟨by decide +kernel, rfl, rfl⟩
theorem e_X5_digest_144 : z_D 1 M_X5_digest 144 145 (.aload_n 0) := ⟨by decide +kernel, rfl⟩
theorem e_X5_digest_145 : z_D 1 M_X5_digest 145 146 (.lload_n 1) := ⟨by decide +kernel, rfl⟩
theorem e_X5_digest_146 : z_D 3 M_X5_digest 146 149 (.invokevirtual 242) := ⟨by decide +kernel, rfl⟩
theorem e_X5_digest_149 : z_D 1 M_X5_digest 149 150 (.lstore_n 1) := ⟨by decide +kernel, rfl⟩
theorem e_X5_digest_150 : z_D 1 M_X5_digest 150 151 (.iconst 0) := ⟨by decide +kernel, rfl⟩
theorem e_X5_digest_151 : z_D 1 M_X5_digest 151 152 (.istore_n 3) := ⟨by decide +kernel, rfl⟩
theorem e_X5_digest_152 : z_D 1 M_X5_digest 152 153 (.iload_n 3) := ⟨by decide +kernel, rfl⟩
theorem e_X5_digest_153 : z_D 1 M_X5_digest 153 154 (.aload_n 0) := ⟨by decide +kernel, rfl⟩
theorem e_X5_digest_154 : z_D 3 M_X5_digest 154 157 (.getfield 7) := ⟨by decide +kernel, rfl⟩
theorem e_X5_digest_157 : z_D 2 M_X5_digest 157 159 (.bipush 7) := ⟨by decide +kernel, rfl⟩
theorem e_X5_digest_159 : z_D 1 M_X5_digest 159 160 (.iaload) := ⟨by decide +kernel, rfl⟩
theorem e_X5_digest_160 : z_J M_X5_digest 160 163 199 (39) (.if_icmp .gt 39) := ⟨by decide +kernel, rfl, rfl⟩
theorem e_X5_digest_163 : z_D 1 M_X5_digest 163 164 (.iconst 0) := ⟨by decide +kernel, rfl⟩
theorem e_X5_digest_164 : z_D 2 M_X5_digest 164 166 (.istore 4) := ⟨by decide +kernel, rfl⟩
theorem e_X5_digest_166 : z_D 2 M_X5_digest 166 168 (.iload 4) := ⟨by decide +kernel, rfl⟩
theorem e_X5_digest_168 : z_D 1 M_X5_digest 168 169 (.iconst 3) := ⟨by decide +kernel, rfl⟩
theorem e_X5_digest_169 : z_J M_X5_digest 169 172 193 (24) (.if_icmp .gt 24) := ⟨by decide +kernel, rfl, rfl⟩
theorem e_X5_digest_172 : z_D 3 M_X5_digest 172 175 (.ldc2_w 232) := ⟨by decide +kernel, rfl⟩
theorem e_X5_digest_175 : z_D 1 M_X5_digest 175 176 (.lload_n 1) := ⟨by decide +kernel, rfl⟩
theorem e_X5_digest_176 : z_D 1 M_X5_digest 176 177 (.lmul) := ⟨by decide +kernel, rfl⟩
theorem e_X5_digest_177 : z_D 1 M_X5_digest 177 178 (.aload_n 0) := ⟨by decide +kernel, rfl⟩
theorem e_X5_digest_178 : z_D 1 M_X5_digest 178 179 (.iload_n 3) := ⟨by decide +kernel, rfl⟩
theorem e_X5_digest_179 : z_D 2 M_X5_digest 179 181 (.iload 4) := ⟨by decide +kernel, rfl⟩
theorem e_X5_digest_181 : z_D 3 M_X5_digest 181 184 (.invokevirtual 177) := ⟨by decide +kernel, rfl⟩
theorem e_X5_digest_184 : z_D 1 M_X5_digest 184 185 (.i2l) := ⟨by decide +kernel, rfl⟩
theorem e_X5_digest_185 : z_D 1 M_X5_digest 185 186 (.ladd) := ⟨by decide +kernel, rfl⟩
theorem e_X5_digest_186 : z_D 1 M_X5_digest 186 187 (.lstore_n 1) := ⟨by decide +kernel, rfl⟩
theorem e_X5_digest_187 : z_D 3 M_X5_digest 187 190 (.iinc 4 1) := ⟨by decide +kernel, rfl⟩
theorem e_X5_digest_190 : z_J M_X5_digest 190 193 166 (-24) (.goto (-24)) := ⟨by decide +kernel, rfl, rfl⟩
theorem e_X5_digest_193 : z_D 3 M_X5_digest 193 196 (.iinc 3 1) := ⟨by decide +kernel, rfl⟩
theorem e_X5_digest_196 : z_J M_X5_digest 196 199 152 (-44) (.goto (-44)) := ⟨by decide +kernel, rfl, rfl⟩
theorem e_X5_digest_199 : z_D 1 M_X5_digest 199 200 (.iconst 4) := ⟨by decide +kernel, rfl⟩
theorem e_X5_digest_200 : z_D 1 M_X5_digest 200 201 (.istore_n 3) := ⟨by decide +kernel, rfl⟩
theorem e_X5_digest_201 : z_D 1 M_X5_digest 201 202 (.iload_n 3) := ⟨by decide +kernel, rfl⟩
theorem e_X5_digest_202 : z_D 2 M_X5_digest 202 204 (.bipush 20) := ⟨by decide +kernel, rfl⟩
theorem e_X5_digest_204 : z_J M_X5_digest 204 207 226 (22) (.if_icmp .gt 22) := ⟨by decide +kernel, rfl, rfl⟩
theorem e_X5_digest_207 : z_D 3 M_X5_digest 207 210 (.ldc2_w 232) := ⟨by decide +kernel, rfl⟩
theorem e_X5_digest_210 : z_D 1 M_X5_digest 210 211 (.lload_n 1) := ⟨by decide +kernel, rfl⟩
theorem e_X5_digest_211 : z_D 1 M_X5_digest 211 212 (.lmul) := ⟨by decide +kernel, rfl⟩
theorem e_X5_digest_212 : z_D 1 M_X5_digest 212 213 (.aload_n 0) := ⟨by decide +kernel, rfl⟩
theorem e_X5_digest_213 : z_D 1 M_X5_digest 213 214 (.iload_n 3) := ⟨by decide +kernel, rfl⟩
theorem e_X5_digest_214 : z_D 3 M_X5_digest 214 217 (.invokevirtual 211) := ⟨by decide +kernel, rfl⟩
theorem e_X5_digest_217 : z_D 1 M_X5_digest 217 218 (.i2l) := ⟨by decide +kernel, rfl⟩
theorem e_X5_digest_218 : z_D 1 M_X5_digest 218 219 (.ladd) := ⟨by decide +kernel, rfl⟩
theorem e_X5_digest_219 : z_D 1 M_X5_digest 219 220 (.lstore_n 1) := ⟨by decide +kernel, rfl⟩
theorem e_X5_digest_220 : z_D 3 M_X5_digest 220 223 (.iinc 3 1) := ⟨by decide +kernel, rfl⟩
theorem e_X5_digest_223 : z_J M_X5_digest 223 226 201 (-22) (.goto (-22)) := ⟨by decide +kernel, rfl, rfl⟩
theorem e_X5_digest_226 : z_D 1 M_X5_digest 226 227 (.lload_n 1) := ⟨by decide +kernel, rfl⟩
theorem e_X5_digest_227 : z_D 1 M_X5_digest 227 228 (.lreturn) := ⟨by decide +kernel, rfl⟩
end
section
/-! A LIGHTER LOGIC OVER THE KIT'S: numbers are integers, cells are numbered in the order in which they were made; the machine is hidden in z_A -/
abbrev z_V : Type := Int ⊕ Int64 ⊕ Option Nat
abbrev zi (x : Int) : z_V := Sum.inl x
abbrev zl (x : Int64) : z_V := Sum.inr (Sum.inl x)
abbrev zr (r : Option Nat) : z_V := Sum.inr (Sum.inr r)
abbrev zo (a : Nat) : z_V := Sum.inr (Sum.inr (some a))
abbrev z_Mi : Type := Nat → Int → Int
abbrev z_Mr : Type := Nat → Int → Option Nat
abbrev z_R (x : Int) : Prop := -2147483648 ≤ x ∧ x ≤ 2147483647
def z_I (x : Int) : Int32 := Int32.ofInt x
def z_cv (al : Nat → Nat) (v : z_V) : Value := match v with
  | .inl x => .int (z_I x)
  | .inr (.inl y) => .long y
  | .inr (.inr r) => va_rf (r.map al)
def z_cat (v : z_V) : Nat := match v with
  | .inr (.inl _) => 2
  | _ => 1
theorem z_cat_eq (al : Nat → Nat) (v : z_V) : (z_cv al v).category = z_cat v := by
  rcases v with x | y | r
  · rfl
  · rfl
  · cases r <;> rfl
theorem z_cats (al : Nat → Nat) (vs : List z_V) : ((vs.map (z_cv al)).map fun v => v.category).sum = (vs.map z_cat).sum := by
  rw [List.map_map]
  congr 1
  apply List.map_congr_left
  intro v _
  exact z_cat_eq al v
/-! numbers -/
theorem z_I_add (a b : Int) : z_I a + z_I b = z_I (a + b) := by simp [z_I, Int32.ofInt_add]
theorem z_I_sub (a b : Int) : z_I a - z_I b = z_I (a - b) := by simp [z_I, Int32.ofInt_sub]
theorem z_I_mul (a b : Int) : z_I a * z_I b = z_I (a * b) := by simp [z_I, Int32.ofInt_mul]
theorem z_I_neg (a : Int) : - z_I a = z_I (-a) := by simp [z_I, Int32.ofInt_neg]
theorem z_I_toInt {x : Int} (h : z_R x) : (z_I x).toInt = x := by
  unfold z_I
  rw [Int32.toInt_ofInt]
  apply Int.bmod_eq_of_le
  · have := h.1; show -(2147483648 : Int) ≤ x; exact this
  · have := h.2; show x < (2147483648 : Int); omega
theorem z_I_of (x : Int32) : z_I x.toInt = x := by simp [z_I]
theorem z_I_R (x : Int32) : z_R x.toInt := by
  have h1 := Int32.le_toInt x
  have h2 := Int32.toInt_lt x
  constructor <;> omega
theorem z_I_eq {a b : Int} (ha : z_R a) (hb : z_R b) : z_I a = z_I b ↔ a = b := by
  constructor
  · intro h
    have := congrArg Int32.toInt h
    rwa [z_I_toInt ha, z_I_toInt hb] at this
  · intro h; rw [h]
theorem z_I_lt {a b : Int} (ha : z_R a) (hb : z_R b) : z_I a < z_I b ↔ a < b := by
  rw [Int32.lt_iff_toInt_lt, z_I_toInt ha, z_I_toInt hb]
theorem z_I_le {a b : Int} (ha : z_R a) (hb : z_R b) : z_I a ≤ z_I b ↔ a ≤ b := by
  rw [Int32.le_iff_toInt_le, z_I_toInt ha, z_I_toInt hb]
theorem z_I_0 : z_I 0 = 0 := by decide +kernel
theorem z_R0 : z_R 0 := by decide
theorem z_I_nat (n : Nat) : z_I (n : Int) = nI n := by
  simp [z_I, nI, Int32.ofInt, Int32.ofNat]
theorem z_I_clamp {x : Int} (h0 : 0 ≤ x) (h1 : x ≤ 2147483647) : (z_I x).toNatClampNeg = x.toNat := by
  show (z_I x).toInt.toNat = x.toNat
  rw [z_I_toInt ⟨by omega, h1⟩]
theorem z_I_in {x : Int} {n : Nat} (h0 : 0 ≤ x) (h1 : x < n) (hn : n ≤ 2147483648) : vp_in (z_I x) n := by
  rw [vp_in_iff, z_I_toInt ⟨by omega, by omega⟩]
  exact ⟨h0, h1⟩
theorem z_I_div {a b : Int} (ha : 0 ≤ a) (hb : 0 < b) (h1 : z_R a) (h2 : z_R b) : z_I a / z_I b = z_I (a / b) := by
  have e1 : a = (a.toNat : Int) := by omega
  have e2 : b = (b.toNat : Int) := by omega
  rw [e1, e2, z_I_nat, z_I_nat, pk_div (by have := h1.2; omega) (by omega) (by have := h2.2; omega), ← z_I_nat]
  rfl
theorem z_I_rem {a b : Int} (ha : 0 ≤ a) (hb : 0 < b) (h1 : z_R a) (h2 : z_R b) : z_I a - z_I a / z_I b * z_I b = z_I (a % b) := by
  rw [z_I_div ha hb h1 h2, z_I_mul, z_I_sub]
  congr 1
  have := Int.emod_add_mul_ediv a b
  have h3 : a / b * b = b * (a / b) := Int.mul_comm _ _
  omega
/-! updates -/
def z_u {α : Type} (m : Nat → α) (a : Nat) (f : α) : Nat → α := fun b => if b = a then f else m b
def z_v {α : Type} (f : Int → α) (i : Int) (v : α) : Int → α := fun j => if j = i then v else f j
theorem z_us {α : Type} (m : Nat → α) (a : Nat) (f : α) : z_u m a f a = f := if_pos rfl
theorem z_un {α : Type} {m : Nat → α} {a b : Nat} {f : α} (h : b ≠ a) : z_u m a f b = m b := if_neg h
theorem z_uu {α : Type} (m : Nat → α) (a : Nat) (f g : α) : z_u (z_u m a f) a g = z_u m a g := by
  funext b; unfold z_u; split <;> rfl
theorem z_uself {α : Type} (m : Nat → α) (a : Nat) : z_u m a (m a) = m := by
  funext b; unfold z_u; split
  · next h => rw [h]
  · rfl
theorem z_uc {α : Type} (m : Nat → α) {a b : Nat} (f g : α) (h : a ≠ b) : z_u (z_u m a f) b g = z_u (z_u m b g) a f := by
  funext c; unfold z_u
  by_cases h1 : c = a
  · by_cases h2 : c = b
    · exact absurd (h1.symm.trans h2) h
    · simp [h1, h]
  · simp [h1]
theorem z_vs {α : Type} (f : Int → α) (i : Int) (v : α) : z_v f i v i = v := if_pos rfl
theorem z_vn {α : Type} {f : Int → α} {i j : Int} {v : α} (h : j ≠ i) : z_v f i v j = f j := if_neg h
/-! what stands around: classes, addresses, the kinds of the cells -/
abbrev z_G : Type := va_G × (ClassId × ClassId × ClassId × ClassId × ClassId)
abbrev z_E : Type := z_G × (Nat → Nat) × List (Nat × Nat)
abbrev z_Q : Type := Option z_V → z_E → z_Mi → z_Mr → Prop
def z_tys (G : z_G) : List (ClassId × FieldType) := [(G.2.1, .int), (G.2.2.1, .boolean), (G.2.2.2.1, .object RX2), (G.2.2.2.2.1, .object RX0), (G.2.2.2.2.2, .object RX3)]
def z_ty (n : Nat) : Nat → FieldType := match n with
  | 0 => tyX0
  | 1 => tyX1
  | 2 => tyX2
  | 3 => tyX3
  | 4 => tyX4
  | _ => tyX5
def z_NF (n : Nat) : Nat := match n with
  | 0 => 3
  | 1 => 13
  | 2 => 3
  | 3 => 9
  | 4 => 5
  | _ => 13
def z_ref (ty : FieldType) : Bool := match ty with
  | .object _ => true
  | .array _ => true
  | _ => false
def z_fv (ty : FieldType) (x : Int) (r : Option Nat) : Value := if z_ref ty then va_rf r else .int (z_I x)
def z_fs (n : Nat) (f : Int → Int) (g : Int → Option Nat) : List Value := (List.range (z_NF n)).map fun k => z_fv (z_ty n k) (f (k : Nat)) (g (k : Nat))
def z_ce (G : z_G) (t : Nat × Nat) (f : Int → Int) (g : Int → Option Nat) : va_E :=
  if t.1 < 10 then .inr (t.1, z_fs t.1 f g)
  else if t.1 = 10 then .inl (G.2.1, t.2, .inl fun j => z_I (f (j : Nat)))
  else if t.1 = 11 then .inl (G.2.2.1, t.2, .inl fun j => z_I (f (j : Nat)))
  else if t.1 = 12 then .inl (G.2.2.2.1, t.2, .inr (.inr (.inr (.inr fun j => g (j : Nat)))))
  else if t.1 = 13 then .inl (G.2.2.2.2.1, t.2, .inr (.inr (.inr (.inr fun j => g (j : Nat)))))
  else .inl (G.2.2.2.2.2, t.2, .inr (.inr (.inr (.inr fun j => g (j : Nat)))))
def z_mp (al : Nat → Nat) (g : Int → Option Nat) : Int → Option Nat := fun k => (g k).map al
def z_W (E : z_E) (mi : z_Mi) (mr : z_Mr) : va_W := E.2.2.zipIdx.map fun p => (E.2.1 p.2, z_ce E.1 p.1 (mi p.2) (z_mp E.2.1 (mr p.2)))
theorem z_W_get {E : z_E} {mi : z_Mi} {mr : z_Mr} {i : Nat} {t : Nat × Nat} (h : E.2.2[i]? = some t) : (z_W E mi mr)[i]? = some (E.2.1 i, z_ce E.1 t (mi i) (z_mp E.2.1 (mr i))) := by
  simp [z_W, List.getElem?_map, List.getElem?_zipIdx, h]
theorem z_W_none {E : z_E} {mi : z_Mi} {mr : z_Mr} {i : Nat} (h : E.2.2[i]? = none) : (z_W E mi mr)[i]? = none := by
  simp only [z_W, List.getElem?_map, List.getElem?_zipIdx, h, Option.map_none]
theorem z_W_set {E : z_E} {mi : z_Mi} {mr : z_Mr} {a : Nat} {t : Nat × Nat} (f : Int → Int) (g : Int → Option Nat) (h : E.2.2[a]? = some t) :
    (z_W E mi mr).set a (E.2.1 a, z_ce E.1 t f (z_mp E.2.1 g)) = z_W E (z_u mi a f) (z_u mr a g) := by
  apply List.ext_getElem?
  intro i
  by_cases hi : i = a
  · subst hi
    have hl : i < (z_W E mi mr).length := (List.getElem?_eq_some_iff.mp (z_W_get (mi := mi) (mr := mr) h)).1
    rw [List.getElem?_set_self hl, z_W_get h, z_us, z_us]
  · rw [List.getElem?_set_ne (Ne.symm hi)]
    cases ht : E.2.2[i]? with
    | none => rw [z_W_none ht, z_W_none ht]
    | some t' => rw [z_W_get ht, z_W_get ht, z_un hi, z_un hi]
def z_P (E : z_E) (mi : z_Mi) (mr : z_Mr) (H : Heap) : Prop := va_P E.1.1 vwCl (z_W E mi mr) H ∧ ∀ (i : Nat) (k : Int) (j : Nat), i < E.2.2.length → mr i k = some j → j < E.2.2.length
abbrev z_af (b0 : Nat) : Nat → Prop := fun q => b0 ≤ q
/-! locals -/
def z_L (al : Nat → Nat) : Nat → List (Option z_V) → List (Nat × Value)
  | _, [] => []
  | i, none :: t => z_L al (i + 1) t
  | i, some v :: t => (i, z_cv al v) :: z_L al (i + 1) t
theorem z_L_mem (al : Nat → Nat) (ls : List (Option z_V)) : ∀ (i : Nat) (q : Nat × Value), q ∈ z_L al i ls ↔ ∃ (j : Nat) (v : z_V), ls[j]? = some (some v) ∧ q = (i + j, z_cv al v) := by
  induction ls with
  | nil => intro i q; simp [z_L]
  | cons a t ih =>
    intro i q
    have hs : (∃ (j : Nat) (v : z_V), (a :: t)[j]? = some (some v) ∧ q = (i + j, z_cv al v)) ↔ (∃ v, a = some v ∧ q = (i, z_cv al v)) ∨ ∃ (j : Nat) (v : z_V), t[j]? = some (some v) ∧ q = (i + 1 + j, z_cv al v) := by
      constructor
      · rintro ⟨j, v, h1, h2⟩
        cases j with
        | zero => exact Or.inl ⟨v, by simpa using h1, by simpa using h2⟩
        | succ j => exact Or.inr ⟨j, v, by simpa using h1, by rw [h2]; congr 1; omega⟩
      · rintro (⟨v, h1, h2⟩ | ⟨j, v, h1, h2⟩)
        · exact ⟨0, v, by simp [h1], by simpa using h2⟩
        · exact ⟨j + 1, v, by simpa using h1, by rw [h2]; congr 1; omega⟩
    rw [hs]
    cases a with
    | none =>
      show q ∈ z_L al (i + 1) t ↔ _
      rw [ih]
      simp
    | some v =>
      show q ∈ (i, z_cv al v) :: z_L al (i + 1) t ↔ _
      rw [List.mem_cons, ih]
      simp
theorem z_L_at {lsA : Array Slot} {nL : Nat} {al : Nat → Nat} {ls : List (Option z_V)} {i : Nat} {v : z_V} (h : lv_has lsA nL (z_L al 0 ls)) (hi : ls[i]? = some (some v)) : lsA[i]? = some (.val (z_cv al v)) :=
  h.2.2 (i, z_cv al v) ((z_L_mem al ls 0 _).mpr ⟨i, v, hi, by simp⟩)
theorem z_L_sub {lsA : Array Slot} {nL : Nat} {l l' : List (Nat × Value)} (h : lv_has lsA nL l) (hs : ∀ q ∈ l', q ∈ l) : lv_has lsA nL l' := ⟨h.1, h.2.1, fun q hq => h.2.2 q (hs q hq)⟩
/-- no long begins in the slot ahead -/
def z_ok (ls : List (Option z_V)) (i : Nat) : Bool := match i with
  | 0 => true
  | j + 1 => match ls[j]? with
    | some (some (.inr (.inl _))) => false
    | _ => true
theorem z_L_st1 {al : Nat → Nat} {ls : List (Option z_V)} {i : Nat} {v : z_V} (ho : z_ok ls i = true) :
    ∀ q ∈ z_L al 0 (ls.set i (some v)), q ∈ (i, z_cv al v) :: (z_L al 0 ls).filter (fun q => !(q.1 == i) && !(q.1 + 1 == i && q.2.category == 2)) := by
  intro q hq
  obtain ⟨j, w, h1, h2⟩ := (z_L_mem al _ 0 q).mp hq
  by_cases hj : j = i
  · subst hj
    have hl : j < ls.length := by
      have := (List.getElem?_eq_some_iff.mp h1).1
      simpa using this
    rw [List.getElem?_set_self hl] at h1
    cases h1
    rw [h2]; simp
  · rw [List.getElem?_set_ne (Ne.symm hj)] at h1
    refine List.mem_cons_of_mem _ (List.mem_filter.mpr ⟨(z_L_mem al ls 0 q).mpr ⟨j, w, h1, h2⟩, ?_⟩)
    rw [h2]
    simp only [Nat.zero_add, z_cat_eq]
    have hn : ¬ (j + 1 = i ∧ z_cat w = 2) := by
      rintro ⟨e1, e2⟩
      subst e1
      unfold z_ok at ho
      simp only [h1] at ho
      rcases w with x | y | r
      · exact absurd (show (1 : Nat) = 2 from e2) (by decide)
      · exact absurd (show (false : Bool) = true from ho) (by decide)
      · exact absurd (show (1 : Nat) = 2 from e2) (by decide)
    have : (j == i) = false := by simpa using hj
    rw [this]
    by_cases h3 : j + 1 = i
    · have h4 : ¬ z_cat w = 2 := fun h => hn ⟨h3, h⟩
      simp [h4]
    · simp [h3]
theorem z_L_st2 {al : Nat → Nat} {ls : List (Option z_V)} {i : Nat} {v : z_V} (ho : z_ok ls i = true) :
    ∀ q ∈ z_L al 0 ((ls.set i (some v)).set (i + 1) none), q ∈ (i, z_cv al v) :: (z_L al 0 ls).filter (fun q => !(q.1 == i) && (!(q.1 == i + 1) && !(q.1 + 1 == i && q.2.category == 2))) := by
  intro q hq
  obtain ⟨j, w, h1, h2⟩ := (z_L_mem al _ 0 q).mp hq
  by_cases hj1 : j = i + 1
  · subst hj1
    have hl : i + 1 < (ls.set i (some v)).length := by
      have := (List.getElem?_eq_some_iff.mp h1).1
      simpa using this
    rw [List.getElem?_set_self hl] at h1
    cases h1
  · rw [List.getElem?_set_ne (Ne.symm hj1)] at h1
    have hq1 := z_L_st1 (al := al) (v := v) ho q ((z_L_mem al _ 0 q).mpr ⟨j, w, h1, h2⟩)
    rcases List.mem_cons.mp hq1 with h | h
    · exact List.mem_cons.mpr (Or.inl h)
    · obtain ⟨h3, h4⟩ := List.mem_filter.mp h
      refine List.mem_cons_of_mem _ (List.mem_filter.mpr ⟨h3, ?_⟩)
      rw [h2] at h4 ⊢
      simp only [Nat.zero_add] at h4 ⊢
      have : (j == i + 1) = false := by simpa using hj1
      rw [this]
      simpa using h4
/-- how arguments lie in the locals -/
def z_en : List z_V → List (Option z_V)
  | [] => []
  | .inr (.inl y) :: t => some (zl y) :: none :: z_en t
  | v :: t => some v :: z_en t
theorem z_L_en (al : Nat → Nat) (n : Nat) (vs : List z_V) : ∀ i, z_L al i (z_en vs ++ List.replicate n none) = lv_args i (vs.map (z_cv al)) := by
  induction vs with
  | nil =>
    intro i
    simp only [z_en, List.nil_append, List.map_nil, lv_args]
    induction n generalizing i with
    | zero => rfl
    | succ n ih => rw [List.replicate_succ]; exact ih (i + 1)
  | cons v t ih =>
    intro i
    rcases v with x | y | r
    · show (i, z_cv al (zi x)) :: z_L al (i + 1) (z_en t ++ _) = _
      rw [ih]; rfl
    · show (i, z_cv al (zl y)) :: z_L al (i + 1 + 1) (z_en t ++ _) = _
      rw [ih]; rfl
    · show (i, z_cv al (zr r)) :: z_L al (i + 1) (z_en t ++ _) = _
      rw [ih]
      cases r <;> rfl
theorem z_sl_len (al : Nat → Nat) (vs : List z_V) : (lg_sl (vs.map (z_cv al))).length = (vs.map z_cat).sum := by
  induction vs with
  | nil => rfl
  | cons v t ih =>
    have e : (lg_sl ((v :: t).map (z_cv al))).length = (if (z_cv al v).category = 2 then [Slot.val (z_cv al v), .second] else [.val (z_cv al v)]).length + (lg_sl (t.map (z_cv al))).length := by
      simp [lg_sl]
    rw [e, ih, z_cat_eq, List.map_cons, List.sum_cons]
    rcases v with x | y | r
    · rfl
    · rfl
    · rfl
/-! THE JUDGEMENT -/
def z_ri (v : Option z_V) : Instr := match v with
  | none => .return_
  | some (.inl _) => .ireturn
  | some (.inr (.inl _)) => .lreturn
  | some (.inr (.inr _)) => .areturn
def z_rc (ret : Option FieldType) (v : Option z_V) : Prop := match v with
  | none => ret = none
  | some (.inl x) => ret = some .int ∨ (ret = some .boolean ∧ (x = 0 ∨ x = 1))
  | some (.inr (.inl _)) => ret = some .long
  | some (.inr (.inr _)) => ∃ n, ret = some (.object n)
def z_C (M : z_M) (b0 : Nat) (G : z_G) (p : Program) (s : State) (m : MethodId) (args : Array Value) (meth : Method) (c : Code) : Prop :=
  p.tables.exec = Jvm.exec ∧ c.code = z_mc M ∧ c.maxLocals = z_mn M ∧ s.vm.findClass (z_my M).cls = some m.cls ∧ (∀ w ∈ z_WG, w.before args s = true) ∧ (∀ w ∈ z_WN, va_Nw w s) ∧ va_K G.1 vwCl (z_tys G) s ∧ b0 ≤ s.heap.size ∧ meth.name = (z_my M).name ∧ z_mE M s b0
def z_K (M : z_M) (b0 : Nat) (G : z_G) (p : Program) (l : Launch) (e : Env) (s : State) (m : MethodId) (args : Array Value) (below : List Frame) (meth : Method) (c : Code) (Q : z_Q) (Qm : State → Prop) : Prop :=
  ∀ (v : Option z_V) (E : z_E) (mi : z_Mi) (mr : z_Mr) (H : Heap) (locs : List Loc) (kc ks pc : Nat) (lsA : Array Slot), Q v E mi mr → E.1 = G → z_P E mi mr H → va_D (z_af b0) (z_W E mi mr) → va_S (z_af b0) s.heap H locs → z_rc (z_mr M) v → decode (z_mc M) pc = .ok (z_ri v, 1) → kc ≤ (z_mR M).cells → ks ≤ (z_mR M).slots →
    W p l e (z_mR M) s m args below meth c H locs kc ks Qm (F0 m pc lsA (v.toList.map (z_cv E.2.1)))
def z_A (M : z_M) (E : z_E) (kc ks pc : Nat) (ls : List (Option z_V)) (st : List z_V) (mi : z_Mi) (mr : z_Mr) (Q : z_Q) : Prop :=
  ∀ (b0 : Nat) (p : Program) (l : Launch) (e : Env) (s : State) (m : MethodId) (args : Array Value) (below : List Frame) (meth : Method) (c : Code) (H : Heap) (locs : List Loc) (lsA : Array Slot) (Qm : State → Prop),
    z_C M b0 E.1 p s m args meth c → z_P E mi mr H → va_D (z_af b0) (z_W E mi mr) → va_S (z_af b0) s.heap H locs → lv_has lsA (z_mn M) (z_L E.2.1 0 ls) → z_K M b0 E.1 p l e s m args below meth c Q Qm →
    W p l e (z_mR M) s m args below meth c H locs kc ks Qm (F0 m pc lsA (st.map (z_cv E.2.1)))
/-! contracts -/
def z_ws (M : z_M) : List Cond := Cond.code (z_my M) (z_mc M) (z_mn M) (z_mr M) :: z_WG
def z_pc (b0 : Nat) (E : z_E) (mi : z_Mi) (mr : z_Mr) (U : State) : Prop := b0 ≤ U.heap.size ∧ z_P E mi mr U.heap ∧ va_K E.1.1 vwCl (z_tys E.1) U ∧ (∀ w ∈ z_WN, va_Nw w U) ∧ va_D (z_af b0) (z_W E mi mr)
def z_qc (b0 : Nat) (G : z_G) (Q : z_Q) : Array Value → State → Outcome → State → Prop := fun _ st oc t =>
  (∃ (v : Option z_V) (E : z_E) (mi : z_Mi) (mr : z_Mr), E.1 = G ∧ oc = .returned (v.map (z_cv E.2.1)) ∧ Q v E mi mr ∧ z_P E mi mr t.heap ∧ va_D (z_af b0) (z_W E mi mr)) ∧ va_F (z_af b0) st t
def z_ct (M : z_M) (E : z_E) (as : List z_V) (mi : z_Mi) (mr : z_Mr) (Q : z_Q) : Prop :=
  ∀ (l : Launch) (b0 : Nat), Met l (z_my M) (z_ws M) (z_mR M) (va_Pc (as.map (z_cv E.2.1)) (z_pc b0 E mi mr)) (z_qc b0 E.1 Q) (z_mR M).cells (z_mR M).slots (z_af b0)
theorem z_Nw_same {w : Cond} (hw : w ∈ z_WN) {u U : State} (h : u.vm = U.vm) (hZ : va_Nw w u) : va_Nw w U := by
  have hn : z_nest w = true := (List.mem_filter.mp hw).2
  cases w <;> first | (simp [z_nest] at hn; done) | skip
  · exact va_Nw.same rfl h hZ
  · exact va_Nw.same rfl h hZ
  · rename_i ty
    cases ty <;> first | (simp [z_nest] at hn; done) | skip
    exact va_AO.moved (by rw [h]; exact Vm.Alike.refl _) hZ
theorem z_Nw_warm {w : Cond} (hw : w ∈ z_WN) {s U : State} (h : s.WarmedH U.vm) (hZ : va_Nw w s) : va_Nw w U := by
  have hn : z_nest w = true := (List.mem_filter.mp hw).2
  cases w <;> first | (simp [z_nest] at hn; done) | skip
  · exact va_Nw.warmM h hZ
  · exact va_Nw.warmF h hZ
  · rename_i ty
    cases ty <;> first | (simp [z_nest] at hn; done) | skip
    exact va_AO.moved h.alike hZ
end
section
theorem z_lay_0 : ∀ w ∈ u_ws RX0 TX0 3, w ∈ z_WG := by
  intro w hw
  obtain ⟨k, hk, rfl⟩ := List.mem_map.mp hw
  have hk := List.mem_range.mp hk
  match k, hk with
  | 0, _ => exact z_tab 42 (by decide +kernel) rfl
  | 1, _ => exact z_tab 44 (by decide +kernel) rfl
  | 2, _ => exact z_tab 46 (by decide +kernel) rfl
  | k + 3, hk => omega
theorem z_lay_1 : ∀ w ∈ u_ws RX1 TX1 13, w ∈ z_WG := by
  intro w hw
  obtain ⟨k, hk, rfl⟩ := List.mem_map.mp hw
  have hk := List.mem_range.mp hk
  match k, hk with
  | 0, _ => exact z_tab 136 (by decide +kernel) rfl
  | 1, _ => exact z_tab 138 (by decide +kernel) rfl
  | 2, _ => exact z_tab 140 (by decide +kernel) rfl
  | 3, _ => exact z_tab 142 (by decide +kernel) rfl
  | 4, _ => exact z_tab 144 (by decide +kernel) rfl
  | 5, _ => exact z_tab 146 (by decide +kernel) rfl
  | 6, _ => exact z_tab 148 (by decide +kernel) rfl
  | 7, _ => exact z_tab 150 (by decide +kernel) rfl
  | 8, _ => exact z_tab 152 (by decide +kernel) rfl
  | 9, _ => exact z_tab 154 (by decide +kernel) rfl
  | 10, _ => exact z_tab 156 (by decide +kernel) rfl
  | 11, _ => exact z_tab 158 (by decide +kernel) rfl
  | 12, _ => exact z_tab 160 (by decide +kernel) rfl
  | k + 13, hk => omega
theorem z_lay_2 : ∀ w ∈ u_ws RX2 TX2 3, w ∈ z_WG := by
  intro w hw
  obtain ⟨k, hk, rfl⟩ := List.mem_map.mp hw
  have hk := List.mem_range.mp hk
  match k, hk with
  | 0, _ => exact z_tab 68 (by decide +kernel) rfl
  | 1, _ => exact z_tab 70 (by decide +kernel) rfl
  | 2, _ => exact z_tab 72 (by decide +kernel) rfl
  | k + 3, hk => omega
theorem z_lay_3 : ∀ w ∈ u_ws RX3 TX3 9, w ∈ z_WG := by
  intro w hw
  obtain ⟨k, hk, rfl⟩ := List.mem_map.mp hw
  have hk := List.mem_range.mp hk
  match k, hk with
  | 0, _ => exact z_tab 96 (by decide +kernel) rfl
  | 1, _ => exact z_tab 98 (by decide +kernel) rfl
  | 2, _ => exact z_tab 100 (by decide +kernel) rfl
  | 3, _ => exact z_tab 102 (by decide +kernel) rfl
  | 4, _ => exact z_tab 104 (by decide +kernel) rfl
  | 5, _ => exact z_tab 106 (by decide +kernel) rfl
  | 6, _ => exact z_tab 108 (by decide +kernel) rfl
  | 7, _ => exact z_tab 110 (by decide +kernel) rfl
  | 8, _ => exact z_tab 112 (by decide +kernel) rfl
  | k + 9, hk => omega
theorem z_lay_4 : ∀ w ∈ u_ws RX4 TX4 5, w ∈ z_WG := by
  intro w hw
  obtain ⟨k, hk, rfl⟩ := List.mem_map.mp hw
  have hk := List.mem_range.mp hk
  match k, hk with
  | 0, _ => exact z_tab 168 (by decide +kernel) rfl
  | 1, _ => exact z_tab 170 (by decide +kernel) rfl
  | 2, _ => exact z_tab 172 (by decide +kernel) rfl
  | 3, _ => exact z_tab 174 (by decide +kernel) rfl
  | 4, _ => exact z_tab 176 (by decide +kernel) rfl
  | k + 5, hk => omega
theorem z_lay_5 : ∀ w ∈ u_ws RX5 TX5 13, w ∈ z_WG := by
  intro w hw
  obtain ⟨k, hk, rfl⟩ := List.mem_map.mp hw
  have hk := List.mem_range.mp hk
  match k, hk with
  | 0, _ => exact z_tab 621 (by decide +kernel) rfl
  | 1, _ => exact z_tab 623 (by decide +kernel) rfl
  | 2, _ => exact z_tab 625 (by decide +kernel) rfl
  | 3, _ => exact z_tab 627 (by decide +kernel) rfl
  | 4, _ => exact z_tab 629 (by decide +kernel) rfl
  | 5, _ => exact z_tab 631 (by decide +kernel) rfl
  | 6, _ => exact z_tab 633 (by decide +kernel) rfl
  | 7, _ => exact z_tab 635 (by decide +kernel) rfl
  | 8, _ => exact z_tab 637 (by decide +kernel) rfl
  | 9, _ => exact z_tab 639 (by decide +kernel) rfl
  | 10, _ => exact z_tab 641 (by decide +kernel) rfl
  | 11, _ => exact z_tab 643 (by decide +kernel) rfl
  | 12, _ => exact z_tab 645 (by decide +kernel) rfl
  | k + 13, hk => omega
theorem z_cl {ci N : Nat} {C : String} {T : u_T} (h : vwCl[ci]? = some (C, T, N)) : ci < 6 ∧ N = z_NF ci ∧ (∀ k, k < N → parseFieldDescriptor (T k).2.2.1 = some (z_ty ci k)) ∧ (∀ a, a < N → ∀ b, b < N → a ≠ b → (T a).2.1 ≠ (T b).2.1) ∧ (∀ w ∈ u_ws C T N, w ∈ z_WG) := by
  match ci, h with
  | 0, h => cases h; exact ⟨by decide, rfl, tyX0_ok, nmX0, z_lay_0⟩
  | 1, h => cases h; exact ⟨by decide, rfl, tyX1_ok, nmX1, z_lay_1⟩
  | 2, h => cases h; exact ⟨by decide, rfl, tyX2_ok, nmX2, z_lay_2⟩
  | 3, h => cases h; exact ⟨by decide, rfl, tyX3_ok, nmX3, z_lay_3⟩
  | 4, h => cases h; exact ⟨by decide, rfl, tyX4_ok, nmX4, z_lay_4⟩
  | 5, h => cases h; exact ⟨by decide, rfl, tyX5_ok, nmX5, z_lay_5⟩
  | n + 6, h => simp [vwCl] at h
end
section
/-! from the body to the contract -/
theorem z_qc_K {E : z_E} {U V : State} (h : va_K E.1.1 vwCl (z_tys E.1) U) (hv : U.vm.Alike V.vm) : va_K E.1.1 vwCl (z_tys E.1) V := va_K.moved hv h
theorem z_ct_of {M : z_M} {E : z_E} {as : List z_V} {ls : List (Option z_V)} {mi : z_Mi} {mr : z_Mr} {Q : z_Q} (hy : plainName (z_my M).cls = true) (hE : ∀ s b0, z_mE M s b0) (hn : (as.map z_cat).sum ≤ z_mn M) (hls : z_en as ++ List.replicate (z_mn M - (as.map z_cat).sum) none = ls)
    (h : z_A M E 0 0 0 ls [] mi mr Q) : z_ct M E as mi mr Q := by
  intro l b0
  refine Met.ofW (cc := z_mc M) (maxL := z_mn M) (ret := z_mr M) hy rfl ?_
  intro p e s m args below meth c s₁ B hml hv
  obtain ⟨rfl, hb0, hP, hK, hN, hD⟩ := hv
  have hx := B.exec
  have hb := B.bytes
  have hr := B.returns
  have hts := atoms_spec (ws := z_ws M) B.pre
  have hown : s.vm.findClass (z_my M).cls = some m.cls := findClass_of_methodNamed B.named
  have hlocks := B.notSynchronized
  have hin : meth.name = (z_my M).name := (name_of_methodNamed B.named B.method).1
  have hl := lv_entry (as.map (z_cv E.2.1)) (n := z_mn M) (by rw [z_sl_len]; exact hn)
  rw [lg_entry_eq]
  generalize (lg_sl (as.map (z_cv E.2.1)) ++ List.replicate (z_mn M - (lg_sl (as.map (z_cv E.2.1))).length) Slot.unset).toArray = lsA at hl ⊢
  have hl' : lv_has lsA (z_mn M) (z_L E.2.1 0 ls) := by rw [← hls, z_L_en]; exact hl
  refine h b0 p l e s m _ below meth c s.heap [] lsA _ ⟨hx, hb, hml, hown, fun w hw => hts w (List.mem_cons_of_mem _ hw), hN, hK, hb0, hin, hE s b0⟩ hP hD va_S.rf hl' ?_
  intro v E' mi' mr' H' locs' kc' ks' pc' lsA' hQ hG hP' hD' hS' hc hd h1 h2
  refine W.widen h1 h2 ?_
  have hq : ∀ (o : Option Value) (t : State), o = v.map (z_cv E'.2.1) → t.heap = H' → z_qc b0 E.1 Q (as.map (z_cv E.2.1)).toArray s (.returned o) t := fun o t ho ht => ⟨⟨v, E', mi', mr', hG, by rw [ho], hQ, by rw [ht]; exact hP', hD'⟩, hS'.F ht⟩
  cases v with
  | none => exact W.vret hx hb (hr.trans hc) (fun t ht _ => hq none t rfl ht) hS'.2.2 hd
  | some v =>
    rcases v with x | y | r
    · rcases hc with hc | ⟨hc, h0⟩
      · exact W.iret hx hb (hr.trans hc) (fun t ht _ => hq _ t rfl ht) hS'.2.2 hd
      · refine W.zret hx hb (hr.trans hc) ?_ (fun t ht _ => hq _ t rfl ht) hS'.2.2 hd
        rcases h0 with rfl | rfl <;> decide +kernel
    · exact W.lret hx hb (hr.trans hc) (fun t ht _ => hq _ t rfl ht) hS'.2.2 hd
    · obtain ⟨n, hc⟩ := hc
      refine W.aret hx hb (hr.trans hc) (Or.inl ⟨n, rfl⟩) ?_ (fun t ht _ => hq _ t rfl ht) hS'.2.2 hd
      cases r with
      | none => exact Or.inl rfl
      | some r => exact Or.inr ⟨_, rfl⟩
section ZROWS
variable {M : z_M} {E : z_E} {kc ks pc n tgt : Nat} {off : Int} {ls : List (Option z_V)} {st : List z_V} {mi : z_Mi} {mr : z_Mr} {Q : z_Q}
theorem z_iconst {x : Int} (hd : z_D 1 M pc n (.iconst x)) (k : z_A M E kc ks n ls (zi x :: st) mi mr Q) : z_A M E kc ks pc ls st mi mr Q := by
  intro b0 p l e s m args below meth c H locs lsA Qm hC hP hD hS hL hK
  obtain ⟨hd, rfl⟩ := hd
  exact lv_iconst hC.1 hC.2.1 hd rfl (k b0 p l e s m args below meth c H locs lsA Qm hC hP hD hS hL hK)
theorem z_bipush {x : Int} (hd : z_D 2 M pc n (.bipush x)) (hx : (Int8.ofInt x).toInt32 = z_I x) (k : z_A M E kc ks n ls (zi x :: st) mi mr Q) : z_A M E kc ks pc ls st mi mr Q := by
  intro b0 p l e s m args below meth c H locs lsA Qm hC hP hD hS hL hK
  obtain ⟨hd, rfl⟩ := hd
  exact lv_bipush hC.1 hC.2.1 hd hx (k b0 p l e s m args below meth c H locs lsA Qm hC hP hD hS hL hK)
theorem z_sipush {x : Int} (hd : z_D 3 M pc n (.sipush x)) (hx : (Int16.ofInt x).toInt32 = z_I x) (k : z_A M E kc ks n ls (zi x :: st) mi mr Q) : z_A M E kc ks pc ls st mi mr Q := by
  intro b0 p l e s m args below meth c H locs lsA Qm hC hP hD hS hL hK
  obtain ⟨hd, rfl⟩ := hd
  exact lv_sipush hC.1 hC.2.1 hd hx (k b0 p l e s m args below meth c H locs lsA Qm hC hP hD hS hL hK)
theorem z_ldc2 {idx : Nat} {x : Int64} (hd : z_D 3 M pc n (.ldc2_w idx)) (hw : Cond.constantLong (z_my M).cls idx x ∈ z_WG) (k : z_A M E kc ks n ls (zl x :: st) mi mr Q) : z_A M E kc ks pc ls st mi mr Q := by
  intro b0 p l e s m args below meth c H locs lsA Qm hC hP hD hS hL hK
  obtain ⟨hd, rfl⟩ := hd
  exact lv_ldc2 hC.1 hC.2.1 hC.2.2.2.1 (hC.2.2.2.2.1 _ hw) hd (k b0 p l e s m args below meth c H locs lsA Qm hC hP hD hS hL hK)
theorem z_iload_n {i : Fin 4} {x : Int} (hd : z_D 1 M pc n (.iload_n i)) (hl : ls[(i : Nat)]? = some (some (zi x))) (k : z_A M E kc ks n ls (zi x :: st) mi mr Q) : z_A M E kc ks pc ls st mi mr Q := by
  intro b0 p l e s m args below meth c H locs lsA Qm hC hP hD hS hL hK
  obtain ⟨hd, rfl⟩ := hd
  exact lv_iload_n hC.1 hC.2.1 hd rfl (z_L_at hL hl) (k b0 p l e s m args below meth c H locs lsA Qm hC hP hD hS hL hK)
theorem z_iload {i : Nat} {x : Int} (hd : z_D 2 M pc n (.iload i)) (hl : ls[i]? = some (some (zi x))) (k : z_A M E kc ks n ls (zi x :: st) mi mr Q) : z_A M E kc ks pc ls st mi mr Q := by
  intro b0 p l e s m args below meth c H locs lsA Qm hC hP hD hS hL hK
  obtain ⟨hd, rfl⟩ := hd
  exact lv_iload hC.1 hC.2.1 hd (z_L_at hL hl) (k b0 p l e s m args below meth c H locs lsA Qm hC hP hD hS hL hK)
theorem z_lload_n {i : Fin 4} {x : Int64} (hd : z_D 1 M pc n (.lload_n i)) (hl : ls[(i : Nat)]? = some (some (zl x))) (k : z_A M E kc ks n ls (zl x :: st) mi mr Q) : z_A M E kc ks pc ls st mi mr Q := by
  intro b0 p l e s m args below meth c H locs lsA Qm hC hP hD hS hL hK
  obtain ⟨hd, rfl⟩ := hd
  exact lv_lload_n hC.1 hC.2.1 hd rfl (z_L_at hL hl) (k b0 p l e s m args below meth c H locs lsA Qm hC hP hD hS hL hK)
theorem z_aload_n {i : Fin 4} {a : Nat} (hd : z_D 1 M pc n (.aload_n i)) (hl : ls[(i : Nat)]? = some (some (zo a))) (k : z_A M E kc ks n ls (zo a :: st) mi mr Q) : z_A M E kc ks pc ls st mi mr Q := by
  intro b0 p l e s m args below meth c H locs lsA Qm hC hP hD hS hL hK
  obtain ⟨hd, rfl⟩ := hd
  exact lv_aload_n hC.1 hC.2.1 hd rfl (z_L_at hL hl) (k b0 p l e s m args below meth c H locs lsA Qm hC hP hD hS hL hK)
theorem z_aload {i a : Nat} (hd : z_D 2 M pc n (.aload i)) (hl : ls[i]? = some (some (zo a))) (k : z_A M E kc ks n ls (zo a :: st) mi mr Q) : z_A M E kc ks pc ls st mi mr Q := by
  intro b0 p l e s m args below meth c H locs lsA Qm hC hP hD hS hL hK
  obtain ⟨hd, rfl⟩ := hd
  exact lv_aload hC.1 hC.2.1 hd (z_L_at hL hl) (k b0 p l e s m args below meth c H locs lsA Qm hC hP hD hS hL hK)
theorem z_istore_n {i : Fin 4} {x : Int} {ls' : List (Option z_V)} (hd : z_D 1 M pc n (.istore_n i)) (hi : Nat.ble ((i : Nat) + 1) (z_mn M) = true) (ho : z_ok ls (i : Nat) = true) (he : ls.set (i : Nat) (some (zi x)) = ls') (k : z_A M E kc ks n ls' st mi mr Q) : z_A M E kc ks pc ls (zi x :: st) mi mr Q := by
  intro b0 p l e s m args below meth c H locs lsA Qm hC hP hD hS hL hK
  obtain ⟨hd, rfl⟩ := hd
  subst he
  exact lv_istore_n hC.1 hC.2.1 hd rfl hL (Nat.le_of_ble_eq_true hi) rfl (fun lsB hB => k b0 p l e s m args below meth c H locs lsB Qm hC hP hD hS (z_L_sub hB (z_L_st1 ho)) hK)
theorem z_istore {i : Nat} {x : Int} {ls' : List (Option z_V)} (hd : z_D 2 M pc n (.istore i)) (hi : Nat.ble (i + 1) (z_mn M) = true) (ho : z_ok ls i = true) (he : ls.set i (some (zi x)) = ls') (k : z_A M E kc ks n ls' st mi mr Q) : z_A M E kc ks pc ls (zi x :: st) mi mr Q := by
  intro b0 p l e s m args below meth c H locs lsA Qm hC hP hD hS hL hK
  obtain ⟨hd, rfl⟩ := hd
  subst he
  exact lv_istore hC.1 hC.2.1 hd hL (Nat.le_of_ble_eq_true hi) rfl (fun lsB hB => k b0 p l e s m args below meth c H locs lsB Qm hC hP hD hS (z_L_sub hB (z_L_st1 ho)) hK)
theorem z_astore_n {i : Fin 4} {a : Nat} {ls' : List (Option z_V)} (hd : z_D 1 M pc n (.astore_n i)) (hi : Nat.ble ((i : Nat) + 1) (z_mn M) = true) (ho : z_ok ls (i : Nat) = true) (he : ls.set (i : Nat) (some (zo a)) = ls') (k : z_A M E kc ks n ls' st mi mr Q) : z_A M E kc ks pc ls (zo a :: st) mi mr Q := by
  intro b0 p l e s m args below meth c H locs lsA Qm hC hP hD hS hL hK
  obtain ⟨hd, rfl⟩ := hd
  subst he
  exact lv_astore_n hC.1 hC.2.1 hd rfl hL (Nat.le_of_ble_eq_true hi) rfl (fun lsB hB => k b0 p l e s m args below meth c H locs lsB Qm hC hP hD hS (z_L_sub hB (z_L_st1 (v := zo a) ho)) hK)
theorem z_astore {i a : Nat} {ls' : List (Option z_V)} (hd : z_D 2 M pc n (.astore i)) (hi : Nat.ble (i + 1) (z_mn M) = true) (ho : z_ok ls i = true) (he : ls.set i (some (zo a)) = ls') (k : z_A M E kc ks n ls' st mi mr Q) : z_A M E kc ks pc ls (zo a :: st) mi mr Q := by
  intro b0 p l e s m args below meth c H locs lsA Qm hC hP hD hS hL hK
  obtain ⟨hd, rfl⟩ := hd
  subst he
  exact lv_astore hC.1 hC.2.1 hd hL (Nat.le_of_ble_eq_true hi) rfl (fun lsB hB => k b0 p l e s m args below meth c H locs lsB Qm hC hP hD hS (z_L_sub hB (z_L_st1 (v := zo a) ho)) hK)
theorem z_lstore_n {i : Fin 4} {x : Int64} {ls' : List (Option z_V)} (hd : z_D 1 M pc n (.lstore_n i)) (hi : Nat.ble ((i : Nat) + 2) (z_mn M) = true) (ho : z_ok ls (i : Nat) = true) (he : (ls.set (i : Nat) (some (zl x))).set ((i : Nat) + 1) none = ls') (k : z_A M E kc ks n ls' st mi mr Q) : z_A M E kc ks pc ls (zl x :: st) mi mr Q := by
  intro b0 p l e s m args below meth c H locs lsA Qm hC hP hD hS hL hK
  obtain ⟨hd, rfl⟩ := hd
  subst he
  exact lv_lstore_n hC.1 hC.2.1 hd rfl hL (Nat.le_of_ble_eq_true hi) rfl (fun lsB hB => k b0 p l e s m args below meth c H locs lsB Qm hC hP hD hS (z_L_sub hB (z_L_st2 (v := zl x) ho)) hK)
theorem z_iinc {i : Nat} {d x y : Int} {ls' : List (Option z_V)} (hd : z_D 3 M pc n (.iinc i d)) (hl : ls[i]? = some (some (zi x))) (hi : Nat.ble (i + 1) (z_mn M) = true) (ho : z_ok ls i = true) (hy : x + d = y) (he : ls.set i (some (zi y)) = ls') (k : z_A M E kc ks n ls' st mi mr Q) : z_A M E kc ks pc ls st mi mr Q := by
  intro b0 p l e s m args below meth c H locs lsA Qm hC hP hD hS hL hK
  obtain ⟨hd, rfl⟩ := hd
  subst he
  subst hy
  obtain ⟨j, hj⟩ := List.getElem?_of_mem ((z_L_mem E.2.1 ls 0 (i, z_cv E.2.1 (zi x))).mpr ⟨i, zi x, hl, by simp⟩)
  exact lv_iinc (v := z_I (x + d)) hC.1 hC.2.1 hd hL hj (z_I_add x d) (Nat.le_of_ble_eq_true hi) rfl (fun lsB hB => k b0 p l e s m args below meth c H locs lsB Qm hC hP hD hS (z_L_sub hB (z_L_st1 (v := zi (x + d)) ho)) hK)
theorem z_iadd {a b : Int} (hd : z_D 1 M pc n .iadd) (k : z_A M E kc ks n ls (zi (a + b) :: st) mi mr Q) : z_A M E kc ks pc ls (zi b :: zi a :: st) mi mr Q := by
  intro b0 p l e s m args below meth c H locs lsA Qm hC hP hD hS hL hK
  obtain ⟨hd, rfl⟩ := hd
  have k1 := k b0 p l e s m args below meth c H locs lsA Qm hC hP hD hS hL hK
  refine lv_iadd hC.1 hC.2.1 hd ?_
  rw [z_I_add]; exact k1
theorem z_isub {a b : Int} (hd : z_D 1 M pc n .isub) (k : z_A M E kc ks n ls (zi (a - b) :: st) mi mr Q) : z_A M E kc ks pc ls (zi b :: zi a :: st) mi mr Q := by
  intro b0 p l e s m args below meth c H locs lsA Qm hC hP hD hS hL hK
  obtain ⟨hd, rfl⟩ := hd
  have k1 := k b0 p l e s m args below meth c H locs lsA Qm hC hP hD hS hL hK
  refine lv_isub hC.1 hC.2.1 hd ?_
  rw [z_I_sub]; exact k1
theorem z_imul {a b : Int} (hd : z_D 1 M pc n .imul) (k : z_A M E kc ks n ls (zi (a * b) :: st) mi mr Q) : z_A M E kc ks pc ls (zi b :: zi a :: st) mi mr Q := by
  intro b0 p l e s m args below meth c H locs lsA Qm hC hP hD hS hL hK
  obtain ⟨hd, rfl⟩ := hd
  have k1 := k b0 p l e s m args below meth c H locs lsA Qm hC hP hD hS hL hK
  refine lv_imul hC.1 hC.2.1 hd ?_
  rw [z_I_mul]; exact k1
theorem z_idiv {a b : Int} (hd : z_D 1 M pc n .idiv) (ha : 0 ≤ a) (hb : 0 < b) (h1 : z_R a) (h2 : z_R b) (k : z_A M E kc ks n ls (zi (a / b) :: st) mi mr Q) : z_A M E kc ks pc ls (zi b :: zi a :: st) mi mr Q := by
  intro b0 p l e s m args below meth c H locs lsA Qm hC hP hD hS hL hK
  obtain ⟨hd, rfl⟩ := hd
  have k1 := k b0 p l e s m args below meth c H locs lsA Qm hC hP hD hS hL hK
  refine lv_idiv hC.1 hC.2.1 hd (fun h => ?_) ?_
  · have := congrArg Int32.toInt h
    rw [z_I_toInt h2, Int32.toInt_zero] at this
    omega
  · rw [z_I_div ha hb h1 h2]; exact k1
theorem z_irem {a b : Int} (hd : z_D 1 M pc n .irem) (ha : 0 ≤ a) (hb : 0 < b) (h1 : z_R a) (h2 : z_R b) (k : z_A M E kc ks n ls (zi (a % b) :: st) mi mr Q) : z_A M E kc ks pc ls (zi b :: zi a :: st) mi mr Q := by
  intro b0 p l e s m args below meth c H locs lsA Qm hC hP hD hS hL hK
  obtain ⟨hd, rfl⟩ := hd
  have k1 := k b0 p l e s m args below meth c H locs lsA Qm hC hP hD hS hL hK
  refine lv_irem hC.1 hC.2.1 hd (fun h => ?_) ?_
  · have := congrArg Int32.toInt h
    rw [z_I_toInt h2, Int32.toInt_zero] at this
    omega
  · rw [z_I_rem ha hb h1 h2]; exact k1
theorem z_ineg {a : Int} (hd : z_D 1 M pc n .ineg) (k : z_A M E kc ks n ls (zi (-a) :: st) mi mr Q) : z_A M E kc ks pc ls (zi a :: st) mi mr Q := by
  intro b0 p l e s m args below meth c H locs lsA Qm hC hP hD hS hL hK
  obtain ⟨hd, rfl⟩ := hd
  have k1 := k b0 p l e s m args below meth c H locs lsA Qm hC hP hD hS hL hK
  refine lv_ineg hC.1 hC.2.1 hd ?_
  rw [z_I_neg]; exact k1
theorem z_iand31 {a : Int} (hd : z_D 1 M pc n .iand) (k : ∀ j : Int, 0 ≤ j → j < 32 → z_A M E kc ks n ls (zi j :: st) mi mr Q) : z_A M E kc ks pc ls (zi 31 :: zi a :: st) mi mr Q := by
  intro b0 p l e s m args below meth c H locs lsA Qm hC hP hD hS hL hK
  obtain ⟨hd, rfl⟩ := hd
  refine lv_iand hC.1 hC.2.1 hd ?_
  obtain ⟨j, hj, he⟩ := pk_andE (z_I a) (m := z_I 31) 5 (by decide +kernel)
  rw [he, ← z_I_nat]
  exact k (j : Int) (by omega) (by omega) b0 p l e s m args below meth c H locs lsA Qm hC hP hD hS hL hK
theorem z_i2l {a : Int} (hd : z_D 1 M pc n .i2l) (k : z_A M E kc ks n ls (zl (z_I a).toInt64 :: st) mi mr Q) : z_A M E kc ks pc ls (zi a :: st) mi mr Q := by
  intro b0 p l e s m args below meth c H locs lsA Qm hC hP hD hS hL hK
  obtain ⟨hd, rfl⟩ := hd
  exact lv_i2l hC.1 hC.2.1 hd rfl (k b0 p l e s m args below meth c H locs lsA Qm hC hP hD hS hL hK)
theorem z_ladd {a b : Int64} (hd : z_D 1 M pc n .ladd) (k : z_A M E kc ks n ls (zl (a + b) :: st) mi mr Q) : z_A M E kc ks pc ls (zl b :: zl a :: st) mi mr Q := by
  intro b0 p l e s m args below meth c H locs lsA Qm hC hP hD hS hL hK
  obtain ⟨hd, rfl⟩ := hd
  exact lv_ladd hC.1 hC.2.1 hd (k b0 p l e s m args below meth c H locs lsA Qm hC hP hD hS hL hK)
theorem z_lmul {a b : Int64} (hd : z_D 1 M pc n .lmul) (k : z_A M E kc ks n ls (zl (a * b) :: st) mi mr Q) : z_A M E kc ks pc ls (zl b :: zl a :: st) mi mr Q := by
  intro b0 p l e s m args below meth c H locs lsA Qm hC hP hD hS hL hK
  obtain ⟨hd, rfl⟩ := hd
  exact lv_lmul hC.1 hC.2.1 hd (k b0 p l e s m args below meth c H locs lsA Qm hC hP hD hS hL hK)
/-- two longs that are the same -/
theorem z_lcmpE {a : Int64} (hd : z_D 1 M pc n .lcmp) (k : z_A M E kc ks n ls (zi 0 :: st) mi mr Q) : z_A M E kc ks pc ls (zl a :: zl a :: st) mi mr Q := by
  intro b0 p l e s m args below meth c H locs lsA Qm hC hP hD hS hL hK
  obtain ⟨hd, rfl⟩ := hd
  have k1 := k b0 p l e s m args below meth c H locs lsA Qm hC hP hD hS hL hK
  refine W.lcmp hC.1 hC.2.1 hd ?_
  have e : lg_cmp a a = z_I 0 := by
    rw [z_I_0]; simp [lg_cmp]
  rw [e]; exact k1
theorem z_dup {v : z_V} (hd : z_D 1 M pc n .dup) (hv : z_cat v = 1) (k : z_A M E kc ks n ls (v :: v :: st) mi mr Q) : z_A M E kc ks pc ls (v :: st) mi mr Q := by
  intro b0 p l e s m args below meth c H locs lsA Qm hC hP hD hS hL hK
  obtain ⟨hd, rfl⟩ := hd
  exact lv_dup hC.1 hC.2.1 hd ((z_cat_eq _ _).trans hv) (k b0 p l e s m args below meth c H locs lsA Qm hC hP hD hS hL hK)
theorem z_pop {v : z_V} (hd : z_D 1 M pc n .pop) (hv : z_cat v = 1) (k : z_A M E kc ks n ls st mi mr Q) : z_A M E kc ks pc ls (v :: st) mi mr Q := by
  intro b0 p l e s m args below meth c H locs lsA Qm hC hP hD hS hL hK
  obtain ⟨hd, rfl⟩ := hd
  exact lv_pop hC.1 hC.2.1 hd ((z_cat_eq _ _).trans hv) (k b0 p l e s m args below meth c H locs lsA Qm hC hP hD hS hL hK)
theorem z_dup2 {v w : z_V} (hd : z_D 1 M pc n .dup2) (hv : z_cat v = 1) (hw : z_cat w = 1) (k : z_A M E kc ks n ls (v :: w :: v :: w :: st) mi mr Q) : z_A M E kc ks pc ls (v :: w :: st) mi mr Q := by
  intro b0 p l e s m args below meth c H locs lsA Qm hC hP hD hS hL hK
  obtain ⟨hd, rfl⟩ := hd
  exact lv_dup2_11 hC.1 hC.2.1 hd ((z_cat_eq _ _).trans hv) ((z_cat_eq _ _).trans hw) (k b0 p l e s m args below meth c H locs lsA Qm hC hP hD hS hL hK)
theorem z_null (hd : z_D 1 M pc n .aconst_null) (k : z_A M E kc ks n ls (zr none :: st) mi mr Q) : z_A M E kc ks pc ls st mi mr Q := by
  intro b0 p l e s m args below meth c H locs lsA Qm hC hP hD hS hL hK
  obtain ⟨hd, rfl⟩ := hd
  exact lv_null hC.1 hC.2.1 hd (k b0 p l e s m args below meth c H locs lsA Qm hC hP hD hS hL hK)
theorem z_goto (hd : z_J M pc n tgt off (.goto off)) (k : z_A M E kc ks tgt ls st mi mr Q) : z_A M E kc ks pc ls st mi mr Q := by
  intro b0 p l e s m args below meth c H locs lsA Qm hC hP hD hS hL hK
  obtain ⟨hd, rfl, ht⟩ := hd
  exact lv_goto hC.1 hC.2.1 hd ht (k b0 p l e s m args below meth c H locs lsA Qm hC hP hD hS hL hK)
theorem z_ifnonnull {a : Nat} (hd : z_J M pc n tgt off (.ifnonnull off)) (k : z_A M E kc ks tgt ls st mi mr Q) : z_A M E kc ks pc ls (zo a :: st) mi mr Q := by
  intro b0 p l e s m args below meth c H locs lsA Qm hC hP hD hS hL hK
  obtain ⟨hd, rfl, ht⟩ := hd
  exact lv_ifnonnull hC.1 hC.2.1 hd ht (k b0 p l e s m args below meth c H locs lsA Qm hC hP hD hS hL hK)
theorem z_if_eq {a : Int} (hd : z_J M pc n tgt off (.ifCond .eq off)) (ha : z_R a) (kt : a = 0 → z_A M E kc ks tgt ls st mi mr Q) (kf : ¬ a = 0 → z_A M E kc ks n ls st mi mr Q) : z_A M E kc ks pc ls (zi a :: st) mi mr Q := by
  intro b0 p l e s m args below meth c H locs lsA Qm hC hP hD hS hL hK
  obtain ⟨hd, rfl, ht⟩ := hd
  have h0 := z_I_0
  have T := fun h => kt h b0 p l e s m args below meth c H locs lsA Qm hC hP hD hS hL hK
  have F := fun h => kf h b0 p l e s m args below meth c H locs lsA Qm hC hP hD hS hL hK
  have hi := z_I_eq ha z_R0
  rw [h0] at hi
  exact lv_if_eq hC.1 hC.2.1 hd ht (fun h => T (hi.mp h)) (fun h => F (fun q => h (hi.mpr q)))
theorem z_icmp_eq {a b : Int} (hd : z_J M pc n tgt off (.if_icmp .eq off)) (ha : z_R a) (hb : z_R b) (kt : a = b → z_A M E kc ks tgt ls st mi mr Q) (kf : ¬ a = b → z_A M E kc ks n ls st mi mr Q) : z_A M E kc ks pc ls (zi b :: zi a :: st) mi mr Q := by
  intro b0 p l e s m args below meth c H locs lsA Qm hC hP hD hS hL hK
  obtain ⟨hd, rfl, ht⟩ := hd
  have T := fun h => kt h b0 p l e s m args below meth c H locs lsA Qm hC hP hD hS hL hK
  have F := fun h => kf h b0 p l e s m args below meth c H locs lsA Qm hC hP hD hS hL hK
  have hi := z_I_eq ha hb
  exact lv_icmp_eq hC.1 hC.2.1 hd ht (fun h => T (hi.mp h)) (fun h => F (fun q => h (hi.mpr q)))
theorem z_if_ne {a : Int} (hd : z_J M pc n tgt off (.ifCond .ne off)) (ha : z_R a) (kt : ¬ a = 0 → z_A M E kc ks tgt ls st mi mr Q) (kf : a = 0 → z_A M E kc ks n ls st mi mr Q) : z_A M E kc ks pc ls (zi a :: st) mi mr Q := by
  intro b0 p l e s m args below meth c H locs lsA Qm hC hP hD hS hL hK
  obtain ⟨hd, rfl, ht⟩ := hd
  have h0 := z_I_0
  have T := fun h => kt h b0 p l e s m args below meth c H locs lsA Qm hC hP hD hS hL hK
  have F := fun h => kf h b0 p l e s m args below meth c H locs lsA Qm hC hP hD hS hL hK
  have hi := z_I_eq ha z_R0
  rw [h0] at hi
  exact lv_if_ne hC.1 hC.2.1 hd ht (fun h => T (fun q => h (hi.mpr q))) (fun h => F (hi.mp h))
theorem z_icmp_ne {a b : Int} (hd : z_J M pc n tgt off (.if_icmp .ne off)) (ha : z_R a) (hb : z_R b) (kt : ¬ a = b → z_A M E kc ks tgt ls st mi mr Q) (kf : a = b → z_A M E kc ks n ls st mi mr Q) : z_A M E kc ks pc ls (zi b :: zi a :: st) mi mr Q := by
  intro b0 p l e s m args below meth c H locs lsA Qm hC hP hD hS hL hK
  obtain ⟨hd, rfl, ht⟩ := hd
  have T := fun h => kt h b0 p l e s m args below meth c H locs lsA Qm hC hP hD hS hL hK
  have F := fun h => kf h b0 p l e s m args below meth c H locs lsA Qm hC hP hD hS hL hK
  have hi := z_I_eq ha hb
  exact lv_icmp_ne hC.1 hC.2.1 hd ht (fun h => T (fun q => h (hi.mpr q))) (fun h => F (hi.mp h))
theorem z_if_lt {a : Int} (hd : z_J M pc n tgt off (.ifCond .lt off)) (ha : z_R a) (kt : a < 0 → z_A M E kc ks tgt ls st mi mr Q) (kf : ¬ a < 0 → z_A M E kc ks n ls st mi mr Q) : z_A M E kc ks pc ls (zi a :: st) mi mr Q := by
  intro b0 p l e s m args below meth c H locs lsA Qm hC hP hD hS hL hK
  obtain ⟨hd, rfl, ht⟩ := hd
  have h0 := z_I_0
  have T := fun h => kt h b0 p l e s m args below meth c H locs lsA Qm hC hP hD hS hL hK
  have F := fun h => kf h b0 p l e s m args below meth c H locs lsA Qm hC hP hD hS hL hK
  have hi := z_I_lt ha z_R0
  rw [h0] at hi
  exact lv_if_lt hC.1 hC.2.1 hd ht (fun h => T (hi.mp h)) (fun h => F (fun q => h (hi.mpr q)))
theorem z_icmp_lt {a b : Int} (hd : z_J M pc n tgt off (.if_icmp .lt off)) (ha : z_R a) (hb : z_R b) (kt : a < b → z_A M E kc ks tgt ls st mi mr Q) (kf : ¬ a < b → z_A M E kc ks n ls st mi mr Q) : z_A M E kc ks pc ls (zi b :: zi a :: st) mi mr Q := by
  intro b0 p l e s m args below meth c H locs lsA Qm hC hP hD hS hL hK
  obtain ⟨hd, rfl, ht⟩ := hd
  have T := fun h => kt h b0 p l e s m args below meth c H locs lsA Qm hC hP hD hS hL hK
  have F := fun h => kf h b0 p l e s m args below meth c H locs lsA Qm hC hP hD hS hL hK
  have hi := z_I_lt ha hb
  exact lv_icmp_lt hC.1 hC.2.1 hd ht (fun h => T (hi.mp h)) (fun h => F (fun q => h (hi.mpr q)))
theorem z_if_ge {a : Int} (hd : z_J M pc n tgt off (.ifCond .ge off)) (ha : z_R a) (kt : 0 ≤ a → z_A M E kc ks tgt ls st mi mr Q) (kf : ¬ 0 ≤ a → z_A M E kc ks n ls st mi mr Q) : z_A M E kc ks pc ls (zi a :: st) mi mr Q := by
  intro b0 p l e s m args below meth c H locs lsA Qm hC hP hD hS hL hK
  obtain ⟨hd, rfl, ht⟩ := hd
  have h0 := z_I_0
  have T := fun h => kt h b0 p l e s m args below meth c H locs lsA Qm hC hP hD hS hL hK
  have F := fun h => kf h b0 p l e s m args below meth c H locs lsA Qm hC hP hD hS hL hK
  have hi := z_I_le z_R0 ha
  rw [h0] at hi
  exact lv_if_ge hC.1 hC.2.1 hd ht (fun h => T (hi.mp h)) (fun h => F (fun q => h (hi.mpr q)))
theorem z_icmp_ge {a b : Int} (hd : z_J M pc n tgt off (.if_icmp .ge off)) (ha : z_R a) (hb : z_R b) (kt : b ≤ a → z_A M E kc ks tgt ls st mi mr Q) (kf : ¬ b ≤ a → z_A M E kc ks n ls st mi mr Q) : z_A M E kc ks pc ls (zi b :: zi a :: st) mi mr Q := by
  intro b0 p l e s m args below meth c H locs lsA Qm hC hP hD hS hL hK
  obtain ⟨hd, rfl, ht⟩ := hd
  have T := fun h => kt h b0 p l e s m args below meth c H locs lsA Qm hC hP hD hS hL hK
  have F := fun h => kf h b0 p l e s m args below meth c H locs lsA Qm hC hP hD hS hL hK
  have hi := z_I_le hb ha
  exact lv_icmp_ge hC.1 hC.2.1 hd ht (fun h => T (hi.mp h)) (fun h => F (fun q => h (hi.mpr q)))
theorem z_if_gt {a : Int} (hd : z_J M pc n tgt off (.ifCond .gt off)) (ha : z_R a) (kt : 0 < a → z_A M E kc ks tgt ls st mi mr Q) (kf : ¬ 0 < a → z_A M E kc ks n ls st mi mr Q) : z_A M E kc ks pc ls (zi a :: st) mi mr Q := by
  intro b0 p l e s m args below meth c H locs lsA Qm hC hP hD hS hL hK
  obtain ⟨hd, rfl, ht⟩ := hd
  have h0 := z_I_0
  have T := fun h => kt h b0 p l e s m args below meth c H locs lsA Qm hC hP hD hS hL hK
  have F := fun h => kf h b0 p l e s m args below meth c H locs lsA Qm hC hP hD hS hL hK
  have hi := z_I_lt z_R0 ha
  rw [h0] at hi
  exact lv_if_gt hC.1 hC.2.1 hd ht (fun h => T (hi.mp h)) (fun h => F (fun q => h (hi.mpr q)))
theorem z_icmp_gt {a b : Int} (hd : z_J M pc n tgt off (.if_icmp .gt off)) (ha : z_R a) (hb : z_R b) (kt : b < a → z_A M E kc ks tgt ls st mi mr Q) (kf : ¬ b < a → z_A M E kc ks n ls st mi mr Q) : z_A M E kc ks pc ls (zi b :: zi a :: st) mi mr Q := by
  intro b0 p l e s m args below meth c H locs lsA Qm hC hP hD hS hL hK
  obtain ⟨hd, rfl, ht⟩ := hd
  have T := fun h => kt h b0 p l e s m args below meth c H locs lsA Qm hC hP hD hS hL hK
  have F := fun h => kf h b0 p l e s m args below meth c H locs lsA Qm hC hP hD hS hL hK
  have hi := z_I_lt hb ha
  exact lv_icmp_gt hC.1 hC.2.1 hd ht (fun h => T (hi.mp h)) (fun h => F (fun q => h (hi.mpr q)))
theorem z_if_le {a : Int} (hd : z_J M pc n tgt off (.ifCond .le off)) (ha : z_R a) (kt : a ≤ 0 → z_A M E kc ks tgt ls st mi mr Q) (kf : ¬ a ≤ 0 → z_A M E kc ks n ls st mi mr Q) : z_A M E kc ks pc ls (zi a :: st) mi mr Q := by
  intro b0 p l e s m args below meth c H locs lsA Qm hC hP hD hS hL hK
  obtain ⟨hd, rfl, ht⟩ := hd
  have h0 := z_I_0
  have T := fun h => kt h b0 p l e s m args below meth c H locs lsA Qm hC hP hD hS hL hK
  have F := fun h => kf h b0 p l e s m args below meth c H locs lsA Qm hC hP hD hS hL hK
  have hi := z_I_le ha z_R0
  rw [h0] at hi
  exact lv_if_le hC.1 hC.2.1 hd ht (fun h => T (hi.mp h)) (fun h => F (fun q => h (hi.mpr q)))
theorem z_icmp_le {a b : Int} (hd : z_J M pc n tgt off (.if_icmp .le off)) (ha : z_R a) (hb : z_R b) (kt : a ≤ b → z_A M E kc ks tgt ls st mi mr Q) (kf : ¬ a ≤ b → z_A M E kc ks n ls st mi mr Q) : z_A M E kc ks pc ls (zi b :: zi a :: st) mi mr Q := by
  intro b0 p l e s m args below meth c H locs lsA Qm hC hP hD hS hL hK
  obtain ⟨hd, rfl, ht⟩ := hd
  have T := fun h => kt h b0 p l e s m args below meth c H locs lsA Qm hC hP hD hS hL hK
  have F := fun h => kf h b0 p l e s m args below meth c H locs lsA Qm hC hP hD hS hL hK
  have hi := z_I_le ha hb
  exact lv_icmp_le hC.1 hC.2.1 hd ht (fun h => T (hi.mp h)) (fun h => F (fun q => h (hi.mpr q)))
end ZROWS
end
section
/-! cells: reads, writes, calls, what is made -/
theorem z_ce_obj {G : z_G} {t : Nat × Nat} {f : Int → Int} {g : Int → Option Nat} (h : t.1 < 10) : z_ce G t f g = .inr (t.1, z_fs t.1 f g) := if_pos h
theorem z_ce_i {G : z_G} {n : Nat} {f : Int → Int} {g : Int → Option Nat} : z_ce G (10, n) f g = .inl (G.2.1, n, .inl fun j => z_I (f (j : Nat))) := by simp [z_ce]
theorem z_ce_z {G : z_G} {n : Nat} {f : Int → Int} {g : Int → Option Nat} : z_ce G (11, n) f g = .inl (G.2.2.1, n, .inl fun j => z_I (f (j : Nat))) := by simp [z_ce]
theorem z_ce_12 {G : z_G} {n : Nat} {f : Int → Int} {g : Int → Option Nat} : z_ce G (12, n) f g = .inl (G.2.2.2.1, n, .inr (.inr (.inr (.inr fun j => g (j : Nat))))) := by simp [z_ce]
theorem z_ce_13 {G : z_G} {n : Nat} {f : Int → Int} {g : Int → Option Nat} : z_ce G (13, n) f g = .inl (G.2.2.2.2.1, n, .inr (.inr (.inr (.inr fun j => g (j : Nat))))) := by simp [z_ce]
theorem z_ce_14 {G : z_G} {n : Nat} {f : Int → Int} {g : Int → Option Nat} : z_ce G (14, n) f g = .inl (G.2.2.2.2.2, n, .inr (.inr (.inr (.inr fun j => g (j : Nat))))) := by simp [z_ce]
theorem z_fs_get {n k : Nat} {f : Int → Int} {g : Int → Option Nat} (h : k < z_NF n) : (z_fs n f g)[k]? = some (z_fv (z_ty n k) (f (k : Nat)) (g (k : Nat))) := by
  simp [z_fs, List.getElem?_map, List.getElem?_range h]
theorem z_fs_len {n : Nat} {f : Int → Int} {g : Int → Option Nat} : (z_fs n f g).length = z_NF n := by simp [z_fs]
theorem z_fs_set {n k : Nat} {f : Int → Int} {g : Int → Option Nat} (x : Int) (r : Option Nat) (h : k < z_NF n) : (z_fs n f g).set k (z_fv (z_ty n k) x r) = z_fs n (z_v f (k : Nat) x) (z_v g (k : Nat) r) := by
  apply List.ext_getElem?
  intro i
  by_cases hi : i = k
  · subst hi
    rw [List.getElem?_set_self (by rw [z_fs_len]; exact h), z_fs_get h, z_vs, z_vs]
  · rw [List.getElem?_set_ne (Ne.symm hi)]
    by_cases hl : i < z_NF n
    · rw [z_fs_get hl, z_fs_get hl, z_vn (by omega), z_vn (by omega)]
    · rw [List.getElem?_eq_none (by rw [z_fs_len]; omega), List.getElem?_eq_none (by rw [z_fs_len]; omega)]
theorem z_vself {α : Type} (f : Int → α) (i : Int) : z_v f i (f i) = f := by
  funext j; unfold z_v; split
  · next h => rw [h]
  · rfl
theorem z_mpv (al : Nat → Nat) (g : Int → Option Nat) (i : Int) (r : Option Nat) : z_v (z_mp al g) i (r.map al) = z_mp al (z_v g i r) := by
  funext j; by_cases h : j = i <;> simp [z_v, z_mp, h]
theorem z_arrI (f : Int → Int) {i x : Int} (h0 : 0 ≤ i) : upd (fun j : Nat => z_I (f (j : Nat))) i.toNat (z_I x) = fun j : Nat => z_I (z_v f i x (j : Nat)) := by
  funext j
  unfold upd z_v
  by_cases h : j = i.toNat
  · rw [if_pos h, if_pos (by omega)]
  · rw [if_neg h, if_neg (by omega)]
theorem z_arrQ (al : Nat → Nat) (g : Int → Option Nat) {i : Int} {b : Nat} (h0 : 0 ≤ i) : va_up (fun j : Nat => z_mp al g (j : Nat)) i.toNat (some (al b)) = fun j : Nat => z_mp al (z_v g i (some b)) (j : Nat) := by
  funext j
  unfold va_up z_mp z_v
  by_cases h : j = i.toNat
  · rw [if_pos h, if_pos (by omega)]; rfl
  · rw [if_neg h, if_neg (by omega)]
theorem z_P.putr {E : z_E} {mi mi' : z_Mi} {mr : z_Mr} {H H1 : Heap} {a : Nat} {i : Int} {r : Option Nat} (hP : z_P E mi mr H) (h : va_P E.1.1 vwCl (z_W E mi' (z_u mr a (z_v (mr a) i r))) H1) (hr : ∀ b, r = some b → b < E.2.2.length) : z_P E mi' (z_u mr a (z_v (mr a) i r)) H1 := by
  refine ⟨h, fun j k b hj hb => ?_⟩
  by_cases h1 : j = a
  · subst h1
    rw [z_us] at hb
    unfold z_v at hb
    split at hb
    · exact hr b hb
    · exact hP.2 j k b hj hb
  · rw [z_un h1] at hb
    exact hP.2 j k b hj hb
theorem z_lt {E : z_E} {a : Nat} {t : Nat × Nat} (h : E.2.2[a]? = some t) : a < E.2.2.length := (List.getElem?_eq_some_iff.mp h).1
section ZHEAP
variable {M : z_M} {E : z_E} {kc ks pc n : Nat} {ls : List (Option z_V)} {st : List z_V} {mi : z_Mi} {mr : z_Mr} {Q : z_Q}
theorem z_geti {idx ci fk a N : Nat} {C : String} {T : u_T} {fi x : Int} (hd : z_D 3 M pc n (.getfield idx)) (hf : z_F (z_my M).cls idx ci fk C T N) (ht : E.2.2[a]? = some (ci, 0)) (hr : z_ref (z_ty ci fk) = false) (hk : ((fk : Nat) : Int) = fi) (hx : mi a fi = x) (k : z_A M E kc ks n ls (zi x :: st) mi mr Q) : z_A M E kc ks pc ls (zo a :: st) mi mr Q := by
  intro b0 p l e s m args below meth c H locs lsA Qm hC hP hD hS hL hK
  obtain ⟨hd, rfl⟩ := hd
  subst hk; subst hx
  obtain ⟨hc, hkN, hl⟩ := hf
  obtain ⟨h6, hN, hty, hnm, hin⟩ := z_cl hc
  have k1 := k b0 p l e s m args below meth c H locs lsA Qm hC hP hD hS hL hK
  have he : (z_W E mi mr)[a]? = some (E.2.1 a, .inr (ci, z_fs ci (mi a) (z_mp E.2.1 (mr a)))) := by rw [z_W_get ht, z_ce_obj (by show ci < 10; omega)]
  have hv : (z_fs ci (mi a) (z_mp E.2.1 (mr a)))[fk]? = some (.int (z_I (mi a (fk : Nat)))) := by rw [z_fs_get (hN ▸ hkN), z_fv, hr]; rfl
  rcases hl with hl | ⟨host, hl⟩
  · exact va_get hC.1 hC.2.1 hC.2.2.2.2.1 hin hC.2.2.2.1 hC.2.2.2.2.2.2.1 hP.1 a he hc fk hkN (hC.2.2.2.2.1 _ hl) (fun _ h => h) hv hd k1
  · exact va_getN hC.1 hC.2.1 hC.2.2.2.2.1 hin hC.2.2.2.1 hC.2.2.2.2.2.2.1 hP.1 a he hc fk hkN (va_Nw.use rfl (hC.2.2.2.2.2.1 _ hl)) (fun _ h => h) hv hd k1
theorem z_getr {idx ci fk a N : Nat} {C : String} {T : u_T} {fi : Int} {r : Option Nat} (hd : z_D 3 M pc n (.getfield idx)) (hf : z_F (z_my M).cls idx ci fk C T N) (ht : E.2.2[a]? = some (ci, 0)) (hr : z_ref (z_ty ci fk) = true) (hk : ((fk : Nat) : Int) = fi) (hx : mr a fi = r) (k : z_A M E kc ks n ls (zr r :: st) mi mr Q) : z_A M E kc ks pc ls (zo a :: st) mi mr Q := by
  intro b0 p l e s m args below meth c H locs lsA Qm hC hP hD hS hL hK
  obtain ⟨hd, rfl⟩ := hd
  subst hk; subst hx
  obtain ⟨hc, hkN, hl⟩ := hf
  obtain ⟨h6, hN, hty, hnm, hin⟩ := z_cl hc
  have k1 := k b0 p l e s m args below meth c H locs lsA Qm hC hP hD hS hL hK
  have he : (z_W E mi mr)[a]? = some (E.2.1 a, .inr (ci, z_fs ci (mi a) (z_mp E.2.1 (mr a)))) := by rw [z_W_get ht, z_ce_obj (by show ci < 10; omega)]
  have hv : (z_fs ci (mi a) (z_mp E.2.1 (mr a)))[fk]? = some (va_rf ((mr a (fk : Nat)).map E.2.1)) := by rw [z_fs_get (hN ▸ hkN), z_fv, hr]; rfl
  rcases hl with hl | ⟨host, hl⟩
  · exact va_get hC.1 hC.2.1 hC.2.2.2.2.1 hin hC.2.2.2.1 hC.2.2.2.2.2.2.1 hP.1 a he hc fk hkN (hC.2.2.2.2.1 _ hl) (fun _ h => h) hv hd k1
  · exact va_getN hC.1 hC.2.1 hC.2.2.2.2.1 hin hC.2.2.2.1 hC.2.2.2.2.2.2.1 hP.1 a he hc fk hkN (va_Nw.use rfl (hC.2.2.2.2.2.1 _ hl)) (fun _ h => h) hv hd k1
theorem z_puti {idx ci fk a N : Nat} {C : String} {T : u_T} {fi x : Int} (hd : z_D 3 M pc n (.putfield idx)) (hf : z_F (z_my M).cls idx ci fk C T N) (ht : E.2.2[a]? = some (ci, 0)) (hk : ((fk : Nat) : Int) = fi) (hfin : (T fk).2.2.2 = false) (hz : z_ty ci fk = .int ∨ (z_ty ci fk = .boolean ∧ (x = 0 ∨ x = 1))) (k : z_A M E kc ks n ls st (z_u mi a (z_v (mi a) fi x)) mr Q) : z_A M E kc ks pc ls (zi x :: zo a :: st) mi mr Q := by
  intro b0 p l e s m args below meth c H locs lsA Qm hC hP hD hS hL hK
  obtain ⟨hd, rfl⟩ := hd
  subst hk
  obtain ⟨hc, hkN, hl⟩ := hf
  obtain ⟨h6, hN, hty, hnm, hin⟩ := z_cl hc
  have he : (z_W E mi mr)[a]? = some (E.2.1 a, .inr (ci, z_fs ci (mi a) (z_mp E.2.1 (mr a)))) := by rw [z_W_get ht, z_ce_obj (by show ci < 10; omega)]
  have hv : Value.int (z_I x) = z_fv (z_ty ci fk) x (z_mp E.2.1 (mr a) (fk : Nat)) := by
    rcases hz with h | ⟨h, -⟩ <;> rw [h] <;> rfl
  have hnf : narrow (z_ty ci fk) (.int (z_I x)) = .int (z_I x) ∧ fits (z_ty ci fk) (.int (z_I x)) = true := by
    rcases hz with h | ⟨h, rfl | rfl⟩ <;> rw [h]
    · exact ⟨rfl, rfl⟩
    · exact ⟨by decide +kernel, by decide +kernel⟩
    · exact ⟨by decide +kernel, by decide +kernel⟩
  have e9 : (z_W E mi mr).set a (E.2.1 a, .inr (ci, (z_fs ci (mi a) (z_mp E.2.1 (mr a))).set fk (.int (z_I x)))) = z_W E (z_u mi a (z_v (mi a) (fk : Nat) x)) mr := by
    rw [hv, z_fs_set _ _ (hN ▸ hkN), z_vself]
    have e8 := z_W_set (mi := mi) (mr := mr) (z_v (mi a) (fk : Nat) x) (mr a) ht
    rw [z_ce_obj (by show ci < 10; omega), z_uself] at e8
    exact e8
  have kk : ∀ (H1 : Heap) (locs1 : List Loc), va_P E.1.1 vwCl ((z_W E mi mr).set a (E.2.1 a, .inr (ci, (z_fs ci (mi a) (z_mp E.2.1 (mr a))).set fk (.int (z_I x))))) H1 → va_D (z_af b0) ((z_W E mi mr).set a (E.2.1 a, .inr (ci, (z_fs ci (mi a) (z_mp E.2.1 (mr a))).set fk (.int (z_I x))))) → va_S (z_af b0) s.heap H1 locs1 → W p l e (z_mR M) s m args below meth c H1 locs1 kc ks Qm (F0 m (pc + 3) lsA (st.map (z_cv E.2.1))) := by
    intro H1 locs1 h1 h2 h3
    rw [e9] at h1 h2
    exact k b0 p l e s m args below meth c H1 locs1 lsA Qm hC ⟨h1, hP.2⟩ h2 h3 hL hK
  have hlen : fk < (z_fs ci (mi a) (z_mp E.2.1 (mr a))).length := by rw [z_fs_len]; exact hN ▸ hkN
  rcases hl with hl | ⟨host, hl⟩
  · exact va_put hC.1 hC.2.1 hC.2.2.2.2.1 hin (z_ty ci) hty hnm hC.2.2.2.1 hC.2.2.2.2.2.2.1 hP.1 hD hS a he hc fk hkN (hC.2.2.2.2.1 _ hl) (fun _ h => h) hfin (hty fk hkN) hnf.1 hnf.2 hlen hd kk
  · exact va_putN hC.1 hC.2.1 hC.2.2.2.2.1 hin (z_ty ci) hty hnm hC.2.2.2.1 hC.2.2.2.2.2.2.1 hP.1 hD hS a he hc fk hkN (va_Nw.use rfl (hC.2.2.2.2.2.1 _ hl)) (fun _ h => h) hfin (hty fk hkN) hnf.1 hnf.2 hlen hd kk
theorem z_rfnf {ty : FieldType} (hr : z_ref ty = true) (al : Nat → Nat) (r : Option Nat) : narrow ty (va_rf (r.map al)) = va_rf (r.map al) ∧ fits ty (va_rf (r.map al)) = true := by
  cases ty <;> first | (simp [z_ref] at hr; done) | (cases r <;> exact ⟨rfl, rfl⟩)
theorem z_putr {idx ci fk a N : Nat} {C : String} {T : u_T} {fi : Int} {r : Option Nat} (hd : z_D 3 M pc n (.putfield idx)) (hf : z_F (z_my M).cls idx ci fk C T N) (ht : E.2.2[a]? = some (ci, 0)) (hk : ((fk : Nat) : Int) = fi) (hfin : (T fk).2.2.2 = false ∨ ((T fk).2.2.2 = true ∧ (z_my M).name = "<init>" ∧ (T fk).1 = (z_my M).cls ∧ Cond.fieldLink (z_my M).cls idx (T fk).1 (T fk).2.1 (T fk).2.2.1 ∈ z_WG)) (hr : z_ref (z_ty ci fk) = true) (hb : ∀ b, r = some b → b < E.2.2.length) (k : z_A M E kc ks n ls st mi (z_u mr a (z_v (mr a) fi r)) Q) : z_A M E kc ks pc ls (zr r :: zo a :: st) mi mr Q := by
  intro b0 p l e s m args below meth c H locs lsA Qm hC hP hD hS hL hK
  obtain ⟨hd, rfl⟩ := hd
  subst hk
  obtain ⟨hc, hkN, hl⟩ := hf
  obtain ⟨h6, hN, hty, hnm, hin⟩ := z_cl hc
  have he : (z_W E mi mr)[a]? = some (E.2.1 a, .inr (ci, z_fs ci (mi a) (z_mp E.2.1 (mr a)))) := by rw [z_W_get ht, z_ce_obj (by show ci < 10; omega)]
  have hv : va_rf (r.map E.2.1) = z_fv (z_ty ci fk) (mi a (fk : Nat)) (r.map E.2.1) := by rw [z_fv, hr]; rfl
  have hnf := z_rfnf hr E.2.1 r
  have e9 : (z_W E mi mr).set a (E.2.1 a, .inr (ci, (z_fs ci (mi a) (z_mp E.2.1 (mr a))).set fk (va_rf (r.map E.2.1)))) = z_W E mi (z_u mr a (z_v (mr a) (fk : Nat) r)) := by
    rw [hv, z_fs_set _ _ (hN ▸ hkN), z_vself, z_mpv]
    have e8 := z_W_set (mi := mi) (mr := mr) (mi a) (z_v (mr a) (fk : Nat) r) ht
    rw [z_ce_obj (by show ci < 10; omega), z_uself] at e8
    exact e8
  have kk : ∀ (H1 : Heap) (locs1 : List Loc), va_P E.1.1 vwCl ((z_W E mi mr).set a (E.2.1 a, .inr (ci, (z_fs ci (mi a) (z_mp E.2.1 (mr a))).set fk (va_rf (r.map E.2.1))))) H1 → va_D (z_af b0) ((z_W E mi mr).set a (E.2.1 a, .inr (ci, (z_fs ci (mi a) (z_mp E.2.1 (mr a))).set fk (va_rf (r.map E.2.1))))) → va_S (z_af b0) s.heap H1 locs1 → W p l e (z_mR M) s m args below meth c H1 locs1 kc ks Qm (F0 m (pc + 3) lsA (st.map (z_cv E.2.1))) := by
    intro H1 locs1 h1 h2 h3
    rw [e9] at h1 h2
    exact k b0 p l e s m args below meth c H1 locs1 lsA Qm hC (hP.putr h1 hb) h2 h3 hL hK
  have hlen : fk < (z_fs ci (mi a) (z_mp E.2.1 (mr a))).length := by rw [z_fs_len]; exact hN ▸ hkN
  rcases hfin with hfin | ⟨hfin, hi1, hi2, hl2⟩
  · rcases hl with hl | ⟨host, hl⟩
    · exact va_put hC.1 hC.2.1 hC.2.2.2.2.1 hin (z_ty ci) hty hnm hC.2.2.2.1 hC.2.2.2.2.2.2.1 hP.1 hD hS a he hc fk hkN (hC.2.2.2.2.1 _ hl) (fun _ h => h) hfin (hty fk hkN) hnf.1 hnf.2 hlen hd kk
    · exact va_putN hC.1 hC.2.1 hC.2.2.2.2.1 hin (z_ty ci) hty hnm hC.2.2.2.1 hC.2.2.2.2.2.2.1 hP.1 hD hS a he hc fk hkN (va_Nw.use rfl (hC.2.2.2.2.2.1 _ hl)) (fun _ h => h) hfin (hty fk hkN) hnf.1 hnf.2 hlen hd kk
  · exact va_putF hC.1 hC.2.1 hC.2.2.2.2.1 hin (z_ty ci) hty hnm hC.2.2.2.1 hC.2.2.2.2.2.2.1 hP.1 hD hS a he hc fk hkN (hC.2.2.2.2.1 _ hl2) (fun _ h => h) hfin (hC.2.2.2.2.2.2.2.2.1.trans hi1) hi2 (hty fk hkN) hnf.1 hnf.2 hlen hd kk
theorem z_iald {a len : Nat} {i x : Int} (hd : z_D 1 M pc n .iaload) (ht : E.2.2[a]? = some (10, len)) (hn : len ≤ 2147483648) (h0 : 0 ≤ i) (h1 : i < (len : Int)) (hx : mi a i = x) (k : z_A M E kc ks n ls (zi x :: st) mi mr Q) : z_A M E kc ks pc ls (zi i :: zo a :: st) mi mr Q := by
  intro b0 p l e s m args below meth c H locs lsA Qm hC hP hD hS hL hK
  obtain ⟨hd, rfl⟩ := hd
  subst hx
  have k1 := k b0 p l e s m args below meth c H locs lsA Qm hC hP hD hS hL hK
  have he : (z_W E mi mr)[a]? = some (E.2.1 a, .inl (E.1.2.1, len, .inl fun j => z_I (mi a (j : Nat)))) := by rw [z_W_get ht, z_ce_i]
  refine va_iald hC.1 hC.2.1 hC.2.2.2.2.2.2.1 hP.1 a 0 he rfl (z_I_in h0 h1 hn) hd ?_
  rw [z_I_clamp h0 (by omega), show ((i.toNat : Nat) : Int) = i by omega]
  exact k1
theorem z_iast {a len : Nat} {i x : Int} (hd : z_D 1 M pc n .iastore) (ht : E.2.2[a]? = some (10, len)) (hn : len ≤ 2147483648) (h0 : 0 ≤ i) (h1 : i < (len : Int)) (k : z_A M E kc ks n ls st (z_u mi a (z_v (mi a) i x)) mr Q) : z_A M E kc ks pc ls (zi x :: zi i :: zo a :: st) mi mr Q := by
  intro b0 p l e s m args below meth c H locs lsA Qm hC hP hD hS hL hK
  obtain ⟨hd, rfl⟩ := hd
  have he : (z_W E mi mr)[a]? = some (E.2.1 a, .inl (E.1.2.1, len, .inl fun j => z_I (mi a (j : Nat)))) := by rw [z_W_get ht, z_ce_i]
  refine va_iast hC.1 hC.2.1 hC.2.2.2.2.2.2.1 hP.1 hD hS a 0 he rfl (z_I_in h0 h1 hn) hd (fun H1 locs1 g1 g2 g3 => ?_)
  rw [z_I_clamp h0 (by omega), z_arrI _ h0] at g1 g2
  have e8 := z_W_set (mi := mi) (mr := mr) (z_v (mi a) i x) (mr a) ht
  rw [z_ce_i, z_uself] at e8
  rw [e8] at g1 g2
  exact k b0 p l e s m args below meth c H1 locs1 lsA Qm hC ⟨g1, hP.2⟩ g2 g3 hL hK
theorem z_zald {a len : Nat} {i x : Int} (hd : z_D 1 M pc n .baload) (ht : E.2.2[a]? = some (11, len)) (hn : len ≤ 2147483648) (h0 : 0 ≤ i) (h1 : i < (len : Int)) (hx : mi a i = x) (k : z_A M E kc ks n ls (zi x :: st) mi mr Q) : z_A M E kc ks pc ls (zi i :: zo a :: st) mi mr Q := by
  intro b0 p l e s m args below meth c H locs lsA Qm hC hP hD hS hL hK
  obtain ⟨hd, rfl⟩ := hd
  subst hx
  have k1 := k b0 p l e s m args below meth c H locs lsA Qm hC hP hD hS hL hK
  have he : (z_W E mi mr)[a]? = some (E.2.1 a, .inl (E.1.2.2.1, len, .inl fun j => z_I (mi a (j : Nat)))) := by rw [z_W_get ht, z_ce_z]
  refine va_zald hC.1 hC.2.1 hC.2.2.2.2.2.2.1 hP.1 a 1 he rfl (z_I_in h0 h1 hn) hd ?_
  rw [z_I_clamp h0 (by omega), show ((i.toNat : Nat) : Int) = i by omega]
  exact k1
theorem z_zast {a len : Nat} {i x : Int} (hd : z_D 1 M pc n .bastore) (ht : E.2.2[a]? = some (11, len)) (hn : len ≤ 2147483648) (h0 : 0 ≤ i) (h1 : i < (len : Int)) (hz : x = 0 ∨ x = 1) (k : z_A M E kc ks n ls st (z_u mi a (z_v (mi a) i x)) mr Q) : z_A M E kc ks pc ls (zi x :: zi i :: zo a :: st) mi mr Q := by
  intro b0 p l e s m args below meth c H locs lsA Qm hC hP hD hS hL hK
  obtain ⟨hd, rfl⟩ := hd
  have he : (z_W E mi mr)[a]? = some (E.2.1 a, .inl (E.1.2.2.1, len, .inl fun j => z_I (mi a (j : Nat)))) := by rw [z_W_get ht, z_ce_z]
  refine va_zast hC.1 hC.2.1 hC.2.2.2.2.2.2.1 hP.1 hD hS a 1 he rfl (z_I_in h0 h1 hn) hd (fun H1 locs1 g1 g2 g3 => ?_)
  have hx : vp_nar .boolean (z_I x) = z_I x := by rcases hz with rfl | rfl <;> decide +kernel
  rw [hx, z_I_clamp h0 (by omega), z_arrI _ h0] at g1 g2
  have e8 := z_W_set (mi := mi) (mr := mr) (z_v (mi a) i x) (mr a) ht
  rw [z_ce_z, z_uself] at e8
  rw [e8] at g1 g2
  exact k b0 p l e s m args below meth c H1 locs1 lsA Qm hC ⟨g1, hP.2⟩ g2 g3 hL hK
theorem z_aald {a t len : Nat} {i : Int} {r : Option Nat} (hd : z_D 1 M pc n .aaload) (ht : E.2.2[a]? = some (t, len)) (h3 : t = 12 ∨ t = 13 ∨ t = 14) (hn : len ≤ 2147483648) (h0 : 0 ≤ i) (h1 : i < (len : Int)) (hx : mr a i = r) (k : z_A M E kc ks n ls (zr r :: st) mi mr Q) : z_A M E kc ks pc ls (zi i :: zo a :: st) mi mr Q := by
  intro b0 p l e s m args below meth c H locs lsA Qm hC hP hD hS hL hK
  obtain ⟨hd, rfl⟩ := hd
  subst hx
  have k1 := k b0 p l e s m args below meth c H locs lsA Qm hC hP hD hS hL hK
  rcases h3 with rfl | rfl | rfl
  · have he : (z_W E mi mr)[a]? = some (E.2.1 a, .inl (E.1.2.2.2.1, len, .inr (.inr (.inr (.inr fun j => z_mp E.2.1 (mr a) (j : Nat)))))) := by rw [z_W_get ht, z_ce_12]
    refine va_aldq hC.1 hC.2.1 hC.2.2.2.2.2.2.1 hP.1 a 2 he rfl (z_I_in h0 h1 hn) hd ?_
    rw [z_I_clamp h0 (by omega), show ((i.toNat : Nat) : Int) = i by omega]
    exact k1
  · have he : (z_W E mi mr)[a]? = some (E.2.1 a, .inl (E.1.2.2.2.2.1, len, .inr (.inr (.inr (.inr fun j => z_mp E.2.1 (mr a) (j : Nat)))))) := by rw [z_W_get ht, z_ce_13]
    refine va_aldq hC.1 hC.2.1 hC.2.2.2.2.2.2.1 hP.1 a 3 he rfl (z_I_in h0 h1 hn) hd ?_
    rw [z_I_clamp h0 (by omega), show ((i.toNat : Nat) : Int) = i by omega]
    exact k1
  · have he : (z_W E mi mr)[a]? = some (E.2.1 a, .inl (E.1.2.2.2.2.2, len, .inr (.inr (.inr (.inr fun j => z_mp E.2.1 (mr a) (j : Nat)))))) := by rw [z_W_get ht, z_ce_14]
    refine va_aldq hC.1 hC.2.1 hC.2.2.2.2.2.2.1 hP.1 a 4 he rfl (z_I_in h0 h1 hn) hd ?_
    rw [z_I_clamp h0 (by omega), show ((i.toNat : Nat) : Int) = i by omega]
    exact k1
theorem z_aast {a b t ci len : Nat} {i : Int} (hd : z_D 1 M pc n .aastore) (ht : E.2.2[a]? = some (t, len)) (hb : E.2.2[b]? = some (ci, 0)) (h3 : (t = 12 ∧ ci = 2) ∨ (t = 13 ∧ ci = 0) ∨ (t = 14 ∧ ci = 3)) (hn : len ≤ 2147483648) (h0 : 0 ≤ i) (h1 : i < (len : Int)) (k : z_A M E kc ks n ls st mi (z_u mr a (z_v (mr a) i (some b))) Q) : z_A M E kc ks pc ls (zo b :: zi i :: zo a :: st) mi mr Q := by
  intro b0 p l e s m args below meth c H locs lsA Qm hC hP hD hS hL hK
  obtain ⟨hd, rfl⟩ := hd
  rcases h3 with ⟨rfl, rfl⟩ | ⟨rfl, rfl⟩ | ⟨rfl, rfl⟩
  · have he : (z_W E mi mr)[a]? = some (E.2.1 a, .inl (E.1.2.2.2.1, len, .inr (.inr (.inr (.inr fun j => z_mp E.2.1 (mr a) (j : Nat)))))) := by rw [z_W_get ht, z_ce_12]
    have hv : (z_W E mi mr)[b]? = some (E.2.1 b, .inr (2, z_fs 2 (mi b) (z_mp E.2.1 (mr b)))) := by rw [z_W_get hb, z_ce_obj (by decide)]
    refine va_astq (r := (RX2, TX2, 3)) hC.1 hC.2.1 hC.2.2.2.2.2.2.1 hP.1 hD hS a 2 b 2 he rfl hv rfl (z_I_in h0 h1 hn) hd (fun H1 locs1 g1 g2 g3 => ?_)
    rw [z_I_clamp h0 (by omega), z_arrQ _ _ h0] at g1 g2
    have e8 := z_W_set (mi := mi) (mr := mr) (mi a) (z_v (mr a) i (some b)) ht
    rw [z_ce_12, z_uself] at e8
    rw [e8] at g1 g2
    exact k b0 p l e s m args below meth c H1 locs1 lsA Qm hC (hP.putr g1 (fun b' hb' => by cases hb'; exact z_lt hb)) g2 g3 hL hK
  · have he : (z_W E mi mr)[a]? = some (E.2.1 a, .inl (E.1.2.2.2.2.1, len, .inr (.inr (.inr (.inr fun j => z_mp E.2.1 (mr a) (j : Nat)))))) := by rw [z_W_get ht, z_ce_13]
    have hv : (z_W E mi mr)[b]? = some (E.2.1 b, .inr (0, z_fs 0 (mi b) (z_mp E.2.1 (mr b)))) := by rw [z_W_get hb, z_ce_obj (by decide)]
    refine va_astq (r := (RX0, TX0, 3)) hC.1 hC.2.1 hC.2.2.2.2.2.2.1 hP.1 hD hS a 3 b 0 he rfl hv rfl (z_I_in h0 h1 hn) hd (fun H1 locs1 g1 g2 g3 => ?_)
    rw [z_I_clamp h0 (by omega), z_arrQ _ _ h0] at g1 g2
    have e8 := z_W_set (mi := mi) (mr := mr) (mi a) (z_v (mr a) i (some b)) ht
    rw [z_ce_13, z_uself] at e8
    rw [e8] at g1 g2
    exact k b0 p l e s m args below meth c H1 locs1 lsA Qm hC (hP.putr g1 (fun b' hb' => by cases hb'; exact z_lt hb)) g2 g3 hL hK
  · have he : (z_W E mi mr)[a]? = some (E.2.1 a, .inl (E.1.2.2.2.2.2, len, .inr (.inr (.inr (.inr fun j => z_mp E.2.1 (mr a) (j : Nat)))))) := by rw [z_W_get ht, z_ce_14]
    have hv : (z_W E mi mr)[b]? = some (E.2.1 b, .inr (3, z_fs 3 (mi b) (z_mp E.2.1 (mr b)))) := by rw [z_W_get hb, z_ce_obj (by decide)]
    refine va_astq (r := (RX3, TX3, 9)) hC.1 hC.2.1 hC.2.2.2.2.2.2.1 hP.1 hD hS a 4 b 3 he rfl hv rfl (z_I_in h0 h1 hn) hd (fun H1 locs1 g1 g2 g3 => ?_)
    rw [z_I_clamp h0 (by omega), z_arrQ _ _ h0] at g1 g2
    have e8 := z_W_set (mi := mi) (mr := mr) (mi a) (z_v (mr a) i (some b)) ht
    rw [z_ce_14, z_uself] at e8
    rw [e8] at g1 g2
    exact k b0 p l e s m args below meth c H1 locs1 lsA Qm hC (hP.putr g1 (fun b' hb' => by cases hb'; exact z_lt hb)) g2 g3 hL hK
theorem z_alen {a t len : Nat} (hd : z_D 1 M pc n .arraylength) (ht : E.2.2[a]? = some (t, len)) (h3 : t = 10 ∨ t = 11 ∨ t = 12 ∨ t = 13 ∨ t = 14) (k : z_A M E kc ks n ls (zi (len : Nat) :: st) mi mr Q) : z_A M E kc ks pc ls (zo a :: st) mi mr Q := by
  intro b0 p l e s m args below meth c H locs lsA Qm hC hP hD hS hL hK
  obtain ⟨hd, rfl⟩ := hd
  have k1 := k b0 p l e s m args below meth c H locs lsA Qm hC hP hD hS hL hK
  have hz : Int32.ofNat len = z_I (len : Nat) := (z_I_nat len).symm
  rcases h3 with rfl | rfl | rfl | rfl | rfl
  · exact va_alen hC.1 hC.2.1 hC.2.2.2.2.2.2.1 hP.1 a 0 (by rw [z_W_get ht, z_ce_i]) rfl hz hd k1
  · exact va_alen hC.1 hC.2.1 hC.2.2.2.2.2.2.1 hP.1 a 1 (by rw [z_W_get ht, z_ce_z]) rfl hz hd k1
  · exact va_alen hC.1 hC.2.1 hC.2.2.2.2.2.2.1 hP.1 a 2 (by rw [z_W_get ht, z_ce_12]) rfl hz hd k1
  · exact va_alen hC.1 hC.2.1 hC.2.2.2.2.2.2.1 hP.1 a 3 (by rw [z_W_get ht, z_ce_13]) rfl hz hd k1
  · exact va_alen hC.1 hC.2.1 hC.2.2.2.2.2.2.1 hP.1 a 4 (by rw [z_W_get ht, z_ce_14]) rfl hz hd k1
/-! ends -/
theorem z_ret (hd : z_D 1 M pc n .return_) (hr : z_mr M = none) (hk : Nat.ble kc (z_mR M).cells = true) (hs : Nat.ble ks (z_mR M).slots = true) (h : Q none E mi mr) : z_A M E kc ks pc ls [] mi mr Q := by
  intro b0 p l e s m args below meth c H locs lsA Qm hC hP hD hS hL hK
  exact hK none E mi mr H locs kc ks pc lsA h rfl hP hD hS hr hd.1 (Nat.le_of_ble_eq_true hk) (Nat.le_of_ble_eq_true hs)
theorem z_iret {x : Int} (hd : z_D 1 M pc n .ireturn) (hr : z_mr M = some .int ∨ (z_mr M = some .boolean ∧ (x = 0 ∨ x = 1))) (hk : Nat.ble kc (z_mR M).cells = true) (hs : Nat.ble ks (z_mR M).slots = true) (h : Q (some (zi x)) E mi mr) : z_A M E kc ks pc ls [zi x] mi mr Q := by
  intro b0 p l e s m args below meth c H locs lsA Qm hC hP hD hS hL hK
  exact hK (some (zi x)) E mi mr H locs kc ks pc lsA h rfl hP hD hS hr hd.1 (Nat.le_of_ble_eq_true hk) (Nat.le_of_ble_eq_true hs)
theorem z_lret {x : Int64} (hd : z_D 1 M pc n .lreturn) (hr : z_mr M = some .long) (hk : Nat.ble kc (z_mR M).cells = true) (hs : Nat.ble ks (z_mR M).slots = true) (h : Q (some (zl x)) E mi mr) : z_A M E kc ks pc ls [zl x] mi mr Q := by
  intro b0 p l e s m args below meth c H locs lsA Qm hC hP hD hS hL hK
  exact hK (some (zl x)) E mi mr H locs kc ks pc lsA h rfl hP hD hS hr hd.1 (Nat.le_of_ble_eq_true hk) (Nat.le_of_ble_eq_true hs)
theorem z_aret {a : Nat} (hd : z_D 1 M pc n .areturn) (hr : ∃ c, z_mr M = some (.object c)) (hk : Nat.ble kc (z_mR M).cells = true) (hs : Nat.ble ks (z_mR M).slots = true) (h : Q (some (zo a)) E mi mr) : z_A M E kc ks pc ls [zo a] mi mr Q := by
  intro b0 p l e s m args below meth c H locs lsA Qm hC hP hD hS hL hK
  exact hK (some (zo a)) E mi mr H locs kc ks pc lsA h rfl hP hD hS hr hd.1 (Nat.le_of_ble_eq_true hk) (Nat.le_of_ble_eq_true hs)
end ZHEAP
end
section
/-! calls, switches, Math, what is made -/
theorem z_pc_blind {as : List Value} {b0 : Nat} {E : z_E} {mi : z_Mi} {mr : z_Mr} : FrameBlind (va_Pc as (z_pc b0 E mi mr)) := by
  intro a U g mk h
  obtain ⟨h0, h1, h2, h3, h4, h5⟩ := h
  refine ⟨h0, h1, h2, va_K.moved (u := U) (U := U.calling g mk a) (Vm.Alike.refl U.vm) h3, fun w hw => ?_, h5⟩
  exact z_Nw_same hw (u := U) (U := U.calling g mk a) rfl (h4 w hw)
theorem z_pc_of {M : z_M} {b0 : Nat} {E : z_E} {mi : z_Mi} {mr : z_Mr} {p : Program} {s : State} {m : MethodId} {args : Array Value} {meth : Method} {c : Code} {H : Heap} {locs : List Loc} {as : List Value} (hC : z_C M b0 E.1 p s m args meth c) (hP : z_P E mi mr H) (hD : va_D (z_af b0) (z_W E mi mr)) (hS : va_S (z_af b0) s.heap H locs) : ∀ U : State, U.heap = H → s.WarmedH U.vm → va_Pc as (z_pc b0 E mi mr) as.toArray U := by
  intro U hU hW
  refine ⟨rfl, ?_, by rw [hU]; exact hP, va_K.moved hW.alike hC.2.2.2.2.2.2.1, fun w hw => z_Nw_warm hw hW (hC.2.2.2.2.2.1 w hw), hD⟩
  rw [hU]; exact Nat.le_trans hC.2.2.2.2.2.2.2.1 hS.1
section ZCALL
variable {M M' : z_M} {E : z_E} {kc ks pc n tgt : Nat} {off : Int} {ls : List (Option z_V)} {st : List z_V} {mi : z_Mi} {mr : z_Mr} {Q Q0 : z_Q}
theorem z_after {b0 : Nat} {p : Program} {l : Launch} {e : Env} {R : Room} {s : State} {m : MethodId} {args a' : Array Value} {below : List Frame} {meth : Method} {c : Code} {H : Heap} {locs : List Loc} {lsA : Array Slot} {Qm : State → Prop} {G : z_G} {st0 rest : List Value} {mc ms : Nat}
    (hr : va_Run p l e R s m args below meth c H locs kc ks mc ms (F0 m pc lsA st0) rest (z_qc b0 G Q0 a') (z_af b0)) (hS : va_S (z_af b0) s.heap H locs)
    (kk : ∀ (v : Option z_V) (E' : z_E) (mi' : z_Mi) (mr' : z_Mr) (H1 : Heap) (locs1 : List Loc), E'.1 = G → Q0 v E' mi' mr' → z_P E' mi' mr' H1 → va_D (z_af b0) (z_W E' mi' mr') → va_S (z_af b0) s.heap H1 locs1 → W p l e R s m args below meth c H1 locs1 (kc + mc) (ks + ms) Qm (F0 m (pc + 3) lsA ((v.map (z_cv E'.2.1)).toList ++ rest))) :
    W p l e R s m args below meth c H locs kc ks Qm (F0 m pc lsA st0) := by
  intro T hT X
  obtain ⟨v, st₀, t, T', L, h0, X', hL, e1, e2, ⟨⟨v', E', mi', mr', hG, ho, hQ, hP, hD⟩, hz, hk⟩, st⟩ := hr T hT X
  cases ho
  rw [h0] at hz hk
  obtain ⟨t2, a1, b1⟩ := kk v' E' mi' mr' T'.heap (locs ++ L) hG hQ (by rw [e1]; exact hP) hD
    ⟨Nat.le_trans hS.1 (by rw [e1]; exact hz), fun q h1 h2 => by rw [e1, hk q (Nat.lt_of_lt_of_le h1 hS.1) h2]; exact hS.2.1 q h1 h2, fun q hq => by
      rcases List.mem_append.mp hq with h | h
      · exact hS.2.2 q h
      · exact hL q h⟩ T' rfl X'
  exact ⟨t2, st t2 a1, b1⟩
theorem z_goodws (hc : Cond.code (z_my M') (z_mc M') (z_mn M') (z_mr M') ∈ z_WG) : GoodIn z_WG (z_ws M') := by
  intro w hw
  rcases List.mem_cons.mp hw with rfl | h
  · exact ⟨hc, good_of_word (z_good _ hc)⟩
  · exact ⟨h, good_of_word (z_good _ h)⟩
/-- room for a callee -/
def z_rm (M M' : z_M) (kc ks : Nat) : Bool := Nat.ble ((z_mR M').frames + 1) (z_mR M).frames && (Nat.ble (8 + (z_mn M' + 11) + (z_mR M').locals) (z_mR M).locals && (Nat.ble (kc + (z_mR M').cells) (z_mR M).cells && Nat.ble (ks + (z_mR M').slots) (z_mR M).slots))
theorem z_rm_of (h : z_rm M M' kc ks = true) : (z_mR M').frames + 1 ≤ (z_mR M).frames ∧ 8 + (z_mn M' + 11) + (z_mR M').locals ≤ (z_mR M).locals ∧ kc + (z_mR M').cells ≤ (z_mR M).cells ∧ ks + (z_mR M').slots ≤ (z_mR M).slots := by
  simp only [z_rm, Bool.and_eq_true] at h
  exact ⟨Nat.le_of_ble_eq_true h.1, Nat.le_of_ble_eq_true h.2.1, Nat.le_of_ble_eq_true h.2.2.1, Nat.le_of_ble_eq_true h.2.2.2⟩
theorem z_recv {s : State} {H : Heap} {b ci : Nat} (hK : va_K E.1.1 vwCl (z_tys E.1) s) (hP : z_P E mi mr H) (ht : E.2.2[b]? = some (ci, 0)) {C : String} (hc : ∃ T N, vwCl[ci]? = some (C, T, N)) : ∃ cell : Cell, H[E.2.1 b]? = some cell ∧ cell.vm.isStatics = false ∧ s.vm.findClass C = some cell.cls := by
  obtain ⟨T, N, hc⟩ := hc
  obtain ⟨h6, -⟩ := z_cl hc
  have he : (z_W E mi mr)[b]? = some (E.2.1 b, .inr (ci, z_fs ci (mi b) (z_mp E.2.1 (mr b)))) := by rw [z_W_get ht, z_ce_obj (by show ci < 10; omega)]
  exact va_recv hK hP.1 hc he
theorem z_callV {idx nA ci b : Nat} {As rest : List z_V} (hd : z_D 3 M pc n (.invokevirtual idx)) (hl : z_LV (z_my M).cls idx (z_my M') (z_mc M') (z_mn M') (z_mr M') nA) (hr : z_rm M M' kc ks = true) (hn : As.length = nA) (hst : st = As.reverse ++ zo b :: rest) (hcat : Nat.ble (rest.map z_cat).sum 8 = true) (ht : E.2.2[b]? = some (ci, 0)) (hci : ∃ T N, vwCl[ci]? = some ((z_my M').cls, T, N))
    (hM : z_ct M' E (zo b :: As) mi mr Q0)
    (k : ∀ (v : Option z_V) (E' : z_E) (mi' : z_Mi) (mr' : z_Mr) (b0 : Nat) (p : Program) (l : Launch) (e : Env) (s : State) (m : MethodId) (args : Array Value) (below : List Frame) (meth : Method) (c : Code) (H : Heap) (locs : List Loc) (lsA : Array Slot) (Qm : State → Prop), Q0 v E' mi' mr' → z_C M b0 E.1 p s m args meth c → E'.1 = E.1 → z_P E' mi' mr' H → va_D (z_af b0) (z_W E' mi' mr') → va_S (z_af b0) s.heap H locs → lv_has lsA (z_mn M) (z_L E.2.1 0 ls) → z_K M b0 E.1 p l e s m args below meth c Q Qm →
      W p l e (z_mR M) s m args below meth c H locs (kc + (z_mR M').cells) (ks + (z_mR M').slots) Qm (F0 m n lsA ((v.map (z_cv E'.2.1)).toList ++ rest.map (z_cv E.2.1)))) : z_A M E kc ks pc ls st mi mr Q := by
  intro b0 p l e s m args below meth c H locs lsA Qm hC hP hD hS hL hK
  obtain ⟨hd, rfl⟩ := hd
  subst hst
  obtain ⟨⟨hlk, hcode, hini, hdd⟩, hinst, hsel⟩ := hl
  obtain ⟨r1, r2, r3, r4⟩ := z_rm_of hr
  have hw := hC.2.2.2.2.1
  have CF : CallFix p m c (z_mc M) (z_mn M) s args z_WG (z_my M).cls := ⟨hC.1, hC.2.1, hC.2.2.1, hC.2.2.2.1, hw⟩
  have hpre : PreV s H (z_my M').cls (E.2.1 b) (va_Pc ((zo b :: As).map (z_cv E.2.1)) (z_pc b0 E mi mr)) (As.map (z_cv E.2.1)) := ⟨z_pc_blind, z_recv hC.2.2.2.2.2.2.1 hP ht hci, z_pc_of hC hP hD hS⟩
  have hstk : (As.reverse ++ zo b :: rest).map (z_cv E.2.1) = (As.map (z_cv E.2.1)).reverse ++ .ref (E.2.1 b) :: rest.map (z_cv E.2.1) := by
    rw [List.map_append, List.map_reverse, List.map_cons]; rfl
  have hrm : 2 * (F0 m pc lsA ((As.reverse ++ zo b :: rest).map (z_cv E.2.1))).monitorRoom + ((rest.map (z_cv E.2.1)).map fun v => v.category).sum ≤ 8 := lv_room (by rw [z_cats]; exact Nat.le_of_ble_eq_true hcat)
  have run : va_Run p l e (z_mR M) s m args below meth c H locs kc ks (z_mR M').cells (z_mR M').slots (F0 m pc lsA ((As.reverse ++ zo b :: rest).map (z_cv E.2.1))) (rest.map (z_cv E.2.1)) (z_qc b0 E.1 Q0 (Value.ref (E.2.1 b) :: As.map (z_cv E.2.1)).toArray) (z_af b0) := by
    rcases hlk with hlk | ⟨host, hlk⟩
    · exact va_runV CF (hM l b0) ⟨callB_of nA hw (z_goodws hcode) rfl rfl rfl (hw _ hini) (hw _ hlk) hdd ⟨r1, r2⟩, hw _ hinst, hw _ hsel⟩ hpre rfl (by rw [List.length_map]; exact hn) hL.1 hstk hrm hd ⟨r3, r4⟩
    · exact va_runVN CF (hM l b0) ⟨va_cnB nA hw (z_goodws hcode) rfl rfl rfl (hC.2.2.2.2.2.1 _ hlk) (hw _ hini) hdd ⟨r1, r2⟩, hw _ hinst, hw _ hsel⟩ hpre rfl (by rw [List.length_map]; exact hn) hL.1 hstk hrm hd ⟨r3, r4⟩
  exact z_after run hS (fun v E' mi' mr' H1 locs1 hG hQ hP' hD' hS' => k v E' mi' mr' b0 p l e s m args below meth c H1 locs1 lsA Qm hQ hC hG hP' hD' hS' hL hK)
theorem z_callS {idx nA : Nat} {As rest : List z_V} (hd : z_D 3 M pc n (.invokestatic idx)) (hl : z_LS (z_my M).cls idx (z_my M') (z_mc M') (z_mn M') (z_mr M') nA) (hr : z_rm M M' kc ks = true) (hn : As.length = nA) (hst : st = As.reverse ++ rest) (hcat : Nat.ble (rest.map z_cat).sum 8 = true)
    (hM : z_ct M' E As mi mr Q0)
    (k : ∀ (v : Option z_V) (E' : z_E) (mi' : z_Mi) (mr' : z_Mr) (b0 : Nat) (p : Program) (l : Launch) (e : Env) (s : State) (m : MethodId) (args : Array Value) (below : List Frame) (meth : Method) (c : Code) (H : Heap) (locs : List Loc) (lsA : Array Slot) (Qm : State → Prop), Q0 v E' mi' mr' → z_C M b0 E.1 p s m args meth c → E'.1 = E.1 → z_P E' mi' mr' H → va_D (z_af b0) (z_W E' mi' mr') → va_S (z_af b0) s.heap H locs → lv_has lsA (z_mn M) (z_L E.2.1 0 ls) → z_K M b0 E.1 p l e s m args below meth c Q Qm →
      W p l e (z_mR M) s m args below meth c H locs (kc + (z_mR M').cells) (ks + (z_mR M').slots) Qm (F0 m n lsA ((v.map (z_cv E'.2.1)).toList ++ rest.map (z_cv E.2.1)))) : z_A M E kc ks pc ls st mi mr Q := by
  intro b0 p l e s m args below meth c H locs lsA Qm hC hP hD hS hL hK
  obtain ⟨hd, rfl⟩ := hd
  subst hst
  obtain ⟨⟨hlk, hcode, hini, hdd⟩, hstat⟩ := hl
  obtain ⟨r1, r2, r3, r4⟩ := z_rm_of hr
  have hw := hC.2.2.2.2.1
  have CF : CallFix p m c (z_mc M) (z_mn M) s args z_WG (z_my M).cls := ⟨hC.1, hC.2.1, hC.2.2.1, hC.2.2.2.1, hw⟩
  have hpre : PreS s H (va_Pc (As.map (z_cv E.2.1)) (z_pc b0 E mi mr)) (As.map (z_cv E.2.1)) := ⟨z_pc_blind, z_pc_of hC hP hD hS⟩
  have hstk : (As.reverse ++ rest).map (z_cv E.2.1) = (As.map (z_cv E.2.1)).reverse ++ rest.map (z_cv E.2.1) := by
    rw [List.map_append, List.map_reverse]
  have hrm : 2 * (F0 m pc lsA ((As.reverse ++ rest).map (z_cv E.2.1))).monitorRoom + ((rest.map (z_cv E.2.1)).map fun v => v.category).sum ≤ 8 := lv_room (by rw [z_cats]; exact Nat.le_of_ble_eq_true hcat)
  have run : va_Run p l e (z_mR M) s m args below meth c H locs kc ks (z_mR M').cells (z_mR M').slots (F0 m pc lsA ((As.reverse ++ rest).map (z_cv E.2.1))) (rest.map (z_cv E.2.1)) (z_qc b0 E.1 Q0 (As.map (z_cv E.2.1)).toArray) (z_af b0) := by
    rcases hlk with hlk | ⟨host, hlk⟩
    · exact va_runS CF (hM l b0) ⟨callB_of nA hw (z_goodws hcode) rfl rfl rfl (hw _ hini) (hw _ hlk) hdd ⟨r1, r2⟩, hw _ hstat⟩ hpre rfl (by rw [List.length_map]; exact hn) hL.1 hstk hrm hd ⟨r3, r4⟩
    · exact va_runSN CF (hM l b0) ⟨va_cnB nA hw (z_goodws hcode) rfl rfl rfl (hC.2.2.2.2.2.1 _ hlk) (hw _ hini) hdd ⟨r1, r2⟩, hw _ hstat, trivial⟩ hpre rfl (by rw [List.length_map]; exact hn) hL.1 hstk hrm hd ⟨r3, r4⟩
  exact z_after run hS (fun v E' mi' mr' H1 locs1 hG hQ hP' hD' hS' => k v E' mi' mr' b0 p l e s m args below meth c H1 locs1 lsA Qm hQ hC hG hP' hD' hS' hL hK)
theorem z_callI {idx nA b : Nat} {As rest : List z_V} (hd : z_D 3 M pc n (.invokespecial idx)) (hl : z_LI (z_my M).cls idx (z_my M') (z_mc M') (z_mn M') none nA) (hret : z_mr M' = none) (hr : z_rm M M' kc ks = true) (hn : As.length = nA) (hst : st = As.reverse ++ zo b :: rest) (hcat : Nat.ble (rest.map z_cat).sum 8 = true)
    (hM : z_ct M' E (zo b :: As) mi mr Q0)
    (k : ∀ (v : Option z_V) (E' : z_E) (mi' : z_Mi) (mr' : z_Mr) (b0 : Nat) (p : Program) (l : Launch) (e : Env) (s : State) (m : MethodId) (args : Array Value) (below : List Frame) (meth : Method) (c : Code) (H : Heap) (locs : List Loc) (lsA : Array Slot) (Qm : State → Prop), Q0 v E' mi' mr' → z_C M b0 E.1 p s m args meth c → E'.1 = E.1 → z_P E' mi' mr' H → va_D (z_af b0) (z_W E' mi' mr') → va_S (z_af b0) s.heap H locs → lv_has lsA (z_mn M) (z_L E.2.1 0 ls) → z_K M b0 E.1 p l e s m args below meth c Q Qm →
      W p l e (z_mR M) s m args below meth c H locs (kc + (z_mR M').cells) (ks + (z_mR M').slots) Qm (F0 m n lsA ((v.map (z_cv E'.2.1)).toList ++ rest.map (z_cv E.2.1)))) : z_A M E kc ks pc ls st mi mr Q := by
  intro b0 p l e s m args below meth c H locs lsA Qm hC hP hD hS hL hK
  obtain ⟨hd, rfl⟩ := hd
  subst hst
  obtain ⟨⟨hlk, hcode, hini, hdd⟩, hnm, hinst⟩ := hl
  obtain ⟨r1, r2, r3, r4⟩ := z_rm_of hr
  have hw := hC.2.2.2.2.1
  have CF : CallFix p m c (z_mc M) (z_mn M) s args z_WG (z_my M).cls := ⟨hC.1, hC.2.1, hC.2.2.1, hC.2.2.2.1, hw⟩
  have hpre : PreS s H (va_Pc ((zo b :: As).map (z_cv E.2.1)) (z_pc b0 E mi mr)) (.ref (E.2.1 b) :: As.map (z_cv E.2.1)) := ⟨z_pc_blind, z_pc_of hC hP hD hS⟩
  have hstk : (As.reverse ++ zo b :: rest).map (z_cv E.2.1) = (As.map (z_cv E.2.1)).reverse ++ .ref (E.2.1 b) :: rest.map (z_cv E.2.1) := by
    rw [List.map_append, List.map_reverse, List.map_cons]; rfl
  have hrm : 2 * (F0 m pc lsA ((As.reverse ++ zo b :: rest).map (z_cv E.2.1))).monitorRoom + ((rest.map (z_cv E.2.1)).map fun v => v.category).sum ≤ 8 := lv_room (by rw [z_cats]; exact Nat.le_of_ble_eq_true hcat)
  have hwse : z_ws M' = Cond.code (z_my M') (z_mc M') (z_mn M') none :: z_WG := by rw [z_ws, hret]
  have run : va_Run p l e (z_mR M) s m args below meth c H locs kc ks (z_mR M').cells (z_mR M').slots (F0 m pc lsA ((As.reverse ++ zo b :: rest).map (z_cv E.2.1))) (rest.map (z_cv E.2.1)) (z_qc b0 E.1 Q0 (Value.ref (E.2.1 b) :: As.map (z_cv E.2.1)).toArray) (z_af b0) := by
    rcases hlk with hlk | ⟨host, hlk⟩
    · exact va_runI CF (hM l b0) ⟨callB_of nA hw (z_goodws (by rw [hret]; exact hcode)) hwse rfl rfl (hw _ hini) (hw _ hlk) hdd ⟨r1, r2⟩, hnm, hw _ hinst⟩ hpre rfl (by rw [List.length_map]; exact hn) hL.1 hstk hrm hd ⟨r3, r4⟩
    · exact va_runIN CF (hM l b0) ⟨va_cnB nA hw (z_goodws (by rw [hret]; exact hcode)) hwse rfl rfl (hC.2.2.2.2.2.1 _ hlk) (hw _ hini) hdd ⟨r1, r2⟩, hnm, hw _ hinst⟩ hpre rfl (by rw [List.length_map]; exact hn) hL.1 hstk hrm hd ⟨r3, r4⟩
  exact z_after run hS (fun v E' mi' mr' H1 locs1 hG hQ hP' hD' hS' => k v E' mi' mr' b0 p l e s m args below meth c H1 locs1 lsA Qm hQ hC hG hP' hD' hS' hL hK)
end ZCALL
/-! the four kinds of answers of a method that makes nothing -/
abbrev z_qv (E : z_E) (P : z_Mi → z_Mr → Prop) : z_Q := fun v E' mi mr => E' = E ∧ v = none ∧ P mi mr
abbrev z_qi (E : z_E) (P : Int → z_Mi → z_Mr → Prop) : z_Q := fun v E' mi mr => E' = E ∧ ∃ x, v = some (zi x) ∧ P x mi mr
abbrev z_ql (E : z_E) (P : Int64 → z_Mi → z_Mr → Prop) : z_Q := fun v E' mi mr => E' = E ∧ ∃ x, v = some (zl x) ∧ P x mi mr
abbrev z_qr (E : z_E) (P : Nat → z_Mi → z_Mr → Prop) : z_Q := fun v E' mi mr => E' = E ∧ ∃ x, v = some (zo x) ∧ P x mi mr
def z_mv (M : z_M) (E : z_E) (as : List z_V) (mi : z_Mi) (mr : z_Mr) (P : z_Mi → z_Mr → Prop) : Prop := z_ct M E as mi mr (z_qv E P) ∧ (z_mR M).cells = 0 ∧ (z_mR M).slots = 0
def z_mi (M : z_M) (E : z_E) (as : List z_V) (mi : z_Mi) (mr : z_Mr) (P : Int → z_Mi → z_Mr → Prop) : Prop := z_ct M E as mi mr (z_qi E P) ∧ (z_mR M).cells = 0 ∧ (z_mR M).slots = 0
def z_ml (M : z_M) (E : z_E) (as : List z_V) (mi : z_Mi) (mr : z_Mr) (P : Int64 → z_Mi → z_Mr → Prop) : Prop := z_ct M E as mi mr (z_ql E P) ∧ (z_mR M).cells = 0 ∧ (z_mR M).slots = 0
def z_mf (M : z_M) (E : z_E) (as : List z_V) (mi : z_Mi) (mr : z_Mr) (P : Nat → z_Mi → z_Mr → Prop) : Prop := z_ct M E as mi mr (z_qr E P) ∧ (z_mR M).cells = 0 ∧ (z_mR M).slots = 0
section ZCT
variable {M M' : z_M} {E : z_E} {kc ks pc n : Nat} {ls : List (Option z_V)} {st : List z_V} {mi : z_Mi} {mr : z_Mr} {Q : z_Q}
theorem z_callVv {P : z_Mi → z_Mr → Prop} {idx nA ci b : Nat} {As rest : List z_V} (hd : z_D 3 M pc n (.invokevirtual idx)) (hl : z_LV (z_my M).cls idx (z_my M') (z_mc M') (z_mn M') (z_mr M') nA) (hr : z_rm M M' kc ks = true) (hn : As.length = nA) (hst : st = As.reverse ++ zo b :: rest) (hcat : Nat.ble (rest.map z_cat).sum 8 = true) (ht : E.2.2[b]? = some (ci, 0)) (hci : ∃ T N, vwCl[ci]? = some ((z_my M').cls, T, N)) (hM : z_mv M' E (zo b :: As) mi mr P) (k : ∀ (mi' : z_Mi) (mr' : z_Mr), P mi' mr' → z_A M E kc ks n ls rest mi' mr' Q) : z_A M E kc ks pc ls st mi mr Q := by
  refine z_callV hd hl hr hn hst hcat ht hci hM.1 ?_
  intro v E' mi' mr' b0 p l e s m args below meth c H locs lsA Qm hQ hC hG hP hD hS hL hK
  obtain ⟨rfl, rfl, hQ⟩ := hQ
  rw [hM.2.1, hM.2.2]
  exact k mi' mr' hQ b0 p l e s m args below meth c H locs lsA Qm hC hP hD hS hL hK
theorem z_callVi {P : Int → z_Mi → z_Mr → Prop} {idx nA ci b : Nat} {As rest : List z_V} (hd : z_D 3 M pc n (.invokevirtual idx)) (hl : z_LV (z_my M).cls idx (z_my M') (z_mc M') (z_mn M') (z_mr M') nA) (hr : z_rm M M' kc ks = true) (hn : As.length = nA) (hst : st = As.reverse ++ zo b :: rest) (hcat : Nat.ble (rest.map z_cat).sum 8 = true) (ht : E.2.2[b]? = some (ci, 0)) (hci : ∃ T N, vwCl[ci]? = some ((z_my M').cls, T, N)) (hM : z_mi M' E (zo b :: As) mi mr P) (k : ∀ (x : Int) (mi' : z_Mi) (mr' : z_Mr), P x mi' mr' → z_A M E kc ks n ls (zi x :: rest) mi' mr' Q) : z_A M E kc ks pc ls st mi mr Q := by
  refine z_callV hd hl hr hn hst hcat ht hci hM.1 ?_
  intro v E' mi' mr' b0 p l e s m args below meth c H locs lsA Qm hQ hC hG hP hD hS hL hK
  obtain ⟨rfl, x, rfl, hQ⟩ := hQ
  rw [hM.2.1, hM.2.2]
  exact k x mi' mr' hQ b0 p l e s m args below meth c H locs lsA Qm hC hP hD hS hL hK
theorem z_callVl {P : Int64 → z_Mi → z_Mr → Prop} {idx nA ci b : Nat} {As rest : List z_V} (hd : z_D 3 M pc n (.invokevirtual idx)) (hl : z_LV (z_my M).cls idx (z_my M') (z_mc M') (z_mn M') (z_mr M') nA) (hr : z_rm M M' kc ks = true) (hn : As.length = nA) (hst : st = As.reverse ++ zo b :: rest) (hcat : Nat.ble (rest.map z_cat).sum 8 = true) (ht : E.2.2[b]? = some (ci, 0)) (hci : ∃ T N, vwCl[ci]? = some ((z_my M').cls, T, N)) (hM : z_ml M' E (zo b :: As) mi mr P) (k : ∀ (x : Int64) (mi' : z_Mi) (mr' : z_Mr), P x mi' mr' → z_A M E kc ks n ls (zl x :: rest) mi' mr' Q) : z_A M E kc ks pc ls st mi mr Q := by
  refine z_callV hd hl hr hn hst hcat ht hci hM.1 ?_
  intro v E' mi' mr' b0 p l e s m args below meth c H locs lsA Qm hQ hC hG hP hD hS hL hK
  obtain ⟨rfl, x, rfl, hQ⟩ := hQ
  rw [hM.2.1, hM.2.2]
  exact k x mi' mr' hQ b0 p l e s m args below meth c H locs lsA Qm hC hP hD hS hL hK
theorem z_callVr {P : Nat → z_Mi → z_Mr → Prop} {idx nA ci b : Nat} {As rest : List z_V} (hd : z_D 3 M pc n (.invokevirtual idx)) (hl : z_LV (z_my M).cls idx (z_my M') (z_mc M') (z_mn M') (z_mr M') nA) (hr : z_rm M M' kc ks = true) (hn : As.length = nA) (hst : st = As.reverse ++ zo b :: rest) (hcat : Nat.ble (rest.map z_cat).sum 8 = true) (ht : E.2.2[b]? = some (ci, 0)) (hci : ∃ T N, vwCl[ci]? = some ((z_my M').cls, T, N)) (hM : z_mf M' E (zo b :: As) mi mr P) (k : ∀ (x : Nat) (mi' : z_Mi) (mr' : z_Mr), P x mi' mr' → z_A M E kc ks n ls (zo x :: rest) mi' mr' Q) : z_A M E kc ks pc ls st mi mr Q := by
  refine z_callV hd hl hr hn hst hcat ht hci hM.1 ?_
  intro v E' mi' mr' b0 p l e s m args below meth c H locs lsA Qm hQ hC hG hP hD hS hL hK
  obtain ⟨rfl, x, rfl, hQ⟩ := hQ
  rw [hM.2.1, hM.2.2]
  exact k x mi' mr' hQ b0 p l e s m args below meth c H locs lsA Qm hC hP hD hS hL hK
theorem z_callSv {P : z_Mi → z_Mr → Prop} {idx nA : Nat} {As rest : List z_V} (hd : z_D 3 M pc n (.invokestatic idx)) (hl : z_LS (z_my M).cls idx (z_my M') (z_mc M') (z_mn M') (z_mr M') nA) (hr : z_rm M M' kc ks = true) (hn : As.length = nA) (hst : st = As.reverse ++ rest) (hcat : Nat.ble (rest.map z_cat).sum 8 = true) (hM : z_mv M' E As mi mr P) (k : ∀ (mi' : z_Mi) (mr' : z_Mr), P mi' mr' → z_A M E kc ks n ls rest mi' mr' Q) : z_A M E kc ks pc ls st mi mr Q := by
  refine z_callS hd hl hr hn hst hcat hM.1 ?_
  intro v E' mi' mr' b0 p l e s m args below meth c H locs lsA Qm hQ hC hG hP hD hS hL hK
  obtain ⟨rfl, rfl, hQ⟩ := hQ
  rw [hM.2.1, hM.2.2]
  exact k mi' mr' hQ b0 p l e s m args below meth c H locs lsA Qm hC hP hD hS hL hK
theorem z_callSi {P : Int → z_Mi → z_Mr → Prop} {idx nA : Nat} {As rest : List z_V} (hd : z_D 3 M pc n (.invokestatic idx)) (hl : z_LS (z_my M).cls idx (z_my M') (z_mc M') (z_mn M') (z_mr M') nA) (hr : z_rm M M' kc ks = true) (hn : As.length = nA) (hst : st = As.reverse ++ rest) (hcat : Nat.ble (rest.map z_cat).sum 8 = true) (hM : z_mi M' E As mi mr P) (k : ∀ (x : Int) (mi' : z_Mi) (mr' : z_Mr), P x mi' mr' → z_A M E kc ks n ls (zi x :: rest) mi' mr' Q) : z_A M E kc ks pc ls st mi mr Q := by
  refine z_callS hd hl hr hn hst hcat hM.1 ?_
  intro v E' mi' mr' b0 p l e s m args below meth c H locs lsA Qm hQ hC hG hP hD hS hL hK
  obtain ⟨rfl, x, rfl, hQ⟩ := hQ
  rw [hM.2.1, hM.2.2]
  exact k x mi' mr' hQ b0 p l e s m args below meth c H locs lsA Qm hC hP hD hS hL hK
theorem z_callSl {P : Int64 → z_Mi → z_Mr → Prop} {idx nA : Nat} {As rest : List z_V} (hd : z_D 3 M pc n (.invokestatic idx)) (hl : z_LS (z_my M).cls idx (z_my M') (z_mc M') (z_mn M') (z_mr M') nA) (hr : z_rm M M' kc ks = true) (hn : As.length = nA) (hst : st = As.reverse ++ rest) (hcat : Nat.ble (rest.map z_cat).sum 8 = true) (hM : z_ml M' E As mi mr P) (k : ∀ (x : Int64) (mi' : z_Mi) (mr' : z_Mr), P x mi' mr' → z_A M E kc ks n ls (zl x :: rest) mi' mr' Q) : z_A M E kc ks pc ls st mi mr Q := by
  refine z_callS hd hl hr hn hst hcat hM.1 ?_
  intro v E' mi' mr' b0 p l e s m args below meth c H locs lsA Qm hQ hC hG hP hD hS hL hK
  obtain ⟨rfl, x, rfl, hQ⟩ := hQ
  rw [hM.2.1, hM.2.2]
  exact k x mi' mr' hQ b0 p l e s m args below meth c H locs lsA Qm hC hP hD hS hL hK
theorem z_callSr {P : Nat → z_Mi → z_Mr → Prop} {idx nA : Nat} {As rest : List z_V} (hd : z_D 3 M pc n (.invokestatic idx)) (hl : z_LS (z_my M).cls idx (z_my M') (z_mc M') (z_mn M') (z_mr M') nA) (hr : z_rm M M' kc ks = true) (hn : As.length = nA) (hst : st = As.reverse ++ rest) (hcat : Nat.ble (rest.map z_cat).sum 8 = true) (hM : z_mf M' E As mi mr P) (k : ∀ (x : Nat) (mi' : z_Mi) (mr' : z_Mr), P x mi' mr' → z_A M E kc ks n ls (zo x :: rest) mi' mr' Q) : z_A M E kc ks pc ls st mi mr Q := by
  refine z_callS hd hl hr hn hst hcat hM.1 ?_
  intro v E' mi' mr' b0 p l e s m args below meth c H locs lsA Qm hQ hC hG hP hD hS hL hK
  obtain ⟨rfl, x, rfl, hQ⟩ := hQ
  rw [hM.2.1, hM.2.2]
  exact k x mi' mr' hQ b0 p l e s m args below meth c H locs lsA Qm hC hP hD hS hL hK
theorem z_callIv {P : z_Mi → z_Mr → Prop} {idx nA b : Nat} {As rest : List z_V} (hd : z_D 3 M pc n (.invokespecial idx)) (hl : z_LI (z_my M).cls idx (z_my M') (z_mc M') (z_mn M') none nA) (hret : z_mr M' = none) (hr : z_rm M M' kc ks = true) (hn : As.length = nA) (hst : st = As.reverse ++ zo b :: rest) (hcat : Nat.ble (rest.map z_cat).sum 8 = true) (hM : z_mv M' E (zo b :: As) mi mr P) (k : ∀ (mi' : z_Mi) (mr' : z_Mr), P mi' mr' → z_A M E kc ks n ls rest mi' mr' Q) : z_A M E kc ks pc ls st mi mr Q := by
  refine z_callI hd hl hret hr hn hst hcat hM.1 ?_
  intro v E' mi' mr' b0 p l e s m args below meth c H locs lsA Qm hQ hC hG hP hD hS hL hK
  obtain ⟨rfl, rfl, hQ⟩ := hQ
  rw [hM.2.1, hM.2.2]
  exact k mi' mr' hQ b0 p l e s m args below meth c H locs lsA Qm hC hP hD hS hL hK
end ZCT
theorem z_ofv {M : z_M} {E : z_E} {as : List z_V} {ls : List (Option z_V)} {mi : z_Mi} {mr : z_Mr} {P : z_Mi → z_Mr → Prop} (hy : plainName (z_my M).cls = true) (hE : ∀ s b0, z_mE M s b0) (hc : (z_mR M).cells = 0 ∧ (z_mR M).slots = 0) (hn : (as.map z_cat).sum ≤ z_mn M) (hls : z_en as ++ List.replicate (z_mn M - (as.map z_cat).sum) none = ls) (h : z_A M E 0 0 0 ls [] mi mr (z_qv E P)) : z_mv M E as mi mr P := ⟨z_ct_of hy hE hn hls h, hc.1, hc.2⟩
theorem z_ofi {M : z_M} {E : z_E} {as : List z_V} {ls : List (Option z_V)} {mi : z_Mi} {mr : z_Mr} {P : Int → z_Mi → z_Mr → Prop} (hy : plainName (z_my M).cls = true) (hE : ∀ s b0, z_mE M s b0) (hc : (z_mR M).cells = 0 ∧ (z_mR M).slots = 0) (hn : (as.map z_cat).sum ≤ z_mn M) (hls : z_en as ++ List.replicate (z_mn M - (as.map z_cat).sum) none = ls) (h : z_A M E 0 0 0 ls [] mi mr (z_qi E P)) : z_mi M E as mi mr P := ⟨z_ct_of hy hE hn hls h, hc.1, hc.2⟩
theorem z_ofl {M : z_M} {E : z_E} {as : List z_V} {ls : List (Option z_V)} {mi : z_Mi} {mr : z_Mr} {P : Int64 → z_Mi → z_Mr → Prop} (hy : plainName (z_my M).cls = true) (hE : ∀ s b0, z_mE M s b0) (hc : (z_mR M).cells = 0 ∧ (z_mR M).slots = 0) (hn : (as.map z_cat).sum ≤ z_mn M) (hls : z_en as ++ List.replicate (z_mn M - (as.map z_cat).sum) none = ls) (h : z_A M E 0 0 0 ls [] mi mr (z_ql E P)) : z_ml M E as mi mr P := ⟨z_ct_of hy hE hn hls h, hc.1, hc.2⟩
theorem z_ofr {M : z_M} {E : z_E} {as : List z_V} {ls : List (Option z_V)} {mi : z_Mi} {mr : z_Mr} {P : Nat → z_Mi → z_Mr → Prop} (hy : plainName (z_my M).cls = true) (hE : ∀ s b0, z_mE M s b0) (hc : (z_mR M).cells = 0 ∧ (z_mR M).slots = 0) (hn : (as.map z_cat).sum ≤ z_mn M) (hls : z_en as ++ List.replicate (z_mn M - (as.map z_cat).sum) none = ls) (h : z_A M E 0 0 0 ls [] mi mr (z_qr E P)) : z_mf M E as mi mr P := ⟨z_ct_of hy hE hn hls h, hc.1, hc.2⟩
end
section
section ZMORE
variable {M : z_M} {E : z_E} {kc ks pc n tgt : Nat} {off : Int} {ls : List (Option z_V)} {st : List z_V} {mi : z_Mi} {mr : z_Mr} {Q : z_Q}
/-! switches -/
theorem z_tsOut {len : Nat} {dflt lo hi x : Int} {offs : Array Int} (hd : z_D len M pc n (.tableswitch dflt lo hi offs)) (hx : z_R x) (h : x < lo ∨ hi < x) (ht : (pc : Int) + dflt = (tgt : Int)) (k : z_A M E kc ks tgt ls st mi mr Q) : z_A M E kc ks pc ls (zi x :: st) mi mr Q := by
  intro b0 p l e s m args below meth c H locs lsA Qm hC hP hD hS hL hK
  exact lv_tableOut hC.1 hC.2.1 hd.1 (by rw [z_I_toInt hx]; exact h) ht (k b0 p l e s m args below meth c H locs lsA Qm hC hP hD hS hL hK)
theorem z_tsIn {len : Nat} {dflt lo hi x : Int} {offs : Array Int} (hd : z_D len M pc n (.tableswitch dflt lo hi offs)) (hx : z_R x) (h1 : lo ≤ x) (h2 : x ≤ hi) (ho : offs[(x - lo).toNat]? = some off) (ht : (pc : Int) + off = (tgt : Int)) (k : z_A M E kc ks tgt ls st mi mr Q) : z_A M E kc ks pc ls (zi x :: st) mi mr Q := by
  intro b0 p l e s m args below meth c H locs lsA Qm hC hP hD hS hL hK
  exact lv_tableIn hC.1 hC.2.1 hd.1 (by rw [z_I_toInt hx]; omega) (by rw [z_I_toInt hx]; omega) (by rw [z_I_toInt hx]; exact ho) ht (k b0 p l e s m args below meth c H locs lsA Qm hC hP hD hS hL hK)
theorem z_lsw {len : Nat} {dflt x : Int} {ps : Array (Int × Int)} (hd : z_D len M pc n (.lookupswitch dflt ps)) (hx : z_R x) (hp : (ps.toList.zip (ps.toList.drop 1)).all (fun (a, next) => a.1 < next.1) = true) (ho : Op.lookupswitch.offset ps.toList dflt x = off) (ht : (pc : Int) + off = (tgt : Int)) (k : z_A M E kc ks tgt ls st mi mr Q) : z_A M E kc ks pc ls (zi x :: st) mi mr Q := by
  intro b0 p l e s m args below meth c H locs lsA Qm hC hP hD hS hL hK
  exact lv_lookup hC.1 hC.2.1 hd.1 hp (by rw [z_I_toInt hx]; exact ho) ht (k b0 p l e s m args below meth c H locs lsA Qm hC hP hD hS hL hK)
/-! Math -/
def z_LM (own : String) (idx : Nat) (y : MethodName) (b : ByteArray) (nL : Nat) : Prop := Cond.methodLink own idx y ∈ z_WG ∧ Cond.static y ∈ z_WG ∧ Cond.initialized "java/lang/Math" ∈ z_WG ∧ Cond.code y b nL (some .int) ∈ z_WG
def z_mroom (M : z_M) (kc ks : Nat) : Bool := Nat.ble 1 (z_mR M).frames && (Nat.ble 21 (z_mR M).locals && (Nat.ble kc (z_mR M).cells && Nat.ble ks (z_mR M).slots))
theorem z_mroom_of (h : z_mroom M kc ks = true) : 1 ≤ (z_mR M).frames ∧ 21 ≤ (z_mR M).locals ∧ kc ≤ (z_mR M).cells ∧ ks ≤ (z_mR M).slots := by
  simp only [z_mroom, Bool.and_eq_true] at h
  exact ⟨Nat.le_of_ble_eq_true h.1, Nat.le_of_ble_eq_true h.2.1, Nat.le_of_ble_eq_true h.2.2.1, Nat.le_of_ble_eq_true h.2.2.2⟩
theorem z_max {idx : Nat} {a b x : Int} (hd : z_D 3 M pc n (.invokestatic idx)) (hl : z_LM (z_my M).cls idx Lib.Math.max.name Lib.Math.max.code 2) (hr : z_mroom M kc ks = true) (hcat : Nat.ble (st.map z_cat).sum 8 = true) (ha : z_R a) (hb : z_R b) (hx : (if a < b then b else a) = x) (k : z_A M E kc ks n ls (zi x :: st) mi mr Q) : z_A M E kc ks pc ls (zi b :: zi a :: st) mi mr Q := by
  intro b0 p l e s m args below meth c H locs lsA Qm hC hP hD hS hL hK
  obtain ⟨hd, rfl⟩ := hd
  subst hx
  obtain ⟨r1, r2, r3, r4⟩ := z_mroom_of hr
  have hw := hC.2.2.2.2.1
  have k1 := k b0 p l e s m args below meth c H locs lsA Qm hC hP hD hS hL hK
  have hcat := Nat.le_of_ble_eq_true hcat
  refine va_mmax hC.1 hC.2.1 (hC.2.2.1.trans hL.1.symm) hC.2.2.2.1 (hw _ hl.1) (hw _ hl.2.1) (hw _ hl.2.2.1) (hw _ hl.2.2.2) r1 (by rw [z_cats]; omega) r3 r4 hd ?_
  have e : (if z_I a < z_I b then z_I b else z_I a) = z_I (if a < b then b else a) := by
    by_cases h : a < b
    · rw [if_pos h, if_pos ((z_I_lt ha hb).mpr h)]
    · rw [if_neg h, if_neg (fun q => h ((z_I_lt ha hb).mp q))]
  rw [e]; exact k1
theorem z_min {idx : Nat} {a b x : Int} (hd : z_D 3 M pc n (.invokestatic idx)) (hl : z_LM (z_my M).cls idx Lib.Math.min.name Lib.Math.min.code 2) (hr : z_mroom M kc ks = true) (hcat : Nat.ble (st.map z_cat).sum 8 = true) (ha : z_R a) (hb : z_R b) (hx : (if b < a then b else a) = x) (k : z_A M E kc ks n ls (zi x :: st) mi mr Q) : z_A M E kc ks pc ls (zi b :: zi a :: st) mi mr Q := by
  intro b0 p l e s m args below meth c H locs lsA Qm hC hP hD hS hL hK
  obtain ⟨hd, rfl⟩ := hd
  subst hx
  obtain ⟨r1, r2, r3, r4⟩ := z_mroom_of hr
  have hw := hC.2.2.2.2.1
  have k1 := k b0 p l e s m args below meth c H locs lsA Qm hC hP hD hS hL hK
  have hcat := Nat.le_of_ble_eq_true hcat
  refine va_mmin hC.1 hC.2.1 (hC.2.2.1.trans hL.1.symm) hC.2.2.2.1 (hw _ hl.1) (hw _ hl.2.1) (hw _ hl.2.2.1) (hw _ hl.2.2.2) r1 (by rw [z_cats]; omega) r3 r4 hd ?_
  have e : (if z_I b < z_I a then z_I b else z_I a) = z_I (if b < a then b else a) := by
    by_cases h : b < a
    · rw [if_pos h, if_pos ((z_I_lt hb ha).mpr h)]
    · rw [if_neg h, if_neg (fun q => h ((z_I_lt hb ha).mp q))]
  rw [e]; exact k1
theorem z_abs {idx : Nat} {a x : Int} (hd : z_D 3 M pc n (.invokestatic idx)) (hl : z_LM (z_my M).cls idx Lib.Math.abs.name Lib.Math.abs.code 1) (hr : z_mroom M kc ks = true) (hcat : Nat.ble (st.map z_cat).sum 8 = true) (ha : z_R a) (hx : (if 0 ≤ a then a else 0 - a) = x) (k : z_A M E kc ks n ls (zi x :: st) mi mr Q) : z_A M E kc ks pc ls (zi a :: st) mi mr Q := by
  intro b0 p l e s m args below meth c H locs lsA Qm hC hP hD hS hL hK
  obtain ⟨hd, rfl⟩ := hd
  subst hx
  obtain ⟨r1, r2, r3, r4⟩ := z_mroom_of hr
  have hw := hC.2.2.2.2.1
  have k1 := k b0 p l e s m args below meth c H locs lsA Qm hC hP hD hS hL hK
  have hcat := Nat.le_of_ble_eq_true hcat
  refine va_mabs hC.1 hC.2.1 (hC.2.2.1.trans hL.1.symm) hC.2.2.2.1 (hw _ hl.1) (hw _ hl.2.1) (hw _ hl.2.2.1) (hw _ hl.2.2.2) r1 (by rw [z_cats]; omega) r3 r4 hd ?_
  have e : (if 0 ≤ z_I a then z_I a else 0 - z_I a) = z_I (if 0 ≤ a then a else 0 - a) := by
    rw [← z_I_0, z_I_sub]
    by_cases h : 0 ≤ a
    · rw [if_pos h, if_pos ((z_I_le z_R0 ha).mpr h)]
    · rw [if_neg h, if_neg (fun q => h ((z_I_le z_R0 ha).mp q))]
  rw [e]; exact k1
/-! a copy of the first cells of an array of numbers -/
def z_cpy (f g : Int → Int) (k : Int) : Int → Int := fun j => if 0 ≤ j ∧ j < k then f j else g j
theorem z_copy {idx a0 a n0 n1 : Nat} {cnt : Int} (hd : z_D 3 M pc n (.invokestatic idx)) (h1 : Cond.methodLink (z_my M).cls idx arraycopyName ∈ z_WG) (h2 : Cond.native arraycopyName ∈ z_WG) (h3 : Cond.static arraycopyName ∈ z_WG) (h4 : Cond.initialized "java/lang/System" ∈ z_WG) (hr : Nat.ble 1 (z_mR M).frames = true) (hr2 : Nat.ble (8 + (nativeFrameWords "java/lang/System" "arraycopy" 5 + 11)) (z_mR M).locals = true) (hcat : Nat.ble (st.map z_cat).sum 8 = true)
    (ht0 : E.2.2[a0]? = some (10, n0)) (ht : E.2.2[a]? = some (10, n1)) (hc0 : 0 ≤ cnt) (hc1 : cnt ≤ (n0 : Int)) (hc2 : cnt ≤ (n1 : Int)) (hc3 : cnt ≤ 2147483647)
    (k : z_A M E kc ks n ls st (z_u mi a (z_cpy (mi a0) (mi a) cnt)) mr Q) : z_A M E kc ks pc ls (zi cnt :: zi 0 :: zo a :: zi 0 :: zo a0 :: st) mi mr Q := by
  intro b0 p l e s m args below meth c H locs lsA Qm hC hP hD hS hL hK
  obtain ⟨hd, rfl⟩ := hd
  have hw := hC.2.2.2.2.1
  have he0 : (z_W E mi mr)[a0]? = some (E.2.1 a0, .inl (E.1.2.1, n0, .inl fun j => z_I (mi a0 (j : Nat)))) := by rw [z_W_get ht0, z_ce_i]
  have he : (z_W E mi mr)[a]? = some (E.2.1 a, .inl (E.1.2.1, n1, .inl fun j => z_I (mi a (j : Nat)))) := by rw [z_W_get ht, z_ce_i]
  have e0 : (z_I 0).toNatClampNeg = 0 := by rw [z_I_clamp (by omega) (by omega)]; rfl
  have e1 : (z_I cnt).toNatClampNeg = cnt.toNat := z_I_clamp hc0 hc3
  have n0' : ¬ z_I 0 < 0 := by rw [z_I_0]; decide
  have n1' : ¬ z_I cnt < 0 := by rw [← z_I_0, z_I_lt ⟨by omega, hc3⟩ z_R0]; omega
  have hcat := Nat.le_of_ble_eq_true hcat
  have hr2 := Nat.le_of_ble_eq_true hr2
  refine va_copyi hC.1 hC.2.1 (hC.2.2.1.trans hL.1.symm) hC.2.2.2.1 (hw _ h1) (hw _ h2) (hw _ h3) (hw _ h4) hC.2.2.2.2.2.2.1 hP.1 hD hS a0 a 0 0 he0 he rfl rfl rfl n0' n0' n1' (by rw [e0, e1]; omega) (by rw [e0, e1]; omega) (fun i _ => rfl) (Nat.le_of_ble_eq_true hr) (by rw [z_cats]; omega) hd (fun H1 locs1 g1 g2 g3 => ?_)
  have e5 : va_cpy (fun j : Nat => z_I (mi a0 (j : Nat))) (fun j : Nat => z_I (mi a (j : Nat))) (z_I 0).toNatClampNeg (z_I 0).toNatClampNeg (z_I cnt).toNatClampNeg = fun j : Nat => z_I (z_cpy (mi a0) (mi a) cnt (j : Nat)) := by
    rw [e0, e1]
    funext j
    unfold va_cpy z_cpy
    by_cases h : j < cnt.toNat
    · rw [if_pos ⟨by omega, by omega⟩, if_pos ⟨by omega, by omega⟩]
      show z_I (mi a0 ((0 + (j - 0) : Nat) : Int)) = _
      rw [show 0 + (j - 0) = j by omega]
    · rw [if_neg (by omega), if_neg (by omega)]
  rw [e5] at g1 g2
  have e8 := z_W_set (mi := mi) (mr := mr) (z_cpy (mi a0) (mi a) cnt) (mr a) ht
  rw [z_ce_i, z_uself] at e8
  rw [e8] at g1 g2
  exact k b0 p l e s m args below meth c H1 locs1 lsA Qm hC ⟨g1, hP.2⟩ g2 g3 hL hK
end ZMORE
/-! loops: a measure that falls -/
theorem z_loop {σ : Type} {P : σ → Prop} (I : σ → Prop) (μ : σ → Nat) (hs : ∀ x, I x → (∀ y, I y → μ y < μ x → P y) → P x) : ∀ x, I x → P x := by
  have h : ∀ (k : Nat) (x : σ), μ x = k → I x → P x := by
    intro k
    induction k using Nat.strongRecOn with
    | _ k ih =>
      intro x hx hI
      subst hx
      exact hs x hI (fun y hy hlt => ih (μ y) hlt y rfl hy)
  exact fun x hx => h (μ x) x rfl hx
end
section
section ZNORM
variable {M : z_M} {E : z_E} {kc ks pc n : Nat} {ls : List (Option z_V)} {st : List z_V} {mi : z_Mi} {mr : z_Mr} {Q : z_Q}
theorem z_putiN {idx ci fk a N : Nat} {C : String} {T : u_T} {fi x : Int} {f : Int → Int} (hd : z_D 3 M pc n (.putfield idx)) (hf : z_F (z_my M).cls idx ci fk C T N) (ht : E.2.2[a]? = some (ci, 0)) (hk : ((fk : Nat) : Int) = fi) (hfin : (T fk).2.2.2 = false) (hz : z_ty ci fk = .int ∨ (z_ty ci fk = .boolean ∧ (x = 0 ∨ x = 1))) (hm : mi a = f) (k : z_A M E kc ks n ls st (z_u mi a (z_v f fi x)) mr Q) : z_A M E kc ks pc ls (zi x :: zo a :: st) mi mr Q :=
  z_puti hd hf ht hk hfin hz (by rw [hm]; exact k)
theorem z_putiU {idx ci fk a N : Nat} {C : String} {T : u_T} {fi x : Int} {f : Int → Int} (hd : z_D 3 M pc n (.putfield idx)) (hf : z_F (z_my M).cls idx ci fk C T N) (ht : E.2.2[a]? = some (ci, 0)) (hk : ((fk : Nat) : Int) = fi) (hfin : (T fk).2.2.2 = false) (hz : z_ty ci fk = .int ∨ (z_ty ci fk = .boolean ∧ (x = 0 ∨ x = 1))) (k : z_A M E kc ks n ls st (z_u mi a (z_v f fi x)) mr Q) : z_A M E kc ks pc ls (zi x :: zo a :: st) (z_u mi a f) mr Q :=
  z_puti hd hf ht hk hfin hz (by rw [z_us, z_uu]; exact k)
theorem z_iastN {a len : Nat} {i x : Int} {f : Int → Int} (hd : z_D 1 M pc n .iastore) (ht : E.2.2[a]? = some (10, len)) (hn : len ≤ 2147483648) (h0 : 0 ≤ i) (h1 : i < (len : Int)) (hm : mi a = f) (k : z_A M E kc ks n ls st (z_u mi a (z_v f i x)) mr Q) : z_A M E kc ks pc ls (zi x :: zi i :: zo a :: st) mi mr Q :=
  z_iast hd ht hn h0 h1 (by rw [hm]; exact k)
theorem z_iastU {a len : Nat} {i x : Int} {f : Int → Int} (hd : z_D 1 M pc n .iastore) (ht : E.2.2[a]? = some (10, len)) (hn : len ≤ 2147483648) (h0 : 0 ≤ i) (h1 : i < (len : Int)) (k : z_A M E kc ks n ls st (z_u mi a (z_v f i x)) mr Q) : z_A M E kc ks pc ls (zi x :: zi i :: zo a :: st) (z_u mi a f) mr Q :=
  z_iast hd ht hn h0 h1 (by rw [z_us, z_uu]; exact k)
theorem z_zastN {a len : Nat} {i x : Int} {f : Int → Int} (hd : z_D 1 M pc n .bastore) (ht : E.2.2[a]? = some (11, len)) (hn : len ≤ 2147483648) (h0 : 0 ≤ i) (h1 : i < (len : Int)) (hz : x = 0 ∨ x = 1) (hm : mi a = f) (k : z_A M E kc ks n ls st (z_u mi a (z_v f i x)) mr Q) : z_A M E kc ks pc ls (zi x :: zi i :: zo a :: st) mi mr Q :=
  z_zast hd ht hn h0 h1 hz (by rw [hm]; exact k)
theorem z_zastU {a len : Nat} {i x : Int} {f : Int → Int} (hd : z_D 1 M pc n .bastore) (ht : E.2.2[a]? = some (11, len)) (hn : len ≤ 2147483648) (h0 : 0 ≤ i) (h1 : i < (len : Int)) (hz : x = 0 ∨ x = 1) (k : z_A M E kc ks n ls st (z_u mi a (z_v f i x)) mr Q) : z_A M E kc ks pc ls (zi x :: zi i :: zo a :: st) (z_u mi a f) mr Q :=
  z_zast hd ht hn h0 h1 hz (by rw [z_us, z_uu]; exact k)
end ZNORM
/-! what is made: a new cell has the next number -/
def z_lb (a : Nat) : List (Option z_V) → Prop
  | [] => True
  | some (.inr (.inr (some r))) :: t => r < a ∧ z_lb a t
  | _ :: t => z_lb a t
theorem z_cv_new {al : Nat → Nat} {a q : Nat} {v : z_V} (h : z_lb a [some v]) : z_cv (z_u al a q) v = z_cv al v := by
  rcases v with x | y | r
  · rfl
  · rfl
  · cases r with
    | none => rfl
    | some r =>
      have h1 : r < a := h.1
      show va_rf (some (z_u al a q r)) = va_rf (some (al r))
      rw [z_un (by omega)]
theorem z_lb_cons {a : Nat} {v : Option z_V} {t : List (Option z_V)} (h : z_lb a (v :: t)) : (∀ w, v = some w → z_lb a [some w]) ∧ z_lb a t := by
  cases v with
  | none => exact ⟨(fun w hw => by cases hw), h⟩
  | some v =>
    rcases v with x | y | r
    · exact ⟨(fun w hw => by cases hw; trivial), h⟩
    · exact ⟨(fun w hw => by cases hw; trivial), h⟩
    · cases r with
      | none => exact ⟨(fun w hw => by cases hw; trivial), h⟩
      | some r => exact ⟨(fun w hw => by cases hw; exact ⟨h.1, trivial⟩), h.2⟩
theorem z_L_new {al : Nat → Nat} {a q : Nat} (ls : List (Option z_V)) : ∀ (i : Nat), z_lb a ls → z_L (z_u al a q) i ls = z_L al i ls := by
  induction ls with
  | nil => intro i _; rfl
  | cons v t ih =>
    intro i h
    obtain ⟨h1, h2⟩ := z_lb_cons h
    cases v with
    | none => exact ih (i + 1) h2
    | some v =>
      show (i, z_cv (z_u al a q) v) :: z_L _ (i + 1) t = (i, z_cv al v) :: z_L al (i + 1) t
      rw [ih (i + 1) h2, z_cv_new (h1 v rfl)]
theorem z_st_new {al : Nat → Nat} {a q : Nat} (st : List z_V) : z_lb a (st.map some) → st.map (z_cv (z_u al a q)) = st.map (z_cv al) := by
  induction st with
  | nil => intro _; rfl
  | cons v t ih =>
    intro h
    obtain ⟨h1, h2⟩ := z_lb_cons h
    rw [List.map_cons, List.map_cons, ih h2, z_cv_new (h1 v rfl)]
/-- the surroundings with one more cell -/
def z_E1 (E : z_E) (q : Nat) (t : Nat × Nat) : z_E := (E.1, z_u E.2.1 E.2.2.length q, E.2.2 ++ [t])
theorem z_W_push {E : z_E} {mi : z_Mi} {mr : z_Mr} {H : Heap} {q : Nat} {t : Nat × Nat} {f : Int → Int} (hP : z_P E mi mr H) :
    z_W (z_E1 E q t) (z_u mi E.2.2.length f) (z_u mr E.2.2.length (fun _ => none)) = z_W E mi mr ++ [(q, z_ce E.1 t f (fun _ => none))] := by
  have hlen : (z_W E mi mr).length = E.2.2.length := by simp [z_W]
  apply List.ext_getElem?
  intro i
  rcases Nat.lt_trichotomy i E.2.2.length with h | h | h
  · have ht : E.2.2[i]? = some E.2.2[i] := List.getElem?_eq_getElem h
    have ht' : (z_E1 E q t).2.2[i]? = some E.2.2[i] := by show (E.2.2 ++ [t])[i]? = _; rw [List.getElem?_append_left h]; exact ht
    rw [z_W_get ht', List.getElem?_append_left (by rw [hlen]; exact h), z_W_get ht, z_un (by omega), z_un (by omega)]
    have e1 : (z_E1 E q t).2.1 i = E.2.1 i := z_un (by omega)
    have e2 : z_mp (z_E1 E q t).2.1 (mr i) = z_mp E.2.1 (mr i) := by
      funext k
      unfold z_mp
      cases hk : mr i k with
      | none => rfl
      | some j =>
        have := hP.2 i k j h hk
        show some (z_u E.2.1 E.2.2.length q j) = some (E.2.1 j)
        rw [z_un (by omega)]
    rw [e1, e2]; rfl
  · subst h
    have ht' : (z_E1 E q t).2.2[E.2.2.length]? = some t := by show (E.2.2 ++ [t])[_]? = _; rw [List.getElem?_append_right (Nat.le_refl _), Nat.sub_self]; rfl
    rw [z_W_get ht', List.getElem?_append_right (by rw [hlen]; exact Nat.le_refl _), hlen, Nat.sub_self, z_us, z_us]
    have e1 : (z_E1 E q t).2.1 E.2.2.length = q := z_us _ _ _
    rw [e1]; rfl
  · rw [List.getElem?_eq_none (by simp only [z_W, List.length_map, List.length_zipIdx]; show (E.2.2 ++ [t]).length ≤ i; simp; omega), List.getElem?_eq_none (by rw [List.length_append, hlen]; simp; omega)]
theorem z_P_push {E : z_E} {mi : z_Mi} {mr : z_Mr} {H H1 : Heap} {q : Nat} {t : Nat × Nat} {f : Int → Int} (hP : z_P E mi mr H) (h : va_P E.1.1 vwCl (z_W (z_E1 E q t) (z_u mi E.2.2.length f) (z_u mr E.2.2.length (fun _ => none))) H1) : z_P (z_E1 E q t) (z_u mi E.2.2.length f) (z_u mr E.2.2.length (fun _ => none)) H1 := by
  refine ⟨h, fun i k j hi hj => ?_⟩
  have hi' : i < E.2.2.length + 1 := by
    have : (z_E1 E q t).2.2.length = E.2.2.length + 1 := by show (E.2.2 ++ [t]).length = _; simp
    omega
  show j < (E.2.2 ++ [t]).length
  rw [List.length_append]
  by_cases hc : i = E.2.2.length
  · subst hc; rw [z_us] at hj; cases hj
  · rw [z_un hc] at hj
    have := hP.2 i k j (by omega) hj
    omega
section ZNEW
variable {M : z_M} {E : z_E} {kc ks pc n : Nat} {ls : List (Option z_V)} {st : List z_V} {mi : z_Mi} {mr : z_Mr} {Q : z_Q}
def z_rn (M : z_M) (kc ks N : Nat) : Bool := Nat.ble (kc + 1) (z_mR M).cells && Nat.ble (ks + N) (z_mR M).slots
theorem z_rn_of {N : Nat} (h : z_rn M kc ks N = true) : kc + 1 ≤ (z_mR M).cells ∧ ks + N ≤ (z_mR M).slots := by
  simp only [z_rn, Bool.and_eq_true] at h
  exact ⟨Nat.le_of_ble_eq_true h.1, Nat.le_of_ble_eq_true h.2⟩
theorem z_new {idx ci N : Nat} {C : String} {T : u_T} (hd : z_D 3 M pc n (.new idx)) (hc : vwCl[ci]? = some (C, T, N)) (h1 : Cond.classLink (z_my M).cls idx C ∈ z_WG) (h2 : Cond.instantiable C N ∈ z_WG) (h3 : Cond.initialized C ∈ z_WG) (hrm : z_rn M kc ks N = true) (hls : z_lb E.2.2.length ls) (hst : z_lb E.2.2.length (st.map some))
    (k : ∀ q : Nat, z_A M (z_E1 E q (ci, 0)) (kc + 1) (ks + N) n ls (zo E.2.2.length :: st) (z_u mi E.2.2.length (fun _ => 0)) (z_u mr E.2.2.length (fun _ => none)) Q) : z_A M E kc ks pc ls st mi mr Q := by
  intro b0 p l e s m args below meth c H locs lsA Qm hC hP hD hS hL hK
  obtain ⟨hd, rfl⟩ := hd
  obtain ⟨h6, hN, hty, hnm, hin⟩ := z_cl hc
  obtain ⟨r1, r2⟩ := z_rn_of hrm
  have hw := hC.2.2.2.2.1
  refine va_new (fs := z_fs ci (fun _ => 0) (fun _ => none)) hC.1 hC.2.1 hw hin (z_ty ci) hty hC.2.2.2.1 (hw _ h1) (hw _ h2) (hw _ h3) hC.2.2.2.2.2.2.1 hP.1 hD hS (fun q hq => Nat.le_trans hC.2.2.2.2.2.2.2.1 hq) hc (fun j hj => ?_) r1 r2 hd (fun q H1 g1 g2 g3 => ?_)
  · have hv : vp_V (z_fs ci (fun _ => 0) (fun _ => none)) j = z_fv (z_ty ci j) 0 none := by
      unfold vp_V
      rw [List.getD_eq_getElem?_getD, z_fs_get (hN ▸ hj)]; rfl
    rw [hv]
    have hall : ∀ c, c < 6 → ∀ j, j < z_NF c → defaultValue (z_ty c j) = z_fv (z_ty c j) 0 none := by decide +kernel
    exact hall ci h6 j (hN ▸ hj)
  · have e8 := z_W_push (q := q) (t := (ci, 0)) (f := fun _ => 0) hP
    rw [z_ce_obj (by show ci < 10; omega)] at e8
    rw [← e8] at g1 g2
    have k1 := k q b0 p l e s m args below meth c H1 locs lsA Qm hC (z_P_push hP g1) g2 g3 (by show lv_has lsA (z_mn M) (z_L (z_u E.2.1 E.2.2.length q) 0 ls); rw [z_L_new ls 0 hls]; exact hL) hK
    have e9 : (zo E.2.2.length :: st).map (z_cv (z_E1 E q (ci, 0)).2.1) = .ref q :: st.map (z_cv E.2.1) := by
      rw [List.map_cons]
      show va_rf (some (z_u E.2.1 E.2.2.length q E.2.2.length)) :: st.map (z_cv (z_u E.2.1 E.2.2.length q)) = _
      rw [z_us, z_st_new st hst]; rfl
    rw [e9] at k1
    exact k1
theorem z_newi {len : Nat} (hd : z_D 2 M pc n (.newarray .int)) (hw1 : Cond.arrayClass .int ∈ z_WG) (hlen : len ≤ 100000) (hrm : z_rn M kc ks len = true) (hls : z_lb E.2.2.length ls) (hst : z_lb E.2.2.length (st.map some))
    (k : ∀ q : Nat, z_A M (z_E1 E q (10, len)) (kc + 1) (ks + len) n ls (zo E.2.2.length :: st) (z_u mi E.2.2.length (fun _ => 0)) (z_u mr E.2.2.length (fun _ => none)) Q) : z_A M E kc ks pc ls (zi (len : Nat) :: st) mi mr Q := by
  intro b0 p l e s m args below meth c H locs lsA Qm hC hP hD hS hL hK
  obtain ⟨hd, rfl⟩ := hd
  obtain ⟨r1, r2⟩ := z_rn_of hrm
  have hw := hC.2.2.2.2.1
  refine va_newa (atype := .int) (ty := .int) (a0 := (len, .inl fun _ => z_I 0)) hC.1 hC.2.1 (hw _ hw1) rfl hC.2.2.2.2.2.2.1 hP.1 hD hS (fun q hq => Nat.le_trans hC.2.2.2.2.2.2.2.1 hq) (fun cA => by rw [vp_cell_i, z_I_0]; rfl) (by rw [← z_I_0, z_I_lt (by constructor <;> omega) z_R0]; omega) (by rw [z_I_clamp (by omega) (by omega)]; omega) (by show len * 4 ≤ _; omega) r1 r2 hd (fun q cA H1 g0 g1 g2 g3 => ?_)
  have e0 := (g0.2 0 _ rfl).2
  have e1 := (g0.2 5 _ rfl).2
  have e2 : cA = E.1.2.1 := Option.some.inj ((show s.vm.findClass _ = some cA from e1).symm.trans e0)
  subst e2
  have e8 := z_W_push (q := q) (t := (10, len)) (f := fun _ => 0) hP
  rw [z_ce_i] at e8
  rw [← e8] at g1 g2
  have k1 := k q b0 p l e s m args below meth c H1 locs lsA Qm hC (z_P_push hP g1) g2 g3 (by show lv_has lsA (z_mn M) (z_L (z_u E.2.1 E.2.2.length q) 0 ls); rw [z_L_new ls 0 hls]; exact hL) hK
  have e9 : (zo E.2.2.length :: st).map (z_cv (z_E1 E q (10, len)).2.1) = .ref q :: st.map (z_cv E.2.1) := by
    rw [List.map_cons]
    show va_rf (some (z_u E.2.1 E.2.2.length q E.2.2.length)) :: st.map (z_cv (z_u E.2.1 E.2.2.length q)) = _
    rw [z_us, z_st_new st hst]; rfl
  rw [e9] at k1
  exact k1
theorem z_newz {len : Nat} (hd : z_D 2 M pc n (.newarray .boolean)) (hw1 : Cond.arrayClass .boolean ∈ z_WG) (hlen : len ≤ 100000) (hrm : z_rn M kc ks len = true) (hls : z_lb E.2.2.length ls) (hst : z_lb E.2.2.length (st.map some))
    (k : ∀ q : Nat, z_A M (z_E1 E q (11, len)) (kc + 1) (ks + len) n ls (zo E.2.2.length :: st) (z_u mi E.2.2.length (fun _ => 0)) (z_u mr E.2.2.length (fun _ => none)) Q) : z_A M E kc ks pc ls (zi (len : Nat) :: st) mi mr Q := by
  intro b0 p l e s m args below meth c H locs lsA Qm hC hP hD hS hL hK
  obtain ⟨hd, rfl⟩ := hd
  obtain ⟨r1, r2⟩ := z_rn_of hrm
  have hw := hC.2.2.2.2.1
  refine va_newa (atype := .boolean) (ty := .boolean) (a0 := (len, .inl fun _ => z_I 0)) hC.1 hC.2.1 (hw _ hw1) rfl hC.2.2.2.2.2.2.1 hP.1 hD hS (fun q hq => Nat.le_trans hC.2.2.2.2.2.2.2.1 hq) (fun cA => by rw [vp_cell_i, z_I_0]; rfl) (by rw [← z_I_0, z_I_lt (by constructor <;> omega) z_R0]; omega) (by rw [z_I_clamp (by omega) (by omega)]; omega) (by show len * 1 ≤ _; omega) r1 r2 hd (fun q cA H1 g0 g1 g2 g3 => ?_)
  have e0 := (g0.2 1 _ rfl).2
  have e1 := (g0.2 5 _ rfl).2
  have e2 : cA = E.1.2.2.1 := Option.some.inj ((show s.vm.findClass _ = some cA from e1).symm.trans e0)
  subst e2
  have e8 := z_W_push (q := q) (t := (11, len)) (f := fun _ => 0) hP
  rw [z_ce_z] at e8
  rw [← e8] at g1 g2
  have k1 := k q b0 p l e s m args below meth c H1 locs lsA Qm hC (z_P_push hP g1) g2 g3 (by show lv_has lsA (z_mn M) (z_L (z_u E.2.1 E.2.2.length q) 0 ls); rw [z_L_new ls 0 hls]; exact hL) hK
  have e9 : (zo E.2.2.length :: st).map (z_cv (z_E1 E q (11, len)).2.1) = .ref q :: st.map (z_cv E.2.1) := by
    rw [List.map_cons]
    show va_rf (some (z_u E.2.1 E.2.2.length q E.2.2.length)) :: st.map (z_cv (z_u E.2.1 E.2.2.length q)) = _
    rw [z_us, z_st_new st hst]; rfl
  rw [e9] at k1
  exact k1
/-- an array of references: kind t over the class of index ci -/
theorem z_newq {idx len t ci : Nat} {C : String} (hd : z_D 3 M pc n (.anewarray idx)) (h1 : Cond.classLink (z_my M).cls idx C ∈ z_WG) (h2 : Cond.arrayOver (.object C) ∈ z_WN) (h3 : (t = 12 ∧ C = RX2) ∨ (t = 13 ∧ C = RX0) ∨ (t = 14 ∧ C = RX3)) (hlen : len ≤ 100000) (hrm : z_rn M kc ks len = true) (hls : z_lb E.2.2.length ls) (hst : z_lb E.2.2.length (st.map some))
    (k : ∀ q : Nat, z_A M (z_E1 E q (t, len)) (kc + 1) (ks + len) n ls (zo E.2.2.length :: st) (z_u mi E.2.2.length (fun _ => 0)) (z_u mr E.2.2.length (fun _ => none)) Q) : z_A M E kc ks pc ls (zi (len : Nat) :: st) mi mr Q := by
  intro b0 p l e s m args below meth c H locs lsA Qm hC hP hD hS hL hK
  obtain ⟨hd, rfl⟩ := hd
  obtain ⟨r1, r2⟩ := z_rn_of hrm
  have hw := hC.2.2.2.2.1
  refine va_newq (C := C) hC.1 hC.2.1 hC.2.2.2.1 (hw _ h1) (hC.2.2.2.2.2.1 _ h2) hC.2.2.2.2.2.2.1 hP.1 hD hS (fun q hq => Nat.le_trans hC.2.2.2.2.2.2.2.1 hq) (N' := len) (by rw [← z_I_0, z_I_lt (by constructor <;> omega) z_R0]; omega) (by rw [z_I_clamp (by omega) (by omega)]; omega) (by omega) r1 r2 hd (fun q cA H1 g0 g1 g2 g3 => ?_)
  obtain ⟨kA, comp, -, -, -, e1⟩ := (g0.2 5 _ rfl).2
  have e8 := z_W_push (q := q) (t := (t, len)) (f := fun _ => 0) hP
  have e7 : z_ce E.1 (t, len) (fun _ => 0) (fun _ => none) = .inl (cA, len, .inr (.inr (.inr (.inr fun _ => none)))) := by
    rcases h3 with ⟨rfl, rfl⟩ | ⟨rfl, rfl⟩ | ⟨rfl, rfl⟩
    · obtain ⟨_, _, -, -, -, e0⟩ := (g0.2 2 _ rfl).2
      have e2 : cA = E.1.2.2.2.1 := Option.some.inj (e1.symm.trans e0)
      rw [z_ce_12, e2]
    · obtain ⟨_, _, -, -, -, e0⟩ := (g0.2 3 _ rfl).2
      have e2 : cA = E.1.2.2.2.2.1 := Option.some.inj (e1.symm.trans e0)
      rw [z_ce_13, e2]
    · obtain ⟨_, _, -, -, -, e0⟩ := (g0.2 4 _ rfl).2
      have e2 : cA = E.1.2.2.2.2.2 := Option.some.inj (e1.symm.trans e0)
      rw [z_ce_14, e2]
  rw [e7] at e8
  rw [← e8] at g1 g2
  have k1 := k q b0 p l e s m args below meth c H1 locs lsA Qm hC (z_P_push hP g1) g2 g3 (by show lv_has lsA (z_mn M) (z_L (z_u E.2.1 E.2.2.length q) 0 ls); rw [z_L_new ls 0 hls]; exact hL) hK
  have e9 : (zo E.2.2.length :: st).map (z_cv (z_E1 E q (t, len)).2.1) = .ref q :: st.map (z_cv E.2.1) := by
    rw [List.map_cons]
    show va_rf (some (z_u E.2.1 E.2.2.length q E.2.2.length)) :: st.map (z_cv (z_u E.2.1 E.2.2.length q)) = _
    rw [z_us, z_st_new st hst]; rfl
  rw [e9] at k1
  exact k1
def z_oroom (M : z_M) : Bool := Nat.ble 1 (z_mR M).frames && Nat.ble 20 (z_mR M).locals
def z_LO (own : String) (idx : Nat) : Prop := Cond.methodLink own idx Lib.objectInit ∈ z_WG ∧ Cond.instanceMethod Lib.objectInit ∈ z_WG ∧ Cond.code Lib.objectInit ⟨#[0xb1]⟩ 1 none ∈ z_WG
theorem z_obj {idx a : Nat} (hd : z_D 3 M pc n (.invokespecial idx)) (hl : z_LO (z_my M).cls idx) (hr : z_oroom M = true) (hcat : Nat.ble (st.map z_cat).sum 8 = true) (k : z_A M E kc ks n ls st mi mr Q) : z_A M E kc ks pc ls (zo a :: st) mi mr Q := by
  intro b0 p l e s m args below meth c H locs lsA Qm hC hP hD hS hL hK
  obtain ⟨hd, rfl⟩ := hd
  simp only [z_oroom, Bool.and_eq_true] at hr
  have hw := hC.2.2.2.2.1
  have hcat := Nat.le_of_ble_eq_true hcat
  have h20 := Nat.le_of_ble_eq_true hr.2
  have k1 := k b0 p l e s m args below meth c H locs lsA Qm hC hP hD hS hL hK
  refine W.objInit hC.1 hC.2.1 hC.2.2.2.1 (hw _ hl.1) (hw _ hl.2.1) (hw _ hl.2.2) rfl (by rw [hC.2.2.1]; exact hL.1) rfl hd (Nat.le_of_ble_eq_true hr.1) ?_ ?_
  · show 2 * 0 + _ + 12 ≤ _
    rw [z_cats]; omega
  · exact k1
end ZNEW
end
section
theorem mm_RX4_3 : z_LO RX4 3 := ⟨z_tab 14 (by decide +kernel) rfl, z_tab 15 (by decide +kernel) rfl, z_tab 16 (by decide +kernel) rfl⟩
theorem mm_RX4_116 : z_LM RX4 116 Lib.Math.min.name Lib.Math.min.code 2 := ⟨z_tab 217 (by decide +kernel) rfl, z_tab 218 (by decide +kernel) rfl, z_tab 8 (by decide +kernel) rfl, z_tab 219 (by decide +kernel) rfl⟩
theorem mm_RX4_148 : z_LM RX4 148 Lib.Math.abs.name Lib.Math.abs.code 1 := ⟨z_tab 489 (by decide +kernel) rfl, z_tab 490 (by decide +kernel) rfl, z_tab 8 (by decide +kernel) rfl, z_tab 491 (by decide +kernel) rfl⟩
theorem mm_RX4_172 : z_LM RX4 172 Lib.Math.max.name Lib.Math.max.code 2 := ⟨z_tab 286 (by decide +kernel) rfl, z_tab 287 (by decide +kernel) rfl, z_tab 8 (by decide +kernel) rfl, z_tab 288 (by decide +kernel) rfl⟩
theorem mm_RX0_1 : z_LO RX0 1 := ⟨z_tab 30 (by decide +kernel) rfl, z_tab 15 (by decide +kernel) rfl, z_tab 16 (by decide +kernel) rfl⟩
theorem mm_RX1_3 : z_LO RX1 3 := ⟨z_tab 121 (by decide +kernel) rfl, z_tab 15 (by decide +kernel) rfl, z_tab 16 (by decide +kernel) rfl⟩
theorem mm_RX1_101 : z_LM RX1 101 Lib.Math.max.name Lib.Math.max.code 2 := ⟨z_tab 438 (by decide +kernel) rfl, z_tab 287 (by decide +kernel) rfl, z_tab 8 (by decide +kernel) rfl, z_tab 288 (by decide +kernel) rfl⟩
theorem mm_RX1_111 : z_LM RX1 111 Lib.Math.min.name Lib.Math.min.code 2 := ⟨z_tab 443 (by decide +kernel) rfl, z_tab 218 (by decide +kernel) rfl, z_tab 8 (by decide +kernel) rfl, z_tab 219 (by decide +kernel) rfl⟩
theorem mm_RX2_3 : z_LO RX2 3 := ⟨z_tab 54 (by decide +kernel) rfl, z_tab 15 (by decide +kernel) rfl, z_tab 16 (by decide +kernel) rfl⟩
theorem mm_RX2_25 : Cond.methodLink RX2 25 arraycopyName ∈ z_WG ∧ Cond.native arraycopyName ∈ z_WG ∧ Cond.static arraycopyName ∈ z_WG ∧ Cond.initialized "java/lang/System" ∈ z_WG := ⟨z_tab 214 (by decide +kernel) rfl, z_tab 216 (by decide +kernel) rfl, z_tab 215 (by decide +kernel) rfl, z_tab 7 (by decide +kernel) rfl⟩
theorem mm_RX3_3 : z_LO RX3 3 := ⟨z_tab 22 (by decide +kernel) rfl, z_tab 15 (by decide +kernel) rfl, z_tab 16 (by decide +kernel) rfl⟩
theorem mm_RX3_130 : z_LM RX3 130 Lib.Math.max.name Lib.Math.max.code 2 := ⟨z_tab 413 (by decide +kernel) rfl, z_tab 287 (by decide +kernel) rfl, z_tab 8 (by decide +kernel) rfl, z_tab 288 (by decide +kernel) rfl⟩
theorem mm_RX3_159 : z_LM RX3 159 Lib.Math.min.name Lib.Math.min.code 2 := ⟨z_tab 473 (by decide +kernel) rfl, z_tab 218 (by decide +kernel) rfl, z_tab 8 (by decide +kernel) rfl, z_tab 219 (by decide +kernel) rfl⟩
theorem mm_RX5_1 : z_LO RX5 1 := ⟨z_tab 596 (by decide +kernel) rfl, z_tab 15 (by decide +kernel) rfl, z_tab 16 (by decide +kernel) rfl⟩
end
section
section ZDEEP
variable {M : z_M} {E : z_E} {kc ks pc n : Nat} {ls : List (Option z_V)} {st : List z_V} {mi mi' : z_Mi} {mr : z_Mr} {Q : z_Q}
theorem z_putiX {idx ci fk a N : Nat} {C : String} {T : u_T} {fi x : Int} {f : Int → Int} (hd : z_D 3 M pc n (.putfield idx)) (hf : z_F (z_my M).cls idx ci fk C T N) (ht : E.2.2[a]? = some (ci, 0)) (hk : ((fk : Nat) : Int) = fi) (hfin : (T fk).2.2.2 = false) (hz : z_ty ci fk = .int ∨ (z_ty ci fk = .boolean ∧ (x = 0 ∨ x = 1))) (hm : mi a = f) (hn : z_u mi a (z_v f fi x) = mi') (k : z_A M E kc ks n ls st mi' mr Q) : z_A M E kc ks pc ls (zi x :: zo a :: st) mi mr Q :=
  z_puti hd hf ht hk hfin hz (by rw [hm, hn]; exact k)
theorem z_iastX {a len : Nat} {i x : Int} {f : Int → Int} (hd : z_D 1 M pc n .iastore) (ht : E.2.2[a]? = some (10, len)) (hn0 : len ≤ 2147483648) (h0 : 0 ≤ i) (h1 : i < (len : Int)) (hm : mi a = f) (hn : z_u mi a (z_v f i x) = mi') (k : z_A M E kc ks n ls st mi' mr Q) : z_A M E kc ks pc ls (zi x :: zi i :: zo a :: st) mi mr Q :=
  z_iast hd ht hn0 h0 h1 (by rw [hm, hn]; exact k)
theorem z_zastX {a len : Nat} {i x : Int} {f : Int → Int} (hd : z_D 1 M pc n .bastore) (ht : E.2.2[a]? = some (11, len)) (hn0 : len ≤ 2147483648) (h0 : 0 ≤ i) (h1 : i < (len : Int)) (hz : x = 0 ∨ x = 1) (hm : mi a = f) (hn : z_u mi a (z_v f i x) = mi') (k : z_A M E kc ks n ls st mi' mr Q) : z_A M E kc ks pc ls (zi x :: zi i :: zo a :: st) mi mr Q :=
  z_zast hd ht hn0 h0 h1 hz (by rw [hm, hn]; exact k)
theorem z_ux {α : Type} {m m' : Nat → α} {a b : Nat} {g f : α} (h : b ≠ a) (e : z_u m a f = m') : z_u (z_u m b g) a f = z_u m' b g := by
  rw [z_uc m g f h, e]
end ZDEEP
section ZBOOL
variable {M : z_M} {E : z_E} {kc ks pc n tgt : Nat} {off : Int} {ls : List (Option z_V)} {st : List z_V} {mi : z_Mi} {mr : z_Mr} {Q : z_Q}
theorem z_if_eqB {p : Prop} [Decidable p] (hd : z_J M pc n tgt off (.ifCond .eq off)) (kt : ¬ p → z_A M E kc ks tgt ls st mi mr Q) (kf : p → z_A M E kc ks n ls st mi mr Q) : z_A M E kc ks pc ls (zi (if p then 1 else 0) :: st) mi mr Q := by
  by_cases h : p
  · rw [if_pos h]
    exact z_if_eq hd ⟨by decide, by decide⟩ (fun q => absurd q (by decide)) (fun _ => kf h)
  · rw [if_neg h]
    exact z_if_eq hd ⟨by decide, by decide⟩ (fun _ => kt h) (fun q => absurd rfl q)
theorem z_if_neB {p : Prop} [Decidable p] (hd : z_J M pc n tgt off (.ifCond .ne off)) (kt : p → z_A M E kc ks tgt ls st mi mr Q) (kf : ¬ p → z_A M E kc ks n ls st mi mr Q) : z_A M E kc ks pc ls (zi (if p then 1 else 0) :: st) mi mr Q := by
  by_cases h : p
  · rw [if_pos h]
    exact z_if_ne hd ⟨by decide, by decide⟩ (fun _ => kt h) (fun q => absurd q (by decide))
  · rw [if_neg h]
    exact z_if_ne hd ⟨by decide, by decide⟩ (fun q => absurd rfl q) (fun _ => kf h)
end ZBOOL
/-! fewer locals -/
def z_sub : List (Option z_V) → List (Option z_V) → Prop
  | [], _ => True
  | none :: t', _ :: t => z_sub t' t
  | some v :: t', some w :: t => v = w ∧ z_sub t' t
  | _, _ => False
theorem z_sub_at : ∀ (ls' ls : List (Option z_V)), z_sub ls' ls → ∀ (i : Nat) (v : z_V), ls'[i]? = some (some v) → ls[i]? = some (some v)
  | [], _, _, i, v, h => by simp at h
  | none :: t', [], h, i, v, hi => by simp [z_sub] at h
  | none :: t', _ :: t, h, i, v, hi => by
    cases i with
    | zero => simp at hi
    | succ i => simpa using z_sub_at t' t h i v (by simpa using hi)
  | some w :: t', [], h, i, v, hi => by simp [z_sub] at h
  | some w :: t', none :: t, h, i, v, hi => by simp [z_sub] at h
  | some w :: t', some u :: t, h, i, v, hi => by
    obtain ⟨h1, h2⟩ := h
    subst h1
    cases i with
    | zero => simpa using hi
    | succ i => simpa using z_sub_at t' t h2 i v (by simpa using hi)
theorem z_fgt {M : z_M} {E : z_E} {kc ks pc : Nat} {ls ls' : List (Option z_V)} {st : List z_V} {mi : z_Mi} {mr : z_Mr} {Q : z_Q} (h : z_sub ls' ls) (k : z_A M E kc ks pc ls' st mi mr Q) : z_A M E kc ks pc ls st mi mr Q := by
  intro b0 p l e s m args below meth c H locs lsA Qm hC hP hD hS hL hK
  refine k b0 p l e s m args below meth c H locs lsA Qm hC hP hD hS (z_L_sub hL (fun q hq => ?_)) hK
  obtain ⟨j, v, h1, h2⟩ := (z_L_mem E.2.1 ls' 0 q).mp hq
  exact (z_L_mem E.2.1 ls 0 q).mpr ⟨j, v, z_sub_at ls' ls h j v h1, h2⟩
end
section
/-! THE PAGE AS NUMBERS: pure words for the reference's methods -/
/-- where the model's cells lie -/
def z_MO (E : z_E) (mr : z_Mr) (o : Nat) : Prop := E.2.2[o]? = some (5, 0) ∧ E.2.2[o + 1]? = some (10, 6471) ∧ E.2.2[o + 2]? = some (10, 704) ∧ E.2.2[o + 3]? = some (10, 4) ∧ E.2.2[o + 4]? = some (10, 4) ∧ E.2.2[o + 5]? = some (10, 4) ∧ E.2.2[o + 6]? = some (10, 4) ∧ E.2.2[o + 7]? = some (11, 4) ∧ mr o 0 = some (o + 1) ∧ mr o 2 = some (o + 2) ∧ mr o 3 = some (o + 3) ∧ mr o 4 = some (o + 4) ∧ mr o 5 = some (o + 5) ∧ mr o 6 = some (o + 6) ∧ mr o 7 = some (o + 7)
/-- all numbers are small -/
def z_pr (P : Int → Int) : Prop := ∀ k, 0 ≤ P k ∧ P k ≤ 255
/-- a row of the page; the page with another row -/
def p_row (P : Int → Int) (s : Int) : Int → Int := fun c => P (15 + 22 * s + c)
def p_upd (P : Int → Int) (s : Int) (r : Int → Int) : Int → Int := fun k => if 15 + 22 * s ≤ k ∧ k < 15 + 22 * s + 22 then r (k - (15 + 22 * s)) else P k
theorem z_pr_v {P : Int → Int} {i v : Int} (h : z_pr P) (h0 : 0 ≤ v) (h1 : v ≤ 255) : z_pr (z_v P i v) := by
  intro k; unfold z_v; split
  · exact ⟨h0, h1⟩
  · exact h k
theorem p_row_upd (P : Int → Int) (s : Int) (r : Int → Int) {c : Int} (h0 : 0 ≤ c) (h1 : c < 22) : p_row (p_upd P s r) s c = r c := by
  unfold p_row p_upd
  rw [if_pos ⟨by omega, by omega⟩]
  congr 1; omega
theorem p_row_ne (P : Int → Int) {s t : Int} (r : Int → Int) {c : Int} (h0 : 0 ≤ c) (h1 : c < 22) (hn : s ≠ t) : p_row (p_upd P s r) t c = p_row P t c := by
  unfold p_row p_upd
  rw [if_neg (by omega)]
theorem p_upd_hd (P : Int → Int) {s : Int} (r : Int → Int) {k : Int} (h : k < 15 + 22 * s) : p_upd P s r k = P k := if_neg (by omega)
theorem p_upd_out (P : Int → Int) {s : Int} (r : Int → Int) {k : Int} (h : k < 15 + 22 * s ∨ 15 + 22 * s + 22 ≤ k) : p_upd P s r k = P k := if_neg (by omega)
theorem p_upd_upd (P : Int → Int) (s : Int) (r r' : Int → Int) : p_upd (p_upd P s r) s r' = p_upd P s r' := by
  funext k; unfold p_upd; split <;> rfl
theorem p_upd_self (P : Int → Int) (s : Int) : p_upd P s (p_row P s) = P := by
  funext k; unfold p_upd p_row; split
  · congr 1; omega
  · rfl
theorem p_upd_ext {P : Int → Int} {s : Int} {r r' : Int → Int} (h : ∀ c, 0 ≤ c → c < 22 → r c = r' c) : p_upd P s r = p_upd P s r' := by
  funext k; unfold p_upd; split
  · next hk => exact h _ (by omega) (by omega)
  · rfl
theorem p_upd_eq {P : Int → Int} {s : Int} {r : Int → Int} (h : ∀ c, 0 ≤ c → c < 22 → r c = p_row P s c) : P = p_upd P s r :=
  (p_upd_self P s).symm.trans (p_upd_ext (fun c h0 h1 => (h c h0 h1).symm))
theorem p_v_upd (P : Int → Int) (s c v : Int) (h0 : 0 ≤ c) (h1 : c < 22) : z_v P (15 + 22 * s + c) v = p_upd P s (z_v (p_row P s) c v) := by
  funext k; simp only [z_v, p_upd, p_row]
  by_cases h : 15 + 22 * s ≤ k ∧ k < 15 + 22 * s + 22
  · rw [if_pos h]
    by_cases h2 : k = 15 + 22 * s + c
    · rw [if_pos h2, if_pos (by omega)]
    · rw [if_neg h2, if_neg (by omega)]
      congr 1; omega
  · rw [if_neg h, if_neg (by omega)]
theorem z_pr_upd {P : Int → Int} {s : Int} {r : Int → Int} (h : z_pr P) (hr : ∀ c, 0 ≤ c → c < 22 → 0 ≤ r c ∧ r c ≤ 255) : z_pr (p_upd P s r) := by
  intro k; unfold p_upd; split
  · next hk => exact hr _ (by omega) (by omega)
  · exact h k
/-! rows -/
def r_unw (r : Int → Int) : Int → Int := fun c => if c = 20 ∨ c = 21 then 0 else r c
def r_blank : Int → Int := fun c => if c = 20 ∨ c = 21 then 0 else 32
/-- a cell becomes something; the last one takes wrap and gap away -/
def r_set (W c v : Int) (r : Int → Int) : Int → Int := fun j => if j = c then v else if (j = 20 ∨ j = 21) ∧ c = W - 1 then 0 else r j
def r_fill (W a b : Int) (r : Int → Int) : Int → Int := fun j => if a ≤ j ∧ j ≤ b then 32 else if (j = 20 ∨ j = 21) ∧ a ≤ W - 1 ∧ W - 1 ≤ b then 0 else r j
def r_free1 (W a : Int) (r : Int → Int) : Int → Int := if 0 < a ∧ 128 ≤ r a then r_set W (a - 1) 32 r else r
def r_free2 (W b : Int) (r : Int → Int) : Int → Int := if b + 1 < W ∧ 65 ≤ r b ∧ r b ≤ 90 then r_set W (b + 1) 32 r else r
def r_free (W a b : Int) (r : Int → Int) : Int → Int := r_free2 W b (r_free1 W a r)
def r_erase (W a b : Int) (r : Int → Int) : Int → Int := r_fill W a b (r_free W a b r)
theorem r_unw_cell {r : Int → Int} {c : Int} (h : c < 20) : r_unw r c = r c := if_neg (by omega)
/-- numbers counted from 0 on -/
def n_cnt (p : Int → Prop) [DecidablePred p] : Nat → Int
  | 0 => 0
  | n + 1 => n_cnt p n + (if p (n : Nat) then 1 else 0)
theorem n_cnt_0 (p : Int → Prop) [DecidablePred p] : n_cnt p 0 = 0 := rfl
theorem n_cnt_s (p : Int → Prop) [DecidablePred p] {c : Int} (h : 0 ≤ c) : n_cnt p (c + 1).toNat = n_cnt p c.toNat + (if p c then 1 else 0) := by
  rw [show (c + 1).toNat = c.toNat + 1 by omega]
  show n_cnt p c.toNat + (if p (c.toNat : Nat) then 1 else 0) = _
  rw [show ((c.toNat : Nat) : Int) = c by omega]
theorem n_cnt_b (p : Int → Prop) [DecidablePred p] (n : Nat) : 0 ≤ n_cnt p n ∧ n_cnt p n ≤ n := by
  induction n with
  | zero => exact ⟨Int.le_refl _, Int.le_refl _⟩
  | succ n ih =>
    show 0 ≤ n_cnt p n + (if p (n : Nat) then 1 else 0) ∧ n_cnt p n + (if p (n : Nat) then 1 else 0) ≤ ((n + 1 : Nat) : Int)
    split <;> omega
theorem n_cnt_c {p q : Int → Prop} [DecidablePred p] [DecidablePred q] {n : Nat} (h : ∀ k : Int, 0 ≤ k → k < n → (p k ↔ q k)) : n_cnt p n = n_cnt q n := by
  induction n with
  | zero => rfl
  | succ n ih =>
    show n_cnt p n + (if p (n : Nat) then 1 else 0) = n_cnt q n + (if q (n : Nat) then 1 else 0)
    rw [ih (fun k h0 h1 => h k h0 (by omega))]
    have := h (n : Nat) (by omega) (by omega)
    by_cases hp : p (n : Nat)
    · rw [if_pos hp, if_pos (this.mp hp)]
    · rw [if_neg hp, if_neg (fun q => hp (this.mpr q))]
/-- the number of cells up to the last one that is not blank -/
def n_used (r : Int → Int) : Nat → Int
  | 0 => 0
  | n + 1 => if r (n : Nat) = 32 then n_used r n else ((n + 1 : Nat) : Int)
end
section
/-! sums, used cells -/
def n_sum (f : Int → Int) : Nat → Int
  | 0 => 0
  | n + 1 => n_sum f n + f (n : Nat)
theorem n_sum_s (f : Int → Int) {c : Int} (h : 0 ≤ c) : n_sum f (c + 1).toNat = n_sum f c.toNat + f c := by
  rw [show (c + 1).toNat = c.toNat + 1 by omega]
  show n_sum f c.toNat + f (c.toNat : Nat) = _
  rw [show ((c.toNat : Nat) : Int) = c by omega]
theorem n_sum_c {f g : Int → Int} {n : Nat} (h : ∀ k : Int, 0 ≤ k → k < n → f k = g k) : n_sum f n = n_sum g n := by
  induction n with
  | zero => rfl
  | succ n ih =>
    show n_sum f n + f (n : Nat) = n_sum g n + g (n : Nat)
    rw [ih (fun k h0 h1 => h k h0 (by omega)), h (n : Nat) (by omega) (by omega)]
theorem n_sum_b {f : Int → Int} {b : Int} (n : Nat) (h : ∀ k : Int, 0 ≤ k → k < n → 0 ≤ f k ∧ f k ≤ b) : 0 ≤ n_sum f n ∧ n_sum f n ≤ n * b := by
  induction n with
  | zero => simp [n_sum]
  | succ n ih =>
    have h1 := ih (fun k h0 h1 => h k h0 (by omega))
    have h2 := h (n : Nat) (by omega) (by omega)
    show 0 ≤ n_sum f n + f (n : Nat) ∧ n_sum f n + f (n : Nat) ≤ ((n + 1 : Nat) : Int) * b
    have e : ((n + 1 : Nat) : Int) * b = (n : Int) * b + b := by rw [Int.natCast_add, Int.add_mul]; simp
    rw [e]; omega
theorem n_used_z {r : Int → Int} {n : Int} (h0 : 0 < n) (h : r (n - 1) = 32) : n_used r n.toNat = n_used r (n - 1).toNat := by
  have e : n.toNat = (n - 1).toNat + 1 := by omega
  rw [e]
  show (if r ((n - 1).toNat : Nat) = 32 then _ else _) = _
  rw [show (((n - 1).toNat : Nat) : Int) = n - 1 by omega, if_pos h]
theorem n_used_n {r : Int → Int} {n : Int} (h0 : 0 < n) (h : ¬ r (n - 1) = 32) : n_used r n.toNat = n := by
  have e : n.toNat = (n - 1).toNat + 1 := by omega
  rw [e]
  show (if r ((n - 1).toNat : Nat) = 32 then _ else _) = _
  rw [show (((n - 1).toNat : Nat) : Int) = n - 1 by omega, if_neg h]
  omega
theorem n_used_b (r : Int → Int) (n : Nat) : 0 ≤ n_used r n ∧ n_used r n ≤ n := by
  induction n with
  | zero => exact ⟨Int.le_refl _, Int.le_refl _⟩
  | succ n ih =>
    show 0 ≤ (if r (n : Nat) = 32 then n_used r n else ((n + 1 : Nat) : Int)) ∧ (if r (n : Nat) = 32 then n_used r n else ((n + 1 : Nat) : Int)) ≤ ((n + 1 : Nat) : Int)
    split <;> omega
theorem n_used_c {r r' : Int → Int} {n : Nat} (h : ∀ k : Int, 0 ≤ k → k < n → r k = r' k) : n_used r n = n_used r' n := by
  induction n with
  | zero => rfl
  | succ n ih =>
    show (if r (n : Nat) = 32 then n_used r n else _) = (if r' (n : Nat) = 32 then n_used r' n else _)
    rw [ih (fun k h0 h1 => h k h0 (by omega)), h (n : Nat) (by omega) (by omega)]
/-- how many cells of a row are not blank; of the screen; of rows -/
def m_fill (P : Int → Int) (s : Int) : Int := n_cnt (fun c => P (15 + 22 * s + c) ≠ 32) (P 0).toNat
def m_fillA (P : Int → Int) : Int := n_sum (fun r => m_fill P (24 + r)) (P 1).toNat
def m_used (P : Int → Int) (s : Int) : Int := n_used (p_row P s) (P 0).toNat
theorem m_fill_b {P : Int → Int} {s : Int} (h : 0 ≤ P 0) : 0 ≤ m_fill P s ∧ m_fill P s ≤ P 0 := by
  have := n_cnt_b (fun c => P (15 + 22 * s + c) ≠ 32) (P 0).toNat
  unfold m_fill; omega
theorem m_used_b {P : Int → Int} {s : Int} (h : 0 ≤ P 0) : 0 ≤ m_used P s ∧ m_used P s ≤ P 0 := by
  have := n_used_b (p_row P s) (P 0).toNat
  unfold m_used; omega
/-! the page's own steps -/
def p_ahead (P : Int → Int) (row : Int) : Int → Int := if 0 < row then p_upd P (24 + row - 1) (r_unw (p_row P (24 + row - 1))) else if 0 < P 14 then p_upd P (P 14 - 1) (r_unw (p_row P (P 14 - 1))) else P
def p_sets (P : Int → Int) (row c v : Int) : Int → Int := p_upd P (24 + row) (r_set (P 0) c v (p_row P (24 + row)))
def p_frees (P : Int → Int) (row a b : Int) : Int → Int := p_upd P (24 + row) (r_free (P 0) a b (p_row P (24 + row)))
def p_erases (P : Int → Int) (row a b : Int) : Int → Int := p_upd P (24 + row) (r_erase (P 0) a b (p_row P (24 + row)))
def p_rec (n : Int) (P : Int → Int) : Int → Int := fun k => if n = 8 then (if 719 ≤ k ∧ k < 5752 then P (k + 719) else if 5752 ≤ k ∧ k < 6471 then P (k - 5752) else P k) else if 719 * (n + 1) ≤ k ∧ k < 719 * (n + 2) then P (k - 719 * (n + 1)) else P k
def f_rec (F : Int → Int) : Int → Int := z_v F 1 (if F 1 = 8 then 8 else F 1 + 1)
end
section
theorem z_pr_row {P : Int → Int} (h : z_pr P) (s : Int) : z_pr (p_row P s) := fun c => h _
theorem z_pr_up {P : Int → Int} {s : Int} {r : Int → Int} (h : z_pr P) (hr : z_pr r) : z_pr (p_upd P s r) := z_pr_upd h (fun c _ _ => hr c)
theorem z_pr_set {W c v : Int} {r : Int → Int} (h : z_pr r) (h0 : 0 ≤ v) (h1 : v ≤ 255) : z_pr (r_set W c v r) := by
  intro j; unfold r_set
  have := h j
  split
  · exact ⟨h0, h1⟩
  · split <;> omega
theorem z_pr_unw {r : Int → Int} (h : z_pr r) : z_pr (r_unw r) := by
  intro j; unfold r_unw
  have := h j
  split <;> omega
theorem z_pr_blank : z_pr r_blank := by
  intro j; unfold r_blank
  split <;> omega
theorem z_pr_fill {W a b : Int} {r : Int → Int} (h : z_pr r) : z_pr (r_fill W a b r) := by
  intro j; unfold r_fill
  have := h j
  split
  · omega
  · split <;> omega
theorem z_pr_free1 {W a : Int} {r : Int → Int} (h : z_pr r) : z_pr (r_free1 W a r) := by
  unfold r_free1
  split
  · exact z_pr_set h (by decide) (by decide)
  · exact h
theorem z_pr_free2 {W a : Int} {r : Int → Int} (h : z_pr r) : z_pr (r_free2 W a r) := by
  unfold r_free2
  split
  · exact z_pr_set h (by decide) (by decide)
  · exact h
theorem z_pr_free {W a b : Int} {r : Int → Int} (h : z_pr r) : z_pr (r_free W a b r) := z_pr_free2 (z_pr_free1 h)
theorem z_pr_erase {W a b : Int} {r : Int → Int} (h : z_pr r) : z_pr (r_erase W a b r) := z_pr_fill (z_pr_free h)
theorem z_pr_psets {P : Int → Int} {row c v : Int} (h : z_pr P) (h0 : 0 ≤ v) (h1 : v ≤ 255) : z_pr (p_sets P row c v) := z_pr_up h (z_pr_set (z_pr_row h _) h0 h1)
theorem z_pr_frees {P : Int → Int} {row a b : Int} (h : z_pr P) : z_pr (p_frees P row a b) := z_pr_up h (z_pr_free (z_pr_row h _))
theorem z_pr_erases {P : Int → Int} {row a b : Int} (h : z_pr P) : z_pr (p_erases P row a b) := z_pr_up h (z_pr_erase (z_pr_row h _))
theorem z_pr_ahead {P : Int → Int} {row : Int} (h : z_pr P) : z_pr (p_ahead P row) := by
  unfold p_ahead
  split
  · exact z_pr_up h (z_pr_unw (z_pr_row h _))
  · split
    · exact z_pr_up h (z_pr_unw (z_pr_row h _))
    · exact h
/-! the header stays -/
theorem p_sets_hd {P : Int → Int} {row c v k : Int} (h : k < 15) (hr : 0 ≤ row) : p_sets P row c v k = P k := p_upd_hd _ _ (by omega)
theorem p_frees_hd {P : Int → Int} {row a b k : Int} (h : k < 15) (hr : 0 ≤ row) : p_frees P row a b k = P k := p_upd_hd _ _ (by omega)
theorem p_erases_hd {P : Int → Int} {row a b k : Int} (h : k < 15) (hr : 0 ≤ row) : p_erases P row a b k = P k := p_upd_hd _ _ (by omega)
theorem p_ahead_hd {P : Int → Int} {row k : Int} (h : k < 15) : p_ahead P row k = P k := by
  unfold p_ahead
  split
  · exact p_upd_hd _ _ (by omega)
  · split
    · exact p_upd_hd _ _ (by omega)
    · rfl
/-! steps put together -/
theorem p_free1_no {P : Int → Int} {W s a : Int} (h : a ≤ 0 ∨ ¬ 128 ≤ P (15 + 22 * s + a)) : P = p_upd P s (r_free1 W a (p_row P s)) := by
  unfold r_free1
  rw [if_neg, p_upd_self]
  rintro ⟨h1, h2⟩
  rcases h with h | h
  · omega
  · exact h h2
theorem p_free1_do {P : Int → Int} {W s a : Int} (h0 : 0 < a) (h1 : 128 ≤ P (15 + 22 * s + a)) : p_upd P s (r_set W (a - 1) 32 (p_row P s)) = p_upd P s (r_free1 W a (p_row P s)) := by
  unfold r_free1
  rw [if_pos ⟨h0, h1⟩]
theorem p_free2_no {P P1 : Int → Int} {W s b : Int} {r1 : Int → Int} (hj : P1 = p_upd P s r1) (h0 : 0 ≤ b) (h22 : b < 22) (h : ¬ b + 1 < W ∨ ¬ (65 ≤ P1 (15 + 22 * s + b) ∧ P1 (15 + 22 * s + b) ≤ 90)) : P1 = p_upd P s (r_free2 W b r1) := by
  have e : P1 (15 + 22 * s + b) = r1 b := by rw [hj]; exact p_row_upd P s r1 h0 h22
  rw [e] at h
  unfold r_free2
  rw [if_neg, hj]
  rintro ⟨h1, h2⟩
  rcases h with h | h
  · exact h h1
  · exact h h2
theorem p_set_on {P P1 : Int → Int} {W s c v : Int} {r1 : Int → Int} (hj : P1 = p_upd P s r1) : p_upd P1 s (r_set W c v (p_row P1 s)) = p_upd P s (r_set W c v r1) := by
  rw [hj, p_upd_upd]
  refine p_upd_ext (fun j h0 h1 => ?_)
  unfold r_set
  rw [p_row_upd _ _ _ h0 h1]
theorem p_free2_do {P P1 : Int → Int} {W s b : Int} {r1 : Int → Int} (hj : P1 = p_upd P s r1) (h0 : 0 ≤ b) (h22 : b < 22) (h1 : b + 1 < W) (h2 : 65 ≤ P1 (15 + 22 * s + b) ∧ P1 (15 + 22 * s + b) ≤ 90) : p_upd P1 s (r_set W (b + 1) 32 (p_row P1 s)) = p_upd P s (r_free2 W b r1) := by
  have e : P1 (15 + 22 * s + b) = r1 b := by rw [hj]; exact p_row_upd P s r1 h0 h22
  rw [e] at h2
  unfold r_free2
  rw [if_pos ⟨h1, h2⟩]
  exact p_set_on hj
theorem r_fill_0 {W a : Int} {r : Int → Int} (c : Int) : r_fill W a (a - 1) r c = r c := by
  unfold r_fill
  rw [if_neg (by omega), if_neg (by omega)]
theorem r_fill_s {W a c : Int} {r : Int → Int} (h : a ≤ c) (h0 : 0 ≤ a) (h1 : c < 20) (hW : W ≤ 20) (j : Int) : r_set W c 32 (r_fill W a (c - 1) r) j = r_fill W a c r j := by
  unfold r_fill r_set
  grind
end
section
set_option maxHeartbeats 4000000 in
set_option maxRecDepth 100000 in
theorem c_X5_in {E : z_E} {mi : z_Mi} {mr : z_Mr} {v low high : Int} (h1 : z_R v) (h2 : z_R low) (h3 : z_R high) : z_mi M_X5_in E [zi v, zi low, zi high] mi mr (fun x m r => x = (if low ≤ v ∧ v ≤ high then 1 else 0) ∧ m = mi ∧ r = mr) := by
  refine z_ofi (ls := [some (zi v), some (zi low), some (zi high)]) rfl (fun _ _ => trivial) ⟨rfl, rfl⟩ (Nat.le_of_ble_eq_true rfl) rfl ?_
  refine z_iload_n e_X5_in_0 rfl ?_
  refine z_iload_n e_X5_in_1 rfl ?_
  refine z_icmp_lt e_X5_in_2 ⟨by omega, by omega⟩ ⟨by omega, by omega⟩ (fun h2_1 => ?_) (fun h2_1 => ?_)
  · refine z_iconst e_X5_in_14 ?_
    refine z_iret e_X5_in_15 (Or.inr ⟨rfl, Or.inl rfl⟩) rfl rfl ⟨rfl, _, rfl, ?_⟩
    exact ⟨(if_neg (by omega)).symm, rfl, rfl⟩
  · refine z_iload_n e_X5_in_5 rfl ?_
    refine z_iload_n e_X5_in_6 rfl ?_
    refine z_icmp_gt e_X5_in_7 ⟨by omega, by omega⟩ ⟨by omega, by omega⟩ (fun h7_2 => ?_) (fun h7_2 => ?_)
    · refine z_iconst e_X5_in_14 ?_
      refine z_iret e_X5_in_15 (Or.inr ⟨rfl, Or.inl rfl⟩) rfl rfl ⟨rfl, _, rfl, ?_⟩
      exact ⟨(if_neg (by omega)).symm, rfl, rfl⟩
    · refine z_iconst e_X5_in_10 ?_
      refine z_goto e_X5_in_11 ?_
      refine z_iret e_X5_in_15 (Or.inr ⟨rfl, Or.inr rfl⟩) rfl rfl ⟨rfl, _, rfl, ?_⟩
      exact ⟨(if_pos ⟨by omega, by omega⟩).symm, rfl, rfl⟩
set_option maxHeartbeats 4000000 in
set_option maxRecDepth 100000 in
theorem c_X5_at {E : z_E} {mi : z_Mi} {mr : z_Mr} {s c : Int} : z_mi M_X5_at E [zi s, zi c] mi mr (fun x m r => x = 15 + 22 * s + c ∧ m = mi ∧ r = mr) := by
  refine z_ofi (ls := [some (zi s), some (zi c)]) rfl (fun _ _ => trivial) ⟨rfl, rfl⟩ (Nat.le_of_ble_eq_true rfl) rfl ?_
  refine z_bipush e_X5_at_0 (by decide +kernel) ?_
  refine z_bipush e_X5_at_2 (by decide +kernel) ?_
  refine z_iload_n e_X5_at_4 rfl ?_
  refine z_imul e_X5_at_5 ?_
  refine z_iadd e_X5_at_6 ?_
  refine z_iload_n e_X5_at_7 rfl ?_
  refine z_iadd e_X5_at_8 ?_
  refine z_iret e_X5_at_9 (Or.inl rfl) rfl rfl ⟨rfl, _, rfl, ?_⟩
  exact ⟨rfl, rfl, rfl⟩
set_option maxHeartbeats 4000000 in
set_option maxRecDepth 100000 in
theorem c_X5_code {E : z_E} {mi : z_Mi} {mr : z_Mr} {o : Nat} {P : Int → Int} {s c : Int} (hM : z_MO E mr o) (h0 : 0 ≤ 15 + 22 * s + c) (h1 : 15 + 22 * s + c < 6471) : z_mi M_X5_code E [zo o, zi s, zi c] (z_u mi (o + 1) P) mr (fun x m r => x = P (15 + 22 * s + c) ∧ m = z_u mi (o + 1) P ∧ r = mr) := by
  obtain ⟨t0, t1, t2, t3, t4, t5, t6, t7, q0, q2, q3, q4, q5, q6, q7⟩ := id hM
  refine z_ofi (ls := [some (zo o), some (zi s), some (zi c)]) rfl (fun _ _ => trivial) ⟨rfl, rfl⟩ (Nat.le_of_ble_eq_true rfl) rfl ?_
  refine z_aload_n e_X5_code_0 rfl ?_
  refine z_getr (fi := 0) (r := some (o + 1)) e_X5_code_1 f_RX5_7 t0 rfl rfl (q0) ?_
  refine z_iload_n e_X5_code_4 rfl ?_
  refine z_iload_n e_X5_code_5 rfl ?_
  refine z_callSi (M' := M_X5_at) (As := [zi s, zi c]) (rest := [zo (o + 1)]) e_X5_code_6 l_RX5_40 rfl rfl rfl rfl (c_X5_at ) (fun xq mq rq hq => ?_)
  obtain ⟨e1q, e2q, e3q⟩ := hq
  subst xq mq rq
  refine z_iald (x := (P (15 + 22 * s + c))) e_X5_code_9 t1 (by decide) (by omega) (by omega) (congrFun (z_us _ _ _) _) ?_
  refine z_iret e_X5_code_10 (Or.inl rfl) rfl rfl ⟨rfl, _, rfl, ?_⟩
  exact ⟨rfl, rfl, rfl⟩
set_option maxHeartbeats 4000000 in
set_option maxRecDepth 100000 in
theorem c_X5_isIt {E : z_E} {mi : z_Mi} {mr : z_Mr} {o : Nat} {P : Int → Int} {s w : Int} (hM : z_MO E mr o) (h0 : 0 ≤ 15 + 22 * s + w) (h1 : 15 + 22 * s + w < 6471) (h2 : z_R (P (15 + 22 * s + w))) : z_mi M_X5_isIt E [zo o, zi s, zi w] (z_u mi (o + 1) P) mr (fun x m r => x = (if P (15 + 22 * s + w) = 1 then 1 else 0) ∧ m = z_u mi (o + 1) P ∧ r = mr) := by
  obtain ⟨t0, t1, t2, t3, t4, t5, t6, t7, q0, q2, q3, q4, q5, q6, q7⟩ := id hM
  refine z_ofi (ls := [some (zo o), some (zi s), some (zi w)]) rfl (fun _ _ => trivial) ⟨rfl, rfl⟩ (Nat.le_of_ble_eq_true rfl) rfl ?_
  refine z_aload_n e_X5_isIt_0 rfl ?_
  refine z_getr (fi := 0) (r := some (o + 1)) e_X5_isIt_1 f_RX5_7 t0 rfl rfl (q0) ?_
  refine z_iload_n e_X5_isIt_4 rfl ?_
  refine z_iload_n e_X5_isIt_5 rfl ?_
  refine z_callSi (M' := M_X5_at) (As := [zi s, zi w]) (rest := [zo (o + 1)]) e_X5_isIt_6 l_RX5_40 rfl rfl rfl rfl (c_X5_at ) (fun xq mq rq hq => ?_)
  obtain ⟨e1q, e2q, e3q⟩ := hq
  subst xq mq rq
  refine z_iald (x := (P (15 + 22 * s + w))) e_X5_isIt_9 t1 (by decide) (by omega) (by omega) (congrFun (z_us _ _ _) _) ?_
  refine z_iconst e_X5_isIt_10 ?_
  refine z_icmp_ne e_X5_isIt_11 ⟨by omega, by omega⟩ (by decide) (fun h11_1 => ?_) (fun h11_1 => ?_)
  · refine z_iconst e_X5_isIt_18 ?_
    refine z_iret e_X5_isIt_19 (Or.inr ⟨rfl, Or.inl rfl⟩) rfl rfl ⟨rfl, _, rfl, ?_⟩
    exact ⟨(if_neg (by assumption)).symm, rfl, rfl⟩
  · refine z_iconst e_X5_isIt_14 ?_
    refine z_goto e_X5_isIt_15 ?_
    refine z_iret e_X5_isIt_19 (Or.inr ⟨rfl, Or.inr rfl⟩) rfl rfl ⟨rfl, _, rfl, ?_⟩
    exact ⟨(if_pos (by assumption)).symm, rfl, rfl⟩
set_option maxHeartbeats 4000000 in
set_option maxRecDepth 100000 in
theorem c_X5_unwraps {E : z_E} {mi : z_Mi} {mr : z_Mr} {o : Nat} {P : Int → Int} {s : Int} (hM : z_MO E mr o) (h0 : 0 ≤ s) (h1 : s ≤ 292) : z_mv M_X5_unwraps E [zo o, zi s] (z_u mi (o + 1) P) mr (fun m r => m = z_u mi (o + 1) (p_upd P s (r_unw (p_row P s))) ∧ r = mr) := by
  obtain ⟨t0, t1, t2, t3, t4, t5, t6, t7, q0, q2, q3, q4, q5, q6, q7⟩ := id hM
  refine z_ofv (ls := [some (zo o), some (zi s)]) rfl (fun _ _ => trivial) ⟨rfl, rfl⟩ (Nat.le_of_ble_eq_true rfl) rfl ?_
  refine z_aload_n e_X5_unwraps_0 rfl ?_
  refine z_getr (fi := 0) (r := some (o + 1)) e_X5_unwraps_1 f_RX5_7 t0 rfl rfl (q0) ?_
  refine z_iload_n e_X5_unwraps_4 rfl ?_
  refine z_bipush e_X5_unwraps_5 (by decide +kernel) ?_
  refine z_callSi (M' := M_X5_at) (As := [zi s, zi 20]) (rest := [zo (o + 1)]) e_X5_unwraps_7 l_RX5_40 rfl rfl rfl rfl (c_X5_at ) (fun xq mq rq hq => ?_)
  obtain ⟨e1q, e2q, e3q⟩ := hq
  subst xq mq rq
  refine z_iconst e_X5_unwraps_10 ?_
  refine z_iastU e_X5_unwraps_11 t1 (by decide) (by omega) (by omega) ?_
  refine z_aload_n e_X5_unwraps_12 rfl ?_
  refine z_getr (fi := 0) (r := some (o + 1)) e_X5_unwraps_13 f_RX5_7 t0 rfl rfl (q0) ?_
  refine z_iload_n e_X5_unwraps_16 rfl ?_
  refine z_bipush e_X5_unwraps_17 (by decide +kernel) ?_
  refine z_callSi (M' := M_X5_at) (As := [zi s, zi 21]) (rest := [zo (o + 1)]) e_X5_unwraps_19 l_RX5_40 rfl rfl rfl rfl (c_X5_at ) (fun xq mq rq hq => ?_)
  obtain ⟨e1q, e2q, e3q⟩ := hq
  subst xq mq rq
  refine z_iconst e_X5_unwraps_22 ?_
  refine z_iastU e_X5_unwraps_23 t1 (by decide) (by omega) (by omega) ?_
  refine z_ret e_X5_unwraps_24 rfl rfl rfl ⟨rfl, rfl, ?_⟩
  refine ⟨congrArg _ ?_, rfl⟩
  rw [p_v_upd _ _ _ _ (by decide) (by decide), p_v_upd _ _ _ _ (by decide) (by decide), p_upd_upd]
  refine p_upd_ext (fun c h0 h1 => ?_)
  unfold z_v
  rw [p_row_upd _ _ _ h0 h1]
  unfold r_unw
  grind
set_option maxHeartbeats 4000000 in
set_option maxRecDepth 100000 in
theorem c_X5_blanks {E : z_E} {mi : z_Mi} {mr : z_Mr} {o : Nat} {P : Int → Int} {s : Int} (hM : z_MO E mr o) (h0 : 0 ≤ s) (h1 : s ≤ 292) : z_mv M_X5_blanks E [zo o, zi s] (z_u mi (o + 1) P) mr (fun m r => m = z_u mi (o + 1) (p_upd P s r_blank) ∧ r = mr) := by
  obtain ⟨t0, t1, t2, t3, t4, t5, t6, t7, q0, q2, q3, q4, q5, q6, q7⟩ := id hM
  refine z_ofv (ls := [some (zo o), some (zi s), none]) rfl (fun _ _ => trivial) ⟨rfl, rfl⟩ (Nat.le_of_ble_eq_true rfl) rfl ?_
  refine z_iconst e_X5_blanks_0 ?_
  refine z_istore_n (ls' := [some (zo o), some (zi s), some (zi 0)]) e_X5_blanks_1 rfl rfl rfl ?_
  have loop2 : ∀ (nn : Nat) (c : Int) (P1 : Int → Int), (20 - c).toNat = nn → (0 ≤ c ∧ c ≤ 20 ∧ P1 = p_upd P s (fun j => if j < c then 32 else p_row P s j)) → z_A M_X5_blanks E 0 0 2 [some (zo o), some (zi s), some (zi c)] [] (z_u mi (o + 1) P1) mr (z_qv E (fun m r => m = z_u mi (o + 1) (p_upd P s r_blank) ∧ r = mr)) := by
    intro nn
    induction nn using Nat.strongRecOn with
    | _ nn ih =>
      intro c P1 hmeas hinv
      obtain ⟨hc0, hc1, hP1⟩ := hinv
      refine z_iload_n e_X5_blanks_2 rfl ?_
      refine z_bipush e_X5_blanks_3 (by decide +kernel) ?_
      refine z_icmp_ge e_X5_blanks_5 ⟨by omega, by omega⟩ (by decide) (fun h5_1 => ?_) (fun h5_1 => ?_)
      · refine z_aload_n e_X5_blanks_26 rfl ?_
        refine z_iload_n e_X5_blanks_27 rfl ?_
        refine z_callVv (M' := M_X5_unwraps) (As := [zi s]) (rest := []) e_X5_blanks_28 l_RX5_44 rfl rfl rfl rfl t0 ⟨_, _, rfl⟩ (c_X5_unwraps hM (by omega) (by omega)) (fun mq rq hq => ?_)
        obtain ⟨e2q, e3q⟩ := hq
        subst mq rq
        refine z_ret e_X5_blanks_31 rfl rfl rfl ⟨rfl, rfl, ?_⟩
        refine ⟨congrArg _ ?_, rfl⟩
        rw [hP1, p_upd_upd]
        refine p_upd_ext (fun j h0 h1 => ?_)
        unfold r_unw r_blank
        rw [p_row_upd _ _ _ h0 h1]
        grind
      · refine z_aload_n e_X5_blanks_8 rfl ?_
        refine z_getr (fi := 0) (r := some (o + 1)) e_X5_blanks_9 f_RX5_7 t0 rfl rfl (q0) ?_
        refine z_iload_n e_X5_blanks_12 rfl ?_
        refine z_iload_n e_X5_blanks_13 rfl ?_
        refine z_callSi (M' := M_X5_at) (As := [zi s, zi c]) (rest := [zo (o + 1)]) e_X5_blanks_14 l_RX5_40 rfl rfl rfl rfl (c_X5_at ) (fun xq mq rq hq => ?_)
        obtain ⟨e1q, e2q, e3q⟩ := hq
        subst xq mq rq
        refine z_bipush e_X5_blanks_17 (by decide +kernel) ?_
        refine z_iastU e_X5_blanks_19 t1 (by decide) (by omega) (by omega) ?_
        refine z_iinc (y := (c + 1)) (ls' := [some (zo o), some (zi s), some (zi (c + 1))]) e_X5_blanks_20 rfl rfl rfl rfl rfl ?_
        refine z_goto e_X5_blanks_23 ?_
        exact ih _ (by omega) (c + 1) (z_v P1 (15 + 22 * s + c) 32) rfl (⟨by omega, by omega, by rw [p_v_upd _ _ _ _ (by omega) (by omega), hP1, p_upd_upd]; exact p_upd_ext (fun j h0 h1 => by unfold z_v; rw [p_row_upd _ _ _ h0 h1]; grind)⟩)
  exact loop2 _ 0 P rfl (⟨by omega, by omega, p_upd_eq (fun c h0 h1 => if_neg (by omega))⟩)
set_option maxHeartbeats 4000000 in
set_option maxRecDepth 100000 in
theorem c_X5_copies {E : z_E} {mi : z_Mi} {mr : z_Mr} {o : Nat} {P : Int → Int} {s t : Int} (hM : z_MO E mr o) (h0 : 0 ≤ s) (h1 : s ≤ 292) (h2 : 0 ≤ t) (h3 : t ≤ 292) (h4 : s ≠ t) : z_mv M_X5_copies E [zo o, zi s, zi t] (z_u mi (o + 1) P) mr (fun m r => m = z_u mi (o + 1) (p_upd P t (p_row P s)) ∧ r = mr) := by
  obtain ⟨t0, t1, t2, t3, t4, t5, t6, t7, q0, q2, q3, q4, q5, q6, q7⟩ := id hM
  refine z_ofv (ls := [some (zo o), some (zi s), some (zi t), none]) rfl (fun _ _ => trivial) ⟨rfl, rfl⟩ (Nat.le_of_ble_eq_true rfl) rfl ?_
  refine z_iconst e_X5_copies_0 ?_
  refine z_istore_n (ls' := [some (zo o), some (zi s), some (zi t), some (zi 0)]) e_X5_copies_1 rfl rfl rfl ?_
  have loop2 : ∀ (nn : Nat) (c : Int) (P1 : Int → Int), (22 - c).toNat = nn → (0 ≤ c ∧ c ≤ 22 ∧ P1 = p_upd P t (fun j => if j < c then p_row P s j else p_row P t j)) → z_A M_X5_copies E 0 0 2 [some (zo o), some (zi s), some (zi t), some (zi c)] [] (z_u mi (o + 1) P1) mr (z_qv E (fun m r => m = z_u mi (o + 1) (p_upd P t (p_row P s)) ∧ r = mr)) := by
    intro nn
    induction nn using Nat.strongRecOn with
    | _ nn ih =>
      intro c P1 hmeas hinv
      obtain ⟨hc0, hc1, hP1⟩ := hinv
      refine z_iload_n e_X5_copies_2 rfl ?_
      refine z_bipush e_X5_copies_3 (by decide +kernel) ?_
      refine z_icmp_ge e_X5_copies_5 ⟨by omega, by omega⟩ (by decide) (fun h5_1 => ?_) (fun h5_1 => ?_)
      · refine z_ret e_X5_copies_34 rfl rfl rfl ⟨rfl, rfl, ?_⟩
        refine ⟨congrArg _ ?_, rfl⟩
        rw [hP1]
        exact p_upd_ext (fun j h0 h1 => if_pos (by omega))
      · refine z_aload_n e_X5_copies_8 rfl ?_
        refine z_getr (fi := 0) (r := some (o + 1)) e_X5_copies_9 f_RX5_7 t0 rfl rfl (q0) ?_
        refine z_iload_n e_X5_copies_12 rfl ?_
        refine z_iload_n e_X5_copies_13 rfl ?_
        refine z_callSi (M' := M_X5_at) (As := [zi t, zi c]) (rest := [zo (o + 1)]) e_X5_copies_14 l_RX5_40 rfl rfl rfl rfl (c_X5_at ) (fun xq mq rq hq => ?_)
        obtain ⟨e1q, e2q, e3q⟩ := hq
        subst xq mq rq
        refine z_aload_n e_X5_copies_17 rfl ?_
        refine z_getr (fi := 0) (r := some (o + 1)) e_X5_copies_18 f_RX5_7 t0 rfl rfl (q0) ?_
        refine z_iload_n e_X5_copies_21 rfl ?_
        refine z_iload_n e_X5_copies_22 rfl ?_
        refine z_callSi (M' := M_X5_at) (As := [zi s, zi c]) (rest := [zo (o + 1), zi (15 + 22 * t + c), zo (o + 1)]) e_X5_copies_23 l_RX5_40 rfl rfl rfl rfl (c_X5_at ) (fun xq mq rq hq => ?_)
        obtain ⟨e1q, e2q, e3q⟩ := hq
        subst xq mq rq
        refine z_iald (x := (P1 (15 + 22 * s + c))) e_X5_copies_26 t1 (by decide) (by omega) (by omega) (congrFun (z_us _ _ _) _) ?_
        refine z_iastU e_X5_copies_27 t1 (by decide) (by omega) (by omega) ?_
        refine z_iinc (y := (c + 1)) (ls' := [some (zo o), some (zi s), some (zi t), some (zi (c + 1))]) e_X5_copies_28 rfl rfl rfl rfl rfl ?_
        refine z_goto e_X5_copies_31 ?_
        exact ih _ (by omega) (c + 1) (z_v P1 (15 + 22 * t + c) (P1 (15 + 22 * s + c))) rfl (⟨by omega, by omega, by have e1 : P1 (15 + 22 * s + c) = p_row P s c := (by rw [hP1]; exact p_upd_out _ _ (by omega)); rw [e1, p_v_upd _ _ _ _ (by omega) (by omega), hP1, p_upd_upd]; exact p_upd_ext (fun j h0 h1 => by unfold z_v; rw [p_row_upd _ _ _ h0 h1]; grind)⟩)
  exact loop2 _ 0 P rfl (⟨by omega, by omega, p_upd_eq (fun c h0 h1 => if_neg (by omega))⟩)
set_option maxHeartbeats 4000000 in
set_option maxRecDepth 100000 in
theorem c_X5_isWide {E : z_E} {mi : z_Mi} {mr : z_Mr} {c : Int} (h1 : z_R c) : z_mi M_X5_isWide E [zi c] mi mr (fun x m r => x = (if 65 ≤ c ∧ c ≤ 90 then 1 else 0) ∧ m = mi ∧ r = mr) := by
  refine z_ofi (ls := [some (zi c)]) rfl (fun _ _ => trivial) ⟨rfl, rfl⟩ (Nat.le_of_ble_eq_true rfl) rfl ?_
  refine z_iload_n e_X5_isWide_0 rfl ?_
  refine z_bipush e_X5_isWide_1 (by decide +kernel) ?_
  refine z_bipush e_X5_isWide_3 (by decide +kernel) ?_
  refine z_callSi (M' := M_X5_in) (As := [zi c, zi 65, zi 90]) (rest := []) e_X5_isWide_5 l_RX5_47 rfl rfl rfl rfl (c_X5_in ⟨by omega, by omega⟩ ⟨by omega, by omega⟩ ⟨by omega, by omega⟩) (fun xq mq rq hq => ?_)
  obtain ⟨e1q, e2q, e3q⟩ := hq
  subst xq mq rq
  refine z_iret e_X5_isWide_8 (Or.inr ⟨rfl, by omega⟩) rfl rfl ⟨rfl, _, rfl, ?_⟩
  exact ⟨rfl, rfl, rfl⟩
set_option maxHeartbeats 4000000 in
set_option maxRecDepth 100000 in
theorem c_X5_isRight {E : z_E} {mi : z_Mi} {mr : z_Mr} {c : Int} (h1 : z_R c) : z_mi M_X5_isRight E [zi c] mi mr (fun x m r => x = (if 128 ≤ c then 1 else 0) ∧ m = mi ∧ r = mr) := by
  refine z_ofi (ls := [some (zi c)]) rfl (fun _ _ => trivial) ⟨rfl, rfl⟩ (Nat.le_of_ble_eq_true rfl) rfl ?_
  refine z_iload_n e_X5_isRight_0 rfl ?_
  refine z_sipush e_X5_isRight_1 (by decide +kernel) ?_
  refine z_icmp_lt e_X5_isRight_4 ⟨by omega, by omega⟩ (by decide) (fun h4_1 => ?_) (fun h4_1 => ?_)
  · refine z_iconst e_X5_isRight_11 ?_
    refine z_iret e_X5_isRight_12 (Or.inr ⟨rfl, Or.inl rfl⟩) rfl rfl ⟨rfl, _, rfl, ?_⟩
    exact ⟨(if_neg (by omega)).symm, rfl, rfl⟩
  · refine z_iconst e_X5_isRight_7 ?_
    refine z_goto e_X5_isRight_8 ?_
    refine z_iret e_X5_isRight_12 (Or.inr ⟨rfl, Or.inr rfl⟩) rfl rfl ⟨rfl, _, rfl, ?_⟩
    exact ⟨(if_pos (by omega)).symm, rfl, rfl⟩
end
section
set_option maxHeartbeats 4000000 in
set_option maxRecDepth 100000 in
theorem c_X5_records {E : z_E} {mi : z_Mi} {mr : z_Mr} {o : Nat} {P F : Int → Int} (hM : z_MO E mr o) (h0 : 0 ≤ F 1) (h1 : F 1 ≤ 8) : z_mv M_X5_records E [zo o] (z_u (z_u mi o F) (o + 1) P) mr (fun m r => m = z_u (z_u mi o (f_rec F)) (o + 1) (p_rec (F 1) P) ∧ r = mr) := by
  obtain ⟨t0, t1, t2, t3, t4, t5, t6, t7, q0, q2, q3, q4, q5, q6, q7⟩ := id hM
  refine z_ofv (ls := [some (zo o), none]) rfl (fun _ _ => trivial) ⟨rfl, rfl⟩ (Nat.le_of_ble_eq_true rfl) rfl ?_
  have join52_0 : ∀ (F1 : Int → Int) (P1 : Int → Int), (F1 1 = (if F 1 = 8 then 7 else F 1) ∧ (∀ j, j ≠ 1 → F1 j = F j) ∧ P1 = (if F 1 = 8 then (fun j => if 719 ≤ j ∧ j < 5752 then P (j + 719) else P j) else P)) → z_A M_X5_records E 0 0 52 [some (zo o), none] [] (z_u (z_u mi o F1) (o + 1) P1) mr (z_qv E (fun m r => m = z_u (z_u mi o (f_rec F)) (o + 1) (p_rec (F 1) P) ∧ r = mr)) := by
    intro F1 P1 hj
    obtain ⟨hF1, hF2, hP1⟩ := hj
    have hn0 : 0 ≤ F1 1 := by rw [hF1]; split <;> omega
    have hn1 : F1 1 ≤ 7 := by rw [hF1]; split <;> omega
    refine z_aload_n e_X5_records_52 rfl ?_
    refine z_dup e_X5_records_53 rfl ?_
    refine z_geti (fi := 1) (x := (F1 1)) e_X5_records_54 f_RX5_36 t0 rfl rfl (congrFun (((z_un (by omega)).trans (z_us _ _ _))) _) ?_
    refine z_iconst e_X5_records_57 ?_
    refine z_iadd e_X5_records_58 ?_
    refine z_putiX (fi := 1) (f := F1) e_X5_records_59 f_RX5_36 t0 rfl rfl (Or.inl rfl) (((z_un (by omega)).trans (z_us _ _ _))) (z_ux (by omega) (z_uu _ _ _ _)) ?_
    refine z_iconst e_X5_records_62 ?_
    refine z_istore_n (ls' := [some (zo o), some (zi 0)]) e_X5_records_63 rfl rfl rfl ?_
    have loop64 : ∀ (nn : Nat) (k : Int) (P2 : Int → Int), (719 - k).toNat = nn → (0 ≤ k ∧ k ≤ 719 ∧ P2 = (fun j => if 719 * (F1 1 + 1) ≤ j ∧ j < 719 * (F1 1 + 1) + k then P1 (j - 719 * (F1 1 + 1)) else P1 j)) → z_A M_X5_records E 0 0 64 [some (zo o), some (zi k)] [] (z_u (z_u mi o (z_v F1 1 ((F1 1) + 1))) (o + 1) P2) mr (z_qv E (fun m r => m = z_u (z_u mi o (f_rec F)) (o + 1) (p_rec (F 1) P) ∧ r = mr)) := by
      intro nn
      induction nn using Nat.strongRecOn with
      | _ nn ih =>
        intro k P2 hmeas hinv
        obtain ⟨hc0, hc1, hP2⟩ := hinv
        refine z_iload_n e_X5_records_64 rfl ?_
        refine z_sipush e_X5_records_65 (by decide +kernel) ?_
        refine z_icmp_ge e_X5_records_68 ⟨by omega, by omega⟩ (by decide) (fun h68_2 => ?_) (fun h68_2 => ?_)
        · refine z_ret e_X5_records_98 rfl rfl rfl ⟨rfl, rfl, ?_⟩
          have e1 : z_v F1 1 (F1 1 + 1) = f_rec F := by
            funext j; unfold f_rec z_v
            by_cases hj : j = 1
            · rw [if_pos hj, if_pos hj, hF1]; split <;> omega
            · rw [if_neg hj, if_neg hj]; exact hF2 j hj
          have e2 : P2 = p_rec (F 1) P := by
            rw [hP2, hP1, hF1]; funext j; unfold p_rec
            by_cases h8 : F 1 = 8
            · simp only [h8, if_true]; grind
            · simp only [h8, if_false]; grind
          rw [e1, e2]
          exact ⟨rfl, rfl⟩
        · refine z_aload_n e_X5_records_71 rfl ?_
          refine z_getr (fi := 0) (r := some (o + 1)) e_X5_records_72 f_RX5_7 t0 rfl rfl (q0) ?_
          refine z_sipush e_X5_records_75 (by decide +kernel) ?_
          refine z_aload_n e_X5_records_78 rfl ?_
          refine z_geti (fi := 1) (x := ((F1 1) + 1)) e_X5_records_79 f_RX5_36 t0 rfl rfl ((congrFun (((z_un (by omega)).trans (z_us _ _ _))) _).trans (z_vs _ _ _)) ?_
          refine z_imul e_X5_records_82 ?_
          refine z_iload_n e_X5_records_83 rfl ?_
          refine z_iadd e_X5_records_84 ?_
          refine z_aload_n e_X5_records_85 rfl ?_
          refine z_getr (fi := 0) (r := some (o + 1)) e_X5_records_86 f_RX5_7 t0 rfl rfl (q0) ?_
          refine z_iload_n e_X5_records_89 rfl ?_
          refine z_iald (x := (P2 k)) e_X5_records_90 t1 (by decide) (by omega) (by omega) (congrFun (z_us _ _ _) _) ?_
          refine z_iastU e_X5_records_91 t1 (by decide) (by omega) (by omega) ?_
          refine z_iinc (y := (k + 1)) (ls' := [some (zo o), some (zi (k + 1))]) e_X5_records_92 rfl rfl rfl rfl rfl ?_
          refine z_goto e_X5_records_95 ?_
          exact ih _ (by omega) (k + 1) (z_v P2 ((719 * ((F1 1) + 1)) + k) (P2 k)) rfl (⟨by omega, by omega, by have e1 : P2 k = P1 k := (by rw [hP2]; exact if_neg (by omega)); rw [e1, hP2]; funext j; unfold z_v; grind⟩)
    exact loop64 _ 0 P1 rfl (⟨by omega, by omega, by funext j; rw [if_neg (by omega)]⟩)
  refine z_aload_n e_X5_records_0 rfl ?_
  refine z_geti (fi := 1) (x := (F 1)) e_X5_records_1 f_RX5_36 t0 rfl rfl (congrFun (((z_un (by omega)).trans (z_us _ _ _))) _) ?_
  refine z_bipush e_X5_records_4 (by decide +kernel) ?_
  refine z_icmp_ne e_X5_records_6 ⟨by omega, by omega⟩ (by decide) (fun h6_3 => ?_) (fun h6_3 => ?_)
  · exact join52_0 F P (⟨by rw [if_neg (by assumption)], fun j hj => rfl, by rw [if_neg (by assumption)]⟩)
  · refine z_sipush e_X5_records_9 (by decide +kernel) ?_
    refine z_istore_n (ls' := [some (zo o), some (zi 719)]) e_X5_records_12 rfl rfl rfl ?_
    have loop13 : ∀ (nn : Nat) (k : Int) (P1 : Int → Int), (5752 - k).toNat = nn → (719 ≤ k ∧ k ≤ 5752 ∧ P1 = (fun j => if 719 ≤ j ∧ j < k then P (j + 719) else P j)) → z_A M_X5_records E 0 0 13 [some (zo o), some (zi k)] [] (z_u (z_u mi o F) (o + 1) P1) mr (z_qv E (fun m r => m = z_u (z_u mi o (f_rec F)) (o + 1) (p_rec (F 1) P) ∧ r = mr)) := by
      intro nn
      induction nn using Nat.strongRecOn with
      | _ nn ih =>
        intro k P1 hmeas hinv
        obtain ⟨hc0, hc1, hP1⟩ := hinv
        refine z_iload_n e_X5_records_13 rfl ?_
        refine z_sipush e_X5_records_14 (by decide +kernel) ?_
        refine z_icmp_ge e_X5_records_17 ⟨by omega, by omega⟩ (by decide) (fun h17_4 => ?_) (fun h17_4 => ?_)
        · refine z_aload_n e_X5_records_42 rfl ?_
          refine z_dup e_X5_records_43 rfl ?_
          refine z_geti (fi := 1) (x := (F 1)) e_X5_records_44 f_RX5_36 t0 rfl rfl (congrFun (((z_un (by omega)).trans (z_us _ _ _))) _) ?_
          refine z_iconst e_X5_records_47 ?_
          refine z_isub e_X5_records_48 ?_
          refine z_putiX (fi := 1) (f := F) e_X5_records_49 f_RX5_36 t0 rfl rfl (Or.inl rfl) (((z_un (by omega)).trans (z_us _ _ _))) (z_ux (by omega) (z_uu _ _ _ _)) ?_
          refine z_fgt (ls' := [some (zo o), none]) ⟨rfl, trivial⟩ ?_
          exact join52_0 (z_v F 1 ((F 1) - 1)) P1 (⟨by rw [if_pos (by assumption)]; unfold z_v; rw [if_pos rfl]; omega, fun j hj => z_vn hj, by rw [if_pos (by assumption), hP1]; funext j; grind⟩)
        · refine z_aload_n e_X5_records_20 rfl ?_
          refine z_getr (fi := 0) (r := some (o + 1)) e_X5_records_21 f_RX5_7 t0 rfl rfl (q0) ?_
          refine z_iload_n e_X5_records_24 rfl ?_
          refine z_aload_n e_X5_records_25 rfl ?_
          refine z_getr (fi := 0) (r := some (o + 1)) e_X5_records_26 f_RX5_7 t0 rfl rfl (q0) ?_
          refine z_iload_n e_X5_records_29 rfl ?_
          refine z_sipush e_X5_records_30 (by decide +kernel) ?_
          refine z_iadd e_X5_records_33 ?_
          refine z_iald (x := (P1 (k + 719))) e_X5_records_34 t1 (by decide) (by omega) (by omega) (congrFun (z_us _ _ _) _) ?_
          refine z_iastU e_X5_records_35 t1 (by decide) (by omega) (by omega) ?_
          refine z_iinc (y := (k + 1)) (ls' := [some (zo o), some (zi (k + 1))]) e_X5_records_36 rfl rfl rfl rfl rfl ?_
          refine z_goto e_X5_records_39 ?_
          exact ih _ (by omega) (k + 1) (z_v P1 k (P1 (k + 719))) rfl (⟨by omega, by omega, by rw [hP1]; funext j; unfold z_v; grind⟩)
    exact loop13 _ 719 P rfl (⟨by omega, by omega, by funext j; rw [if_neg (by omega)]⟩)
set_option maxHeartbeats 4000000 in
set_option maxRecDepth 100000 in
theorem c_X5_unwrapsAhead {E : z_E} {mi : z_Mi} {mr : z_Mr} {o : Nat} {P : Int → Int} {row : Int} (hM : z_MO E mr o) (h0 : row ≤ 8) (h1 : z_R row) (h2 : 0 ≤ P 14) (h3 : P 14 ≤ 24) : z_mv M_X5_unwrapsAhead E [zo o, zi row] (z_u mi (o + 1) P) mr (fun m r => m = z_u mi (o + 1) (p_ahead P row) ∧ r = mr) := by
  obtain ⟨t0, t1, t2, t3, t4, t5, t6, t7, q0, q2, q3, q4, q5, q6, q7⟩ := id hM
  refine z_ofv (ls := [some (zo o), some (zi row)]) rfl (fun _ _ => trivial) ⟨rfl, rfl⟩ (Nat.le_of_ble_eq_true rfl) rfl ?_
  refine z_iload_n e_X5_unwrapsAhead_0 rfl ?_
  refine z_if_le e_X5_unwrapsAhead_1 ⟨by omega, by omega⟩ (fun h1_1 => ?_) (fun h1_1 => ?_)
  · refine z_aload_n e_X5_unwrapsAhead_17 rfl ?_
    refine z_getr (fi := 0) (r := some (o + 1)) e_X5_unwrapsAhead_18 f_RX5_7 t0 rfl rfl (q0) ?_
    refine z_bipush e_X5_unwrapsAhead_21 (by decide +kernel) ?_
    refine z_iald (x := (P 14)) e_X5_unwrapsAhead_23 t1 (by decide) (by decide) (by decide) (congrFun (z_us _ _ _) _) ?_
    refine z_if_le e_X5_unwrapsAhead_24 ⟨by omega, by omega⟩ (fun h24_2 => ?_) (fun h24_2 => ?_)
    · refine z_ret e_X5_unwrapsAhead_40 rfl rfl rfl ⟨rfl, rfl, ?_⟩
      refine ⟨congrArg _ ?_, rfl⟩
      unfold p_ahead
      grind
    · refine z_aload_n e_X5_unwrapsAhead_27 rfl ?_
      refine z_aload_n e_X5_unwrapsAhead_28 rfl ?_
      refine z_getr (fi := 0) (r := some (o + 1)) e_X5_unwrapsAhead_29 f_RX5_7 t0 rfl rfl (q0) ?_
      refine z_bipush e_X5_unwrapsAhead_32 (by decide +kernel) ?_
      refine z_iald (x := (P 14)) e_X5_unwrapsAhead_34 t1 (by decide) (by decide) (by decide) (congrFun (z_us _ _ _) _) ?_
      refine z_iconst e_X5_unwrapsAhead_35 ?_
      refine z_isub e_X5_unwrapsAhead_36 ?_
      refine z_callVv (M' := M_X5_unwraps) (As := [zi ((P 14) - 1)]) (rest := []) e_X5_unwrapsAhead_37 l_RX5_44 rfl rfl rfl rfl t0 ⟨_, _, rfl⟩ (c_X5_unwraps hM (by omega) (by omega)) (fun mq rq hq => ?_)
      obtain ⟨e2q, e3q⟩ := hq
      subst mq rq
      refine z_ret e_X5_unwrapsAhead_40 rfl rfl rfl ⟨rfl, rfl, ?_⟩
      refine ⟨congrArg _ ?_, rfl⟩
      unfold p_ahead
      grind
  · refine z_aload_n e_X5_unwrapsAhead_4 rfl ?_
    refine z_bipush e_X5_unwrapsAhead_5 (by decide +kernel) ?_
    refine z_iload_n e_X5_unwrapsAhead_7 rfl ?_
    refine z_iadd e_X5_unwrapsAhead_8 ?_
    refine z_iconst e_X5_unwrapsAhead_9 ?_
    refine z_isub e_X5_unwrapsAhead_10 ?_
    refine z_callVv (M' := M_X5_unwraps) (As := [zi ((24 + row) - 1)]) (rest := []) e_X5_unwrapsAhead_11 l_RX5_44 rfl rfl rfl rfl t0 ⟨_, _, rfl⟩ (c_X5_unwraps hM (by omega) (by omega)) (fun mq rq hq => ?_)
    obtain ⟨e2q, e3q⟩ := hq
    subst mq rq
    refine z_goto e_X5_unwrapsAhead_14 ?_
    refine z_ret e_X5_unwrapsAhead_40 rfl rfl rfl ⟨rfl, rfl, ?_⟩
    refine ⟨congrArg _ ?_, rfl⟩
    unfold p_ahead
    grind
set_option maxHeartbeats 4000000 in
set_option maxRecDepth 100000 in
theorem c_X5_sets {E : z_E} {mi : z_Mi} {mr : z_Mr} {o : Nat} {P : Int → Int} {row c v : Int} (hM : z_MO E mr o) (h0 : 0 ≤ row) (h1 : row < 8) (h2 : 0 ≤ c) (h3 : c < 20) (h4 : 0 ≤ P 0) (h5 : P 0 ≤ 255) : z_mv M_X5_sets E [zo o, zi row, zi c, zi v] (z_u mi (o + 1) P) mr (fun m r => m = z_u mi (o + 1) (p_sets P row c v) ∧ r = mr) := by
  obtain ⟨t0, t1, t2, t3, t4, t5, t6, t7, q0, q2, q3, q4, q5, q6, q7⟩ := id hM
  refine z_ofv (ls := [some (zo o), some (zi row), some (zi c), some (zi v)]) rfl (fun _ _ => trivial) ⟨rfl, rfl⟩ (Nat.le_of_ble_eq_true rfl) rfl ?_
  refine z_aload_n e_X5_sets_0 rfl ?_
  refine z_getr (fi := 0) (r := some (o + 1)) e_X5_sets_1 f_RX5_7 t0 rfl rfl (q0) ?_
  refine z_bipush e_X5_sets_4 (by decide +kernel) ?_
  refine z_iload_n e_X5_sets_6 rfl ?_
  refine z_iadd e_X5_sets_7 ?_
  refine z_iload_n e_X5_sets_8 rfl ?_
  refine z_callSi (M' := M_X5_at) (As := [zi (24 + row), zi c]) (rest := [zo (o + 1)]) e_X5_sets_9 l_RX5_40 rfl rfl rfl rfl (c_X5_at ) (fun xq mq rq hq => ?_)
  obtain ⟨e1q, e2q, e3q⟩ := hq
  subst xq mq rq
  refine z_iload_n e_X5_sets_12 rfl ?_
  refine z_iastU e_X5_sets_13 t1 (by decide) (by omega) (by omega) ?_
  refine z_iload_n e_X5_sets_14 rfl ?_
  refine z_aload_n e_X5_sets_15 rfl ?_
  refine z_getr (fi := 0) (r := some (o + 1)) e_X5_sets_16 f_RX5_7 t0 rfl rfl (q0) ?_
  refine z_iconst e_X5_sets_19 ?_
  refine z_iald (x := (P 0)) e_X5_sets_20 t1 (by decide) (by decide) (by decide) ((congrFun (z_us _ _ _) _).trans (z_vn (by omega))) ?_
  refine z_iconst e_X5_sets_21 ?_
  refine z_isub e_X5_sets_22 ?_
  refine z_icmp_ne e_X5_sets_23 ⟨by omega, by omega⟩ ⟨by omega, by omega⟩ (fun h23_1 => ?_) (fun h23_1 => ?_)
  · refine z_ret e_X5_sets_34 rfl rfl rfl ⟨rfl, rfl, ?_⟩
    refine ⟨congrArg _ ?_, rfl⟩
    rw [p_v_upd _ _ _ _ (by omega) (by omega)]
    refine p_upd_ext (fun j g0 g1 => ?_)
    unfold r_set z_v
    grind
  · refine z_aload_n e_X5_sets_26 rfl ?_
    refine z_bipush e_X5_sets_27 (by decide +kernel) ?_
    refine z_iload_n e_X5_sets_29 rfl ?_
    refine z_iadd e_X5_sets_30 ?_
    refine z_callVv (M' := M_X5_unwraps) (As := [zi (24 + row)]) (rest := []) e_X5_sets_31 l_RX5_44 rfl rfl rfl rfl t0 ⟨_, _, rfl⟩ (c_X5_unwraps hM (by omega) (by omega)) (fun mq rq hq => ?_)
    obtain ⟨e2q, e3q⟩ := hq
    subst mq rq
    refine z_ret e_X5_sets_34 rfl rfl rfl ⟨rfl, rfl, ?_⟩
    refine ⟨congrArg _ ?_, rfl⟩
    rw [p_v_upd _ _ _ _ (by omega) (by omega), p_upd_upd]
    refine p_upd_ext (fun j g0 g1 => ?_)
    unfold r_unw
    rw [p_row_upd _ _ _ g0 g1]
    unfold r_set z_v
    grind
set_option maxHeartbeats 4000000 in
set_option maxRecDepth 100000 in
theorem c_X5_frees {E : z_E} {mi : z_Mi} {mr : z_Mr} {o : Nat} {P : Int → Int} {row a b : Int} (hM : z_MO E mr o) (h0 : 0 ≤ row) (h1 : row < 8) (h2 : 0 ≤ a) (h3 : a ≤ b) (h4 : b < P 0) (hw0 : 4 ≤ P 0) (hw1 : P 0 ≤ 20) (hP : z_pr P) : z_mv M_X5_frees E [zo o, zi row, zi a, zi b] (z_u mi (o + 1) P) mr (fun m r => m = z_u mi (o + 1) (p_frees P row a b) ∧ r = mr) := by
  obtain ⟨t0, t1, t2, t3, t4, t5, t6, t7, q0, q2, q3, q4, q5, q6, q7⟩ := id hM
  refine z_ofv (ls := [some (zo o), some (zi row), some (zi a), some (zi b)]) rfl (fun _ _ => trivial) ⟨rfl, rfl⟩ (Nat.le_of_ble_eq_true rfl) rfl ?_
  have join29_0 : ∀ (P1 : Int → Int), P1 = p_upd P (24 + row) (r_free1 (P 0) a (p_row P (24 + row))) → z_A M_X5_frees E 0 0 29 [some (zo o), some (zi row), some (zi a), some (zi b)] [] (z_u mi (o + 1) P1) mr (z_qv E (fun m r => m = z_u mi (o + 1) (p_frees P row a b) ∧ r = mr)) := by
    intro P1 hj
    have hP1 : z_pr P1 := by rw [hj]; exact z_pr_up hP (z_pr_free1 (z_pr_row hP _))
    have e0 : P1 0 = P 0 := by rw [hj]; exact p_upd_hd _ _ (by omega)
    refine z_iload_n e_X5_frees_29 rfl ?_
    refine z_iconst e_X5_frees_30 ?_
    refine z_iadd e_X5_frees_31 ?_
    refine z_aload_n e_X5_frees_32 rfl ?_
    refine z_getr (fi := 0) (r := some (o + 1)) e_X5_frees_33 f_RX5_7 t0 rfl rfl (q0) ?_
    refine z_iconst e_X5_frees_36 ?_
    refine z_iald (x := (P 0)) e_X5_frees_37 t1 (by decide) (by decide) (by decide) ((congrFun (z_us _ _ _) _).trans e0) ?_
    refine z_icmp_ge e_X5_frees_38 ⟨by omega, by omega⟩ ⟨by omega, by omega⟩ (fun h38_2 => ?_) (fun h38_2 => ?_)
    · refine z_ret e_X5_frees_66 rfl rfl rfl ⟨rfl, rfl, ?_⟩
      refine ⟨congrArg _ ?_, rfl⟩
      exact p_free2_no hj (by omega) (by omega) (by first | exact Or.inl (by omega) | exact Or.inr (by assumption))
    · refine z_aload_n e_X5_frees_41 rfl ?_
      refine z_bipush e_X5_frees_42 (by decide +kernel) ?_
      refine z_iload_n e_X5_frees_44 rfl ?_
      refine z_iadd e_X5_frees_45 ?_
      refine z_iload_n e_X5_frees_46 rfl ?_
      refine z_callVi (M' := M_X5_code) (As := [zi (24 + row), zi b]) (rest := []) e_X5_frees_47 l_RX5_51 rfl rfl rfl rfl t0 ⟨_, _, rfl⟩ (c_X5_code hM (by omega) (by omega)) (fun xq mq rq hq => ?_)
      obtain ⟨e1q, e2q, e3q⟩ := hq
      subst xq mq rq
      have hbq := hP1 (15 + 22 * (24 + row) + b)
      refine z_callSi (M' := M_X5_isWide) (As := [zi (P1 (15 + 22 * (24 + row) + b))]) (rest := []) e_X5_frees_50 l_RX5_62 rfl rfl rfl rfl (c_X5_isWide ⟨by omega, by omega⟩) (fun xq mq rq hq => ?_)
      obtain ⟨e1q, e2q, e3q⟩ := hq
      subst xq mq rq
      refine z_if_eqB e_X5_frees_53  (fun h53_3 => ?_) (fun h53_3 => ?_)
      · refine z_ret e_X5_frees_66 rfl rfl rfl ⟨rfl, rfl, ?_⟩
        refine ⟨congrArg _ ?_, rfl⟩
        exact p_free2_no hj (by omega) (by omega) (by first | exact Or.inl (by omega) | exact Or.inr (by assumption))
      · refine z_aload_n e_X5_frees_56 rfl ?_
        refine z_iload_n e_X5_frees_57 rfl ?_
        refine z_iload_n e_X5_frees_58 rfl ?_
        refine z_iconst e_X5_frees_59 ?_
        refine z_iadd e_X5_frees_60 ?_
        refine z_bipush e_X5_frees_61 (by decide +kernel) ?_
        refine z_callVv (M' := M_X5_sets) (As := [zi row, zi (b + 1), zi 32]) (rest := []) e_X5_frees_63 l_RX5_58 rfl rfl rfl rfl t0 ⟨_, _, rfl⟩ (c_X5_sets hM (by omega) (by omega) (by omega) (by omega) (by omega) (by omega)) (fun mq rq hq => ?_)
        obtain ⟨e2q, e3q⟩ := hq
        subst mq rq
        refine z_ret e_X5_frees_66 rfl rfl rfl ⟨rfl, rfl, ?_⟩
        refine ⟨congrArg _ ?_, rfl⟩
        show p_upd P1 (24 + row) (r_set (P1 0) (b + 1) 32 (p_row P1 (24 + row))) = _
        rw [e0]
        exact p_free2_do hj (by omega) (by omega) (by omega) (by assumption)
  refine z_iload_n e_X5_frees_0 rfl ?_
  refine z_if_le e_X5_frees_1 ⟨by omega, by omega⟩ (fun h1_4 => ?_) (fun h1_4 => ?_)
  · exact join29_0 P (p_free1_no (by first | exact Or.inl (by omega) | exact Or.inr (by assumption)))
  · refine z_aload_n e_X5_frees_4 rfl ?_
    refine z_bipush e_X5_frees_5 (by decide +kernel) ?_
    refine z_iload_n e_X5_frees_7 rfl ?_
    refine z_iadd e_X5_frees_8 ?_
    refine z_iload_n e_X5_frees_9 rfl ?_
    refine z_callVi (M' := M_X5_code) (As := [zi (24 + row), zi a]) (rest := []) e_X5_frees_10 l_RX5_51 rfl rfl rfl rfl t0 ⟨_, _, rfl⟩ (c_X5_code hM (by omega) (by omega)) (fun xq mq rq hq => ?_)
    obtain ⟨e1q, e2q, e3q⟩ := hq
    subst xq mq rq
    have hbq := hP (15 + 22 * (24 + row) + a)
    refine z_callSi (M' := M_X5_isRight) (As := [zi (P (15 + 22 * (24 + row) + a))]) (rest := []) e_X5_frees_13 l_RX5_54 rfl rfl rfl rfl (c_X5_isRight ⟨by omega, by omega⟩) (fun xq mq rq hq => ?_)
    obtain ⟨e1q, e2q, e3q⟩ := hq
    subst xq mq rq
    refine z_if_eqB e_X5_frees_16  (fun h16_5 => ?_) (fun h16_5 => ?_)
    · exact join29_0 P (p_free1_no (by first | exact Or.inl (by omega) | exact Or.inr (by assumption)))
    · refine z_aload_n e_X5_frees_19 rfl ?_
      refine z_iload_n e_X5_frees_20 rfl ?_
      refine z_iload_n e_X5_frees_21 rfl ?_
      refine z_iconst e_X5_frees_22 ?_
      refine z_isub e_X5_frees_23 ?_
      refine z_bipush e_X5_frees_24 (by decide +kernel) ?_
      refine z_callVv (M' := M_X5_sets) (As := [zi row, zi (a - 1), zi 32]) (rest := []) e_X5_frees_26 l_RX5_58 rfl rfl rfl rfl t0 ⟨_, _, rfl⟩ (c_X5_sets hM (by omega) (by omega) (by omega) (by omega) (by omega) (by omega)) (fun mq rq hq => ?_)
      obtain ⟨e2q, e3q⟩ := hq
      subst mq rq
      exact join29_0 (p_sets P row (a - 1) 32) (p_free1_do (by omega) (by assumption))
set_option maxHeartbeats 4000000 in
set_option maxRecDepth 100000 in
theorem c_X5_erases {E : z_E} {mi : z_Mi} {mr : z_Mr} {o : Nat} {P : Int → Int} {row a b : Int} (hM : z_MO E mr o) (h0 : 0 ≤ row) (h1 : row < 8) (h2 : 0 ≤ a) (h3 : a ≤ b) (h4 : b < P 0) (hw0 : 4 ≤ P 0) (hw1 : P 0 ≤ 20) (hP : z_pr P) : z_mv M_X5_erases E [zo o, zi row, zi a, zi b] (z_u mi (o + 1) P) mr (fun m r => m = z_u mi (o + 1) (p_erases P row a b) ∧ r = mr) := by
  obtain ⟨t0, t1, t2, t3, t4, t5, t6, t7, q0, q2, q3, q4, q5, q6, q7⟩ := id hM
  refine z_ofv (ls := [some (zo o), some (zi row), some (zi a), some (zi b), none]) rfl (fun _ _ => trivial) ⟨rfl, rfl⟩ (Nat.le_of_ble_eq_true rfl) rfl ?_
  refine z_aload_n e_X5_erases_0 rfl ?_
  refine z_iload_n e_X5_erases_1 rfl ?_
  refine z_iload_n e_X5_erases_2 rfl ?_
  refine z_iload_n e_X5_erases_3 rfl ?_
  refine z_callVv (M' := M_X5_frees) (As := [zi row, zi a, zi b]) (rest := []) e_X5_erases_4 l_RX5_65 rfl rfl rfl rfl t0 ⟨_, _, rfl⟩ (c_X5_frees hM (by omega) (by omega) (by omega) (by omega) (by omega) (by omega) (by omega) hP) (fun mq rq hq => ?_)
  obtain ⟨e2q, e3q⟩ := hq
  subst mq rq
  refine z_iload_n e_X5_erases_7 rfl ?_
  refine z_istore (ls' := [some (zo o), some (zi row), some (zi a), some (zi b), some (zi a)]) e_X5_erases_8 rfl rfl rfl ?_
  have loop10 : ∀ (nn : Nat) (c : Int) (P1 : Int → Int), (20 - c).toNat = nn → (a ≤ c ∧ c ≤ b + 1 ∧ P1 = p_upd P (24 + row) (r_fill (P 0) a (c - 1) (r_free (P 0) a b (p_row P (24 + row))))) → z_A M_X5_erases E 0 0 10 [some (zo o), some (zi row), some (zi a), some (zi b), some (zi c)] [] (z_u mi (o + 1) P1) mr (z_qv E (fun m r => m = z_u mi (o + 1) (p_erases P row a b) ∧ r = mr)) := by
    intro nn
    induction nn using Nat.strongRecOn with
    | _ nn ih =>
      intro c P1 hmeas hinv
      obtain ⟨hc0, hc1, hP1⟩ := hinv
      have e0 : P1 0 = P 0 := by rw [hP1]; exact p_upd_hd _ _ (by omega)
      refine z_iload e_X5_erases_10 rfl ?_
      refine z_iload_n e_X5_erases_12 rfl ?_
      refine z_icmp_gt e_X5_erases_13 ⟨by omega, by omega⟩ ⟨by omega, by omega⟩ (fun h13_1 => ?_) (fun h13_1 => ?_)
      · refine z_ret e_X5_erases_31 rfl rfl rfl ⟨rfl, rfl, ?_⟩
        have hcb : c = b + 1 := by omega
        subst hcb
        rw [hP1, show b + 1 - 1 = b by omega]
        exact ⟨rfl, rfl⟩
      · refine z_aload_n e_X5_erases_16 rfl ?_
        refine z_iload_n e_X5_erases_17 rfl ?_
        refine z_iload e_X5_erases_18 rfl ?_
        refine z_bipush e_X5_erases_20 (by decide +kernel) ?_
        refine z_callVv (M' := M_X5_sets) (As := [zi row, zi c, zi 32]) (rest := []) e_X5_erases_22 l_RX5_58 rfl rfl rfl rfl t0 ⟨_, _, rfl⟩ (c_X5_sets hM (by omega) (by omega) (by omega) (by omega) (by omega) (by omega)) (fun mq rq hq => ?_)
        obtain ⟨e2q, e3q⟩ := hq
        subst mq rq
        refine z_iinc (y := (c + 1)) (ls' := [some (zo o), some (zi row), some (zi a), some (zi b), some (zi (c + 1))]) e_X5_erases_25 rfl rfl rfl rfl rfl ?_
        refine z_goto e_X5_erases_28 ?_
        exact ih _ (by omega) (c + 1) (p_sets P1 row c 32) rfl (⟨by omega, by omega, by show p_upd P1 (24 + row) (r_set (P1 0) c 32 (p_row P1 (24 + row))) = _; rw [e0, p_set_on hP1]; exact p_upd_ext (fun j g0 g1 => by rw [r_fill_s (by omega) (by omega) (by omega) (by omega) j]; congr 1; omega)⟩)
  exact loop10 _ a (p_frees P row a b) rfl (⟨by omega, by omega, p_upd_ext (fun c h0 h1 => (r_fill_0 c).symm)⟩)
set_option maxHeartbeats 4000000 in
set_option maxRecDepth 100000 in
theorem c_X5_usedCells {E : z_E} {mi : z_Mi} {mr : z_Mr} {o : Nat} {P : Int → Int} {s : Int} (hM : z_MO E mr o) (h0 : 0 ≤ s) (h1 : s ≤ 31) (hw0 : 4 ≤ P 0) (hw1 : P 0 ≤ 20) (hP : z_pr P) : z_mi M_X5_usedCells E [zo o, zi s] (z_u mi (o + 1) P) mr (fun x m r => x = m_used P s ∧ m = z_u mi (o + 1) P ∧ r = mr) := by
  obtain ⟨t0, t1, t2, t3, t4, t5, t6, t7, q0, q2, q3, q4, q5, q6, q7⟩ := id hM
  refine z_ofi (ls := [some (zo o), some (zi s), none]) rfl (fun _ _ => trivial) ⟨rfl, rfl⟩ (Nat.le_of_ble_eq_true rfl) rfl ?_
  refine z_aload_n e_X5_usedCells_0 rfl ?_
  refine z_getr (fi := 0) (r := some (o + 1)) e_X5_usedCells_1 f_RX5_7 t0 rfl rfl (q0) ?_
  refine z_iconst e_X5_usedCells_4 ?_
  refine z_iald (x := (P 0)) e_X5_usedCells_5 t1 (by decide) (by decide) (by decide) (congrFun (z_us _ _ _) _) ?_
  refine z_istore_n (ls' := [some (zo o), some (zi s), some (zi (P 0))]) e_X5_usedCells_6 rfl rfl rfl ?_
  have loop7 : ∀ (nn : Nat) (n : Int), n.toNat = nn → (0 ≤ n ∧ n ≤ P 0 ∧ m_used P s = n_used (p_row P s) n.toNat) → z_A M_X5_usedCells E 0 0 7 [some (zo o), some (zi s), some (zi n)] [] (z_u mi (o + 1) P) mr (z_qi E (fun x m r => x = m_used P s ∧ m = z_u mi (o + 1) P ∧ r = mr)) := by
    intro nn
    induction nn using Nat.strongRecOn with
    | _ nn ih =>
      intro n hmeas hinv
      obtain ⟨hc0, hc1, hn⟩ := hinv
      refine z_iload_n e_X5_usedCells_7 rfl ?_
      refine z_if_le e_X5_usedCells_8 ⟨by omega, by omega⟩ (fun h8_1 => ?_) (fun h8_1 => ?_)
      · refine z_iload_n e_X5_usedCells_30 rfl ?_
        refine z_iret e_X5_usedCells_31 (Or.inl rfl) rfl rfl ⟨rfl, _, rfl, ?_⟩
        refine ⟨?_, rfl, rfl⟩
        rw [hn]
        first | exact (n_used_n (by omega) (by assumption)).symm | (rw [show n = 0 by omega]; rfl)
      · refine z_aload_n e_X5_usedCells_11 rfl ?_
        refine z_iload_n e_X5_usedCells_12 rfl ?_
        refine z_iload_n e_X5_usedCells_13 rfl ?_
        refine z_iconst e_X5_usedCells_14 ?_
        refine z_isub e_X5_usedCells_15 ?_
        refine z_callVi (M' := M_X5_code) (As := [zi s, zi (n - 1)]) (rest := []) e_X5_usedCells_16 l_RX5_51 rfl rfl rfl rfl t0 ⟨_, _, rfl⟩ (c_X5_code hM (by omega) (by omega)) (fun xq mq rq hq => ?_)
        obtain ⟨e1q, e2q, e3q⟩ := hq
        subst xq mq rq
        have hbq := hP (15 + 22 * s + (n - 1))
        refine z_bipush e_X5_usedCells_19 (by decide +kernel) ?_
        refine z_icmp_ne e_X5_usedCells_21 ⟨by omega, by omega⟩ (by decide) (fun h21_2 => ?_) (fun h21_2 => ?_)
        · refine z_iload_n e_X5_usedCells_30 rfl ?_
          refine z_iret e_X5_usedCells_31 (Or.inl rfl) rfl rfl ⟨rfl, _, rfl, ?_⟩
          refine ⟨?_, rfl, rfl⟩
          rw [hn]
          first | exact (n_used_n (by omega) (by assumption)).symm | (rw [show n = 0 by omega]; rfl)
        · refine z_iinc (y := (n + (-1))) (ls' := [some (zo o), some (zi s), some (zi (n + (-1)))]) e_X5_usedCells_24 rfl rfl rfl rfl rfl ?_
          refine z_goto e_X5_usedCells_27 ?_
          exact ih _ (by omega) (n + (-1)) rfl (⟨by omega, by omega, by rw [hn]; exact n_used_z (by omega) (by assumption)⟩)
  exact loop7 _ (P 0) rfl (⟨by omega, by omega, rfl⟩)
set_option maxHeartbeats 4000000 in
set_option maxRecDepth 100000 in
theorem c_X5_filled {E : z_E} {mi : z_Mi} {mr : z_Mr} {o : Nat} {P : Int → Int} {s : Int} (hM : z_MO E mr o) (h0 : 0 ≤ s) (h1 : s ≤ 31) (hw0 : 4 ≤ P 0) (hw1 : P 0 ≤ 20) (hP : z_pr P) : z_mi M_X5_filled E [zo o, zi s] (z_u mi (o + 1) P) mr (fun x m r => x = m_fill P s ∧ m = z_u mi (o + 1) P ∧ r = mr) := by
  obtain ⟨t0, t1, t2, t3, t4, t5, t6, t7, q0, q2, q3, q4, q5, q6, q7⟩ := id hM
  refine z_ofi (ls := [some (zo o), some (zi s), none, none]) rfl (fun _ _ => trivial) ⟨rfl, rfl⟩ (Nat.le_of_ble_eq_true rfl) rfl ?_
  refine z_iconst e_X5_filled_0 ?_
  refine z_istore_n (ls' := [some (zo o), some (zi s), some (zi 0), none]) e_X5_filled_1 rfl rfl rfl ?_
  refine z_iconst e_X5_filled_2 ?_
  refine z_istore_n (ls' := [some (zo o), some (zi s), some (zi 0), some (zi 0)]) e_X5_filled_3 rfl rfl rfl ?_
  have loop4 : ∀ (nn : Nat) (n : Int) (c : Int), (P 0 - c).toNat = nn → (0 ≤ c ∧ c ≤ P 0 ∧ n = n_cnt (fun c => P (15 + 22 * s + c) ≠ 32) c.toNat) → z_A M_X5_filled E 0 0 4 [some (zo o), some (zi s), some (zi n), some (zi c)] [] (z_u mi (o + 1) P) mr (z_qi E (fun x m r => x = m_fill P s ∧ m = z_u mi (o + 1) P ∧ r = mr)) := by
    intro nn
    induction nn using Nat.strongRecOn with
    | _ nn ih =>
      intro n c hmeas hinv
      obtain ⟨hc0, hc1, hn⟩ := hinv
      refine z_iload_n e_X5_filled_4 rfl ?_
      refine z_aload_n e_X5_filled_5 rfl ?_
      refine z_getr (fi := 0) (r := some (o + 1)) e_X5_filled_6 f_RX5_7 t0 rfl rfl (q0) ?_
      refine z_iconst e_X5_filled_9 ?_
      refine z_iald (x := (P 0)) e_X5_filled_10 t1 (by decide) (by decide) (by decide) (congrFun (z_us _ _ _) _) ?_
      refine z_icmp_ge e_X5_filled_11 ⟨by omega, by omega⟩ ⟨by omega, by omega⟩ (fun h11_1 => ?_) (fun h11_1 => ?_)
      · refine z_iload_n e_X5_filled_39 rfl ?_
        refine z_iret e_X5_filled_40 (Or.inl rfl) rfl rfl ⟨rfl, _, rfl, ?_⟩
        refine ⟨?_, rfl, rfl⟩
        rw [hn, show c = P 0 by omega]
        rfl
      · refine z_iload_n e_X5_filled_14 rfl ?_
        refine z_aload_n e_X5_filled_15 rfl ?_
        refine z_iload_n e_X5_filled_16 rfl ?_
        refine z_iload_n e_X5_filled_17 rfl ?_
        refine z_callVi (M' := M_X5_code) (As := [zi s, zi c]) (rest := [zi n]) e_X5_filled_18 l_RX5_51 rfl rfl rfl rfl t0 ⟨_, _, rfl⟩ (c_X5_code hM (by omega) (by omega)) (fun xq mq rq hq => ?_)
        obtain ⟨e1q, e2q, e3q⟩ := hq
        subst xq mq rq
        have hbq := hP (15 + 22 * s + c)
        refine z_bipush e_X5_filled_21 (by decide +kernel) ?_
        refine z_icmp_ne e_X5_filled_23 ⟨by omega, by omega⟩ (by decide) (fun h23_2 => ?_) (fun h23_2 => ?_)
        · refine z_iconst e_X5_filled_30 ?_
          refine z_iadd e_X5_filled_31 ?_
          refine z_istore_n (ls' := [some (zo o), some (zi s), some (zi (n + 1)), some (zi c)]) e_X5_filled_32 rfl rfl rfl ?_
          refine z_iinc (y := (c + 1)) (ls' := [some (zo o), some (zi s), some (zi (n + 1)), some (zi (c + 1))]) e_X5_filled_33 rfl rfl rfl rfl rfl ?_
          refine z_goto e_X5_filled_36 ?_
          exact ih _ (by omega) (n + 1) (c + 1) rfl (⟨by omega, by omega, by rw [n_cnt_s _ hc0, hn, if_pos (by assumption)]⟩)
        · refine z_iconst e_X5_filled_26 ?_
          refine z_goto e_X5_filled_27 ?_
          refine z_iadd e_X5_filled_31 ?_
          refine z_istore_n (ls' := [some (zo o), some (zi s), some (zi (n + 0)), some (zi c)]) e_X5_filled_32 rfl rfl rfl ?_
          refine z_iinc (y := (c + 1)) (ls' := [some (zo o), some (zi s), some (zi (n + 0)), some (zi (c + 1))]) e_X5_filled_33 rfl rfl rfl rfl rfl ?_
          refine z_goto e_X5_filled_36 ?_
          exact ih _ (by omega) (n + 0) (c + 1) rfl (⟨by omega, by omega, by rw [n_cnt_s _ hc0, hn, if_neg (by simpa using (by assumption : P (15 + 22 * s + c) = 32))]⟩)
  exact loop4 _ 0 0 rfl (⟨by omega, by omega, rfl⟩)
end
section
theorem z_last_dummy : True := trivial
end
