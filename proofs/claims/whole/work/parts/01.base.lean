-- ===== PART A: goes FIRST, ahead of the names: the tables' words, and 'selects' of the private methods out of them =====
/-- a private method of a class that the tables say can be made, by its rows of tables_1 -/
def lw_okq (q : MethodName × Nat) : Prop := (q.1.cls ≠ "java/lang/invoke/MethodHandle" ∧ q.1.cls ≠ "java/lang/invoke/VarHandle") ∧ Cond.instantiable q.1.cls q.2 ∈ tables_1 ∧ Cond.privateMethod q.1 ∈ tables_1 ∧ Cond.instanceMethod q.1 ∈ tables_1
theorem lw_p0 : lw_okq (⟨"PictureMoves", "refusedBad", "()I"⟩, 10) := ⟨⟨by decide +kernel, by decide +kernel⟩, List.mem_of_getElem? (i := 20) (by decide +kernel), List.mem_of_getElem? (i := 235) (by decide +kernel), List.mem_of_getElem? (i := 236) (by decide +kernel)⟩
theorem lw_p1 : lw_okq (⟨"PictureMoves", "refusedFull", "()I"⟩, 10) := ⟨⟨by decide +kernel, by decide +kernel⟩, List.mem_of_getElem? (i := 20) (by decide +kernel), List.mem_of_getElem? (i := 405) (by decide +kernel), List.mem_of_getElem? (i := 406) (by decide +kernel)⟩
theorem lw_p2 : lw_okq (⟨"PictureMoves$Painter", "movesBlock", "(LPictureMoves$Order;)I"⟩, 4) := ⟨⟨by decide +kernel, by decide +kernel⟩, List.mem_of_getElem? (i := 95) (by decide +kernel), List.mem_of_getElem? (i := 413) (by decide +kernel), List.mem_of_getElem? (i := 414) (by decide +kernel)⟩
theorem lw_p3 : lw_okq (⟨"PictureMoves$Painter", "keepsSource", "(I)V"⟩, 4) := ⟨⟨by decide +kernel, by decide +kernel⟩, List.mem_of_getElem? (i := 95) (by decide +kernel), List.mem_of_getElem? (i := 421) (by decide +kernel), List.mem_of_getElem? (i := 422) (by decide +kernel)⟩
theorem lw_p4 : lw_okq (⟨"PictureMoves$Painter", "sourceAt", "(I)I"⟩, 4) := ⟨⟨by decide +kernel, by decide +kernel⟩, List.mem_of_getElem? (i := 95) (by decide +kernel), List.mem_of_getElem? (i := 427) (by decide +kernel), List.mem_of_getElem? (i := 428) (by decide +kernel)⟩
theorem lw_p5 : lw_okq (⟨"PictureMoves$Painter", "drawsLine", "(LPictureMoves$Order;)I"⟩, 4) := ⟨⟨by decide +kernel, by decide +kernel⟩, List.mem_of_getElem? (i := 95) (by decide +kernel), List.mem_of_getElem? (i := 455) (by decide +kernel), List.mem_of_getElem? (i := 456) (by decide +kernel)⟩
theorem lw_p6 : lw_okq (⟨"PictureMoves$Painter", "floods", "(III)I"⟩, 4) := ⟨⟨by decide +kernel, by decide +kernel⟩, List.mem_of_getElem? (i := 95) (by decide +kernel), List.mem_of_getElem? (i := 469) (by decide +kernel), List.mem_of_getElem? (i := 470) (by decide +kernel)⟩
theorem lw_p7 : lw_okq (⟨"PictureMoves$Parts", "reaches", "(II)V"⟩, 4) := ⟨⟨by decide +kernel, by decide +kernel⟩, List.mem_of_getElem? (i := 54) (by decide +kernel), List.mem_of_getElem? (i := 484) (by decide +kernel), List.mem_of_getElem? (i := 485) (by decide +kernel)⟩
theorem lw_p8 : lw_okq (⟨"PictureMoves$Painter", "fillsRectangle", "(LPictureMoves$Order;)I"⟩, 4) := ⟨⟨by decide +kernel, by decide +kernel⟩, List.mem_of_getElem? (i := 95) (by decide +kernel), List.mem_of_getElem? (i := 493) (by decide +kernel), List.mem_of_getElem? (i := 494) (by decide +kernel)⟩
theorem lw_p9 : lw_okq (⟨"PictureMoves$Painter", "writesLetter", "(LPictureMoves$Order;)I"⟩, 4) := ⟨⟨by decide +kernel, by decide +kernel⟩, List.mem_of_getElem? (i := 95) (by decide +kernel), List.mem_of_getElem? (i := 497) (by decide +kernel), List.mem_of_getElem? (i := 498) (by decide +kernel)⟩
theorem lw_p10 : lw_okq (⟨"PictureMoves", "refusedNo", "()I"⟩, 10) := ⟨⟨by decide +kernel, by decide +kernel⟩, List.mem_of_getElem? (i := 20) (by decide +kernel), List.mem_of_getElem? (i := 525) (by decide +kernel), List.mem_of_getElem? (i := 526) (by decide +kernel)⟩
theorem lw_p11 : lw_okq (⟨"PictureMoves$Whole", "changedRow", "(III)I"⟩, 2) := ⟨⟨by decide +kernel, by decide +kernel⟩, List.mem_of_getElem? (i := 114) (by decide +kernel), List.mem_of_getElem? (i := 555) (by decide +kernel), List.mem_of_getElem? (i := 556) (by decide +kernel)⟩
theorem lw_p12 : lw_okq (⟨"PictureMoves$Whole", "grownRow", "(II)I"⟩, 2) := ⟨⟨by decide +kernel, by decide +kernel⟩, List.mem_of_getElem? (i := 114) (by decide +kernel), List.mem_of_getElem? (i := 562) (by decide +kernel), List.mem_of_getElem? (i := 563) (by decide +kernel)⟩
theorem lw_p13 : lw_okq (⟨"PictureMoves$Whole", "thinnedRow", "(II)I"⟩, 2) := ⟨⟨by decide +kernel, by decide +kernel⟩, List.mem_of_getElem? (i := 114) (by decide +kernel), List.mem_of_getElem? (i := 566) (by decide +kernel), List.mem_of_getElem? (i := 567) (by decide +kernel)⟩
theorem lw_p14 : lw_okq (⟨"PictureMoves$Whole", "becomesWhatComes", "(I)I"⟩, 2) := ⟨⟨by decide +kernel, by decide +kernel⟩, List.mem_of_getElem? (i := 114) (by decide +kernel), List.mem_of_getElem? (i := 570) (by decide +kernel), List.mem_of_getElem? (i := 571) (by decide +kernel)⟩
theorem lw_p15 : lw_okq (⟨"PictureMoves$Measure", "partsOf", "(I)I"⟩, 3) := ⟨⟨by decide +kernel, by decide +kernel⟩, List.mem_of_getElem? (i := 127) (by decide +kernel), List.mem_of_getElem? (i := 604) (by decide +kernel), List.mem_of_getElem? (i := 605) (by decide +kernel)⟩
def lw_privs_1 : List (MethodName × Nat) := [(⟨"PictureMoves", "refusedBad", "()I"⟩, 10), (⟨"PictureMoves", "refusedFull", "()I"⟩, 10), (⟨"PictureMoves$Painter", "movesBlock", "(LPictureMoves$Order;)I"⟩, 4), (⟨"PictureMoves$Painter", "keepsSource", "(I)V"⟩, 4), (⟨"PictureMoves$Painter", "sourceAt", "(I)I"⟩, 4), (⟨"PictureMoves$Painter", "drawsLine", "(LPictureMoves$Order;)I"⟩, 4), (⟨"PictureMoves$Painter", "floods", "(III)I"⟩, 4), (⟨"PictureMoves$Parts", "reaches", "(II)V"⟩, 4), (⟨"PictureMoves$Painter", "fillsRectangle", "(LPictureMoves$Order;)I"⟩, 4), (⟨"PictureMoves$Painter", "writesLetter", "(LPictureMoves$Order;)I"⟩, 4), (⟨"PictureMoves", "refusedNo", "()I"⟩, 10), (⟨"PictureMoves$Whole", "changedRow", "(III)I"⟩, 2), (⟨"PictureMoves$Whole", "grownRow", "(II)I"⟩, 2), (⟨"PictureMoves$Whole", "thinnedRow", "(II)I"⟩, 2), (⟨"PictureMoves$Whole", "becomesWhatComes", "(I)I"⟩, 2), (⟨"PictureMoves$Measure", "partsOf", "(I)I"⟩, 3)]
theorem lw_r1 : ∀ q ∈ lw_privs_1, lw_okq q := List.forall_mem_cons.mpr ⟨lw_p0, List.forall_mem_cons.mpr ⟨lw_p1, List.forall_mem_cons.mpr ⟨lw_p2, List.forall_mem_cons.mpr ⟨lw_p3, List.forall_mem_cons.mpr ⟨lw_p4, List.forall_mem_cons.mpr ⟨lw_p5, List.forall_mem_cons.mpr ⟨lw_p6, List.forall_mem_cons.mpr ⟨lw_p7, List.forall_mem_cons.mpr ⟨lw_p8, List.forall_mem_cons.mpr ⟨lw_p9, List.forall_mem_cons.mpr ⟨lw_p10, List.forall_mem_cons.mpr ⟨lw_p11, List.forall_mem_cons.mpr ⟨lw_p12, List.forall_mem_cons.mpr ⟨lw_p13, List.forall_mem_cons.mpr ⟨lw_p14, List.forall_mem_cons.mpr ⟨lw_p15, fun _ h => absurd h List.not_mem_nil⟩⟩⟩⟩⟩⟩⟩⟩⟩⟩⟩⟩⟩⟩⟩⟩
theorem lw_p16 : lw_okq (⟨"PictureMoves$Measure", "leastX", "(I)I"⟩, 3) := ⟨⟨by decide +kernel, by decide +kernel⟩, List.mem_of_getElem? (i := 127) (by decide +kernel), List.mem_of_getElem? (i := 613) (by decide +kernel), List.mem_of_getElem? (i := 614) (by decide +kernel)⟩
theorem lw_p17 : lw_okq (⟨"PictureMoves$Measure", "columnsOf", "(I)I"⟩, 3) := ⟨⟨by decide +kernel, by decide +kernel⟩, List.mem_of_getElem? (i := 127) (by decide +kernel), List.mem_of_getElem? (i := 617) (by decide +kernel), List.mem_of_getElem? (i := 618) (by decide +kernel)⟩
theorem lw_p18 : lw_okq (⟨"PictureMoves$Measure", "greatestX", "(I)I"⟩, 3) := ⟨⟨by decide +kernel, by decide +kernel⟩, List.mem_of_getElem? (i := 127) (by decide +kernel), List.mem_of_getElem? (i := 622) (by decide +kernel), List.mem_of_getElem? (i := 623) (by decide +kernel)⟩
theorem lw_p19 : lw_okq (⟨"PictureMoves$Measure", "leastY", "(I)I"⟩, 3) := ⟨⟨by decide +kernel, by decide +kernel⟩, List.mem_of_getElem? (i := 127) (by decide +kernel), List.mem_of_getElem? (i := 626) (by decide +kernel), List.mem_of_getElem? (i := 627) (by decide +kernel)⟩
theorem lw_p20 : lw_okq (⟨"PictureMoves$Measure", "greatestY", "(I)I"⟩, 3) := ⟨⟨by decide +kernel, by decide +kernel⟩, List.mem_of_getElem? (i := 127) (by decide +kernel), List.mem_of_getElem? (i := 630) (by decide +kernel), List.mem_of_getElem? (i := 631) (by decide +kernel)⟩
theorem lw_p21 : lw_okq (⟨"PictureMoves$Measure", "openDots", "()I"⟩, 3) := ⟨⟨by decide +kernel, by decide +kernel⟩, List.mem_of_getElem? (i := 127) (by decide +kernel), List.mem_of_getElem? (i := 634) (by decide +kernel), List.mem_of_getElem? (i := 635) (by decide +kernel)⟩
theorem lw_p22 : lw_okq (⟨"PictureMoves$OrderText", "skipsBlanks", "()V"⟩, 4) := ⟨⟨by decide +kernel, by decide +kernel⟩, List.mem_of_getElem? (i := 171) (by decide +kernel), List.mem_of_getElem? (i := 702) (by decide +kernel), List.mem_of_getElem? (i := 703) (by decide +kernel)⟩
theorem lw_p23 : lw_okq (⟨"PictureMoves$OrderText", "byteHere", "()I"⟩, 4) := ⟨⟨by decide +kernel, by decide +kernel⟩, List.mem_of_getElem? (i := 171) (by decide +kernel), List.mem_of_getElem? (i := 706) (by decide +kernel), List.mem_of_getElem? (i := 707) (by decide +kernel)⟩
theorem lw_p24 : lw_okq (⟨"PictureMoves$OrderText", "readsNumber", "()Z"⟩, 4) := ⟨⟨by decide +kernel, by decide +kernel⟩, List.mem_of_getElem? (i := 171) (by decide +kernel), List.mem_of_getElem? (i := 724) (by decide +kernel), List.mem_of_getElem? (i := 725) (by decide +kernel)⟩
theorem lw_p25 : lw_okq (⟨"PictureMoves", "tally", "(I)I"⟩, 10) := ⟨⟨by decide +kernel, by decide +kernel⟩, List.mem_of_getElem? (i := 20) (by decide +kernel), List.mem_of_getElem? (i := 747) (by decide +kernel), List.mem_of_getElem? (i := 748) (by decide +kernel)⟩
theorem lw_p26 : lw_okq (⟨"PictureMovesModel", "bad", "(I)I"⟩, 12) := ⟨⟨by decide +kernel, by decide +kernel⟩, List.mem_of_getElem? (i := 762) (by decide +kernel), List.mem_of_getElem? (i := 822) (by decide +kernel), List.mem_of_getElem? (i := 823) (by decide +kernel)⟩
theorem lw_p27 : lw_okq (⟨"PictureMovesModel", "keep", "()V"⟩, 12) := ⟨⟨by decide +kernel, by decide +kernel⟩, List.mem_of_getElem? (i := 762) (by decide +kernel), List.mem_of_getElem? (i := 826) (by decide +kernel), List.mem_of_getElem? (i := 827) (by decide +kernel)⟩
theorem lw_p28 : lw_okq (⟨"PictureMovesModel", "sets", "(IIII)I"⟩, 12) := ⟨⟨by decide +kernel, by decide +kernel⟩, List.mem_of_getElem? (i := 762) (by decide +kernel), List.mem_of_getElem? (i := 830) (by decide +kernel), List.mem_of_getElem? (i := 831) (by decide +kernel)⟩
theorem lw_p29 : lw_okq (⟨"PictureMovesModel", "dotOf", "(III)I"⟩, 12) := ⟨⟨by decide +kernel, by decide +kernel⟩, List.mem_of_getElem? (i := 762) (by decide +kernel), List.mem_of_getElem? (i := 834) (by decide +kernel), List.mem_of_getElem? (i := 835) (by decide +kernel)⟩
theorem lw_p30 : lw_okq (⟨"PictureMovesModel", "dots", "(I)I"⟩, 12) := ⟨⟨by decide +kernel, by decide +kernel⟩, List.mem_of_getElem? (i := 762) (by decide +kernel), List.mem_of_getElem? (i := 857) (by decide +kernel), List.mem_of_getElem? (i := 858) (by decide +kernel)⟩
theorem lw_p31 : lw_okq (⟨"PictureMovesModel", "full", "()I"⟩, 12) := ⟨⟨by decide +kernel, by decide +kernel⟩, List.mem_of_getElem? (i := 762) (by decide +kernel), List.mem_of_getElem? (i := 874) (by decide +kernel), List.mem_of_getElem? (i := 875) (by decide +kernel)⟩
def lw_privs_2 : List (MethodName × Nat) := [(⟨"PictureMoves$Measure", "leastX", "(I)I"⟩, 3), (⟨"PictureMoves$Measure", "columnsOf", "(I)I"⟩, 3), (⟨"PictureMoves$Measure", "greatestX", "(I)I"⟩, 3), (⟨"PictureMoves$Measure", "leastY", "(I)I"⟩, 3), (⟨"PictureMoves$Measure", "greatestY", "(I)I"⟩, 3), (⟨"PictureMoves$Measure", "openDots", "()I"⟩, 3), (⟨"PictureMoves$OrderText", "skipsBlanks", "()V"⟩, 4), (⟨"PictureMoves$OrderText", "byteHere", "()I"⟩, 4), (⟨"PictureMoves$OrderText", "readsNumber", "()Z"⟩, 4), (⟨"PictureMoves", "tally", "(I)I"⟩, 10), (⟨"PictureMovesModel", "bad", "(I)I"⟩, 12), (⟨"PictureMovesModel", "keep", "()V"⟩, 12), (⟨"PictureMovesModel", "sets", "(IIII)I"⟩, 12), (⟨"PictureMovesModel", "dotOf", "(III)I"⟩, 12), (⟨"PictureMovesModel", "dots", "(I)I"⟩, 12), (⟨"PictureMovesModel", "full", "()I"⟩, 12)]
theorem lw_r2 : ∀ q ∈ lw_privs_2, lw_okq q := List.forall_mem_cons.mpr ⟨lw_p16, List.forall_mem_cons.mpr ⟨lw_p17, List.forall_mem_cons.mpr ⟨lw_p18, List.forall_mem_cons.mpr ⟨lw_p19, List.forall_mem_cons.mpr ⟨lw_p20, List.forall_mem_cons.mpr ⟨lw_p21, List.forall_mem_cons.mpr ⟨lw_p22, List.forall_mem_cons.mpr ⟨lw_p23, List.forall_mem_cons.mpr ⟨lw_p24, List.forall_mem_cons.mpr ⟨lw_p25, List.forall_mem_cons.mpr ⟨lw_p26, List.forall_mem_cons.mpr ⟨lw_p27, List.forall_mem_cons.mpr ⟨lw_p28, List.forall_mem_cons.mpr ⟨lw_p29, List.forall_mem_cons.mpr ⟨lw_p30, List.forall_mem_cons.mpr ⟨lw_p31, fun _ h => absurd h List.not_mem_nil⟩⟩⟩⟩⟩⟩⟩⟩⟩⟩⟩⟩⟩⟩⟩⟩
theorem lw_p32 : lw_okq (⟨"PictureMovesModel", "opens", "(IIII)V"⟩, 12) := ⟨⟨by decide +kernel, by decide +kernel⟩, List.mem_of_getElem? (i := 762) (by decide +kernel), List.mem_of_getElem? (i := 878) (by decide +kernel), List.mem_of_getElem? (i := 879) (by decide +kernel)⟩
theorem lw_p33 : lw_okq (⟨"PictureMovesModel", "shuts", "()I"⟩, 12) := ⟨⟨by decide +kernel, by decide +kernel⟩, List.mem_of_getElem? (i := 762) (by decide +kernel), List.mem_of_getElem? (i := 886) (by decide +kernel), List.mem_of_getElem? (i := 887) (by decide +kernel)⟩
theorem lw_p34 : lw_okq (⟨"PictureMovesModel", "moves", "(IIIIIIIII)I"⟩, 12) := ⟨⟨by decide +kernel, by decide +kernel⟩, List.mem_of_getElem? (i := 762) (by decide +kernel), List.mem_of_getElem? (i := 897) (by decide +kernel), List.mem_of_getElem? (i := 898) (by decide +kernel)⟩
theorem lw_p35 : lw_okq (⟨"PictureMovesModel", "copies", "([I)V"⟩, 12) := ⟨⟨by decide +kernel, by decide +kernel⟩, List.mem_of_getElem? (i := 762) (by decide +kernel), List.mem_of_getElem? (i := 901) (by decide +kernel), List.mem_of_getElem? (i := 902) (by decide +kernel)⟩
theorem lw_p36 : lw_okq (⟨"PictureMovesModel", "asideAt", "(III)I"⟩, 12) := ⟨⟨by decide +kernel, by decide +kernel⟩, List.mem_of_getElem? (i := 762) (by decide +kernel), List.mem_of_getElem? (i := 905) (by decide +kernel), List.mem_of_getElem? (i := 906) (by decide +kernel)⟩
theorem lw_p37 : lw_okq (⟨"PictureMovesModel", "joinsAt", "(IIIII)I"⟩, 12) := ⟨⟨by decide +kernel, by decide +kernel⟩, List.mem_of_getElem? (i := 762) (by decide +kernel), List.mem_of_getElem? (i := 909) (by decide +kernel), List.mem_of_getElem? (i := 910) (by decide +kernel)⟩
theorem lw_p38 : lw_okq (⟨"PictureMovesModel", "isOpen", "(II)Z"⟩, 12) := ⟨⟨by decide +kernel, by decide +kernel⟩, List.mem_of_getElem? (i := 762) (by decide +kernel), List.mem_of_getElem? (i := 913) (by decide +kernel), List.mem_of_getElem? (i := 914) (by decide +kernel)⟩
theorem lw_p39 : lw_okq (⟨"PictureMovesModel", "patternAt", "(II)I"⟩, 12) := ⟨⟨by decide +kernel, by decide +kernel⟩, List.mem_of_getElem? (i := 762) (by decide +kernel), List.mem_of_getElem? (i := 917) (by decide +kernel), List.mem_of_getElem? (i := 918) (by decide +kernel)⟩
theorem lw_p40 : lw_okq (⟨"PictureMovesModel", "lines", "(IIIIII)I"⟩, 12) := ⟨⟨by decide +kernel, by decide +kernel⟩, List.mem_of_getElem? (i := 762) (by decide +kernel), List.mem_of_getElem? (i := 925) (by decide +kernel), List.mem_of_getElem? (i := 926) (by decide +kernel)⟩
theorem lw_p41 : lw_okq (⟨"PictureMovesModel", "mayFlood", "(II)Z"⟩, 12) := ⟨⟨by decide +kernel, by decide +kernel⟩, List.mem_of_getElem? (i := 762) (by decide +kernel), List.mem_of_getElem? (i := 939) (by decide +kernel), List.mem_of_getElem? (i := 940) (by decide +kernel)⟩
theorem lw_p42 : lw_okq (⟨"PictureMovesModel", "no", "()I"⟩, 12) := ⟨⟨by decide +kernel, by decide +kernel⟩, List.mem_of_getElem? (i := 762) (by decide +kernel), List.mem_of_getElem? (i := 943) (by decide +kernel), List.mem_of_getElem? (i := 944) (by decide +kernel)⟩
theorem lw_p43 : lw_okq (⟨"PictureMovesModel", "floods", "(III)I"⟩, 12) := ⟨⟨by decide +kernel, by decide +kernel⟩, List.mem_of_getElem? (i := 762) (by decide +kernel), List.mem_of_getElem? (i := 947) (by decide +kernel), List.mem_of_getElem? (i := 948) (by decide +kernel)⟩
theorem lw_p44 : lw_okq (⟨"PictureMovesModel", "noneCame", "()V"⟩, 12) := ⟨⟨by decide +kernel, by decide +kernel⟩, List.mem_of_getElem? (i := 762) (by decide +kernel), List.mem_of_getElem? (i := 951) (by decide +kernel), List.mem_of_getElem? (i := 952) (by decide +kernel)⟩
theorem lw_p45 : lw_okq (⟨"PictureMovesModel", "spreads", "(IIIZ)I"⟩, 12) := ⟨⟨by decide +kernel, by decide +kernel⟩, List.mem_of_getElem? (i := 762) (by decide +kernel), List.mem_of_getElem? (i := 955) (by decide +kernel), List.mem_of_getElem? (i := 956) (by decide +kernel)⟩
theorem lw_p46 : lw_okq (⟨"PictureMovesModel", "comes", "(II)V"⟩, 12) := ⟨⟨by decide +kernel, by decide +kernel⟩, List.mem_of_getElem? (i := 762) (by decide +kernel), List.mem_of_getElem? (i := 959) (by decide +kernel), List.mem_of_getElem? (i := 960) (by decide +kernel)⟩
theorem lw_p47 : lw_okq (⟨"PictureMovesModel", "rectangles", "(IIIIII)I"⟩, 12) := ⟨⟨by decide +kernel, by decide +kernel⟩, List.mem_of_getElem? (i := 762) (by decide +kernel), List.mem_of_getElem? (i := 967) (by decide +kernel), List.mem_of_getElem? (i := 968) (by decide +kernel)⟩
def lw_privs_3 : List (MethodName × Nat) := [(⟨"PictureMovesModel", "opens", "(IIII)V"⟩, 12), (⟨"PictureMovesModel", "shuts", "()I"⟩, 12), (⟨"PictureMovesModel", "moves", "(IIIIIIIII)I"⟩, 12), (⟨"PictureMovesModel", "copies", "([I)V"⟩, 12), (⟨"PictureMovesModel", "asideAt", "(III)I"⟩, 12), (⟨"PictureMovesModel", "joinsAt", "(IIIII)I"⟩, 12), (⟨"PictureMovesModel", "isOpen", "(II)Z"⟩, 12), (⟨"PictureMovesModel", "patternAt", "(II)I"⟩, 12), (⟨"PictureMovesModel", "lines", "(IIIIII)I"⟩, 12), (⟨"PictureMovesModel", "mayFlood", "(II)Z"⟩, 12), (⟨"PictureMovesModel", "no", "()I"⟩, 12), (⟨"PictureMovesModel", "floods", "(III)I"⟩, 12), (⟨"PictureMovesModel", "noneCame", "()V"⟩, 12), (⟨"PictureMovesModel", "spreads", "(IIIZ)I"⟩, 12), (⟨"PictureMovesModel", "comes", "(II)V"⟩, 12), (⟨"PictureMovesModel", "rectangles", "(IIIIII)I"⟩, 12)]
theorem lw_r3 : ∀ q ∈ lw_privs_3, lw_okq q := List.forall_mem_cons.mpr ⟨lw_p32, List.forall_mem_cons.mpr ⟨lw_p33, List.forall_mem_cons.mpr ⟨lw_p34, List.forall_mem_cons.mpr ⟨lw_p35, List.forall_mem_cons.mpr ⟨lw_p36, List.forall_mem_cons.mpr ⟨lw_p37, List.forall_mem_cons.mpr ⟨lw_p38, List.forall_mem_cons.mpr ⟨lw_p39, List.forall_mem_cons.mpr ⟨lw_p40, List.forall_mem_cons.mpr ⟨lw_p41, List.forall_mem_cons.mpr ⟨lw_p42, List.forall_mem_cons.mpr ⟨lw_p43, List.forall_mem_cons.mpr ⟨lw_p44, List.forall_mem_cons.mpr ⟨lw_p45, List.forall_mem_cons.mpr ⟨lw_p46, List.forall_mem_cons.mpr ⟨lw_p47, fun _ h => absurd h List.not_mem_nil⟩⟩⟩⟩⟩⟩⟩⟩⟩⟩⟩⟩⟩⟩⟩⟩
theorem lw_p48 : lw_okq (⟨"PictureMovesModel", "letters", "(IIIII)I"⟩, 12) := ⟨⟨by decide +kernel, by decide +kernel⟩, List.mem_of_getElem? (i := 762) (by decide +kernel), List.mem_of_getElem? (i := 976) (by decide +kernel), List.mem_of_getElem? (i := 977) (by decide +kernel)⟩
theorem lw_p49 : lw_okq (⟨"PictureMovesModel", "changed", "(IIII)I"⟩, 12) := ⟨⟨by decide +kernel, by decide +kernel⟩, List.mem_of_getElem? (i := 762) (by decide +kernel), List.mem_of_getElem? (i := 989) (by decide +kernel), List.mem_of_getElem? (i := 990) (by decide +kernel)⟩
theorem lw_p50 : lw_okq (⟨"PictureMovesModel", "sides", "(III)I"⟩, 12) := ⟨⟨by decide +kernel, by decide +kernel⟩, List.mem_of_getElem? (i := 762) (by decide +kernel), List.mem_of_getElem? (i := 993) (by decide +kernel), List.mem_of_getElem? (i := 994) (by decide +kernel)⟩
theorem lw_p51 : lw_okq (⟨"PictureMovesModel", "partsOf", "(I)I"⟩, 12) := ⟨⟨by decide +kernel, by decide +kernel⟩, List.mem_of_getElem? (i := 762) (by decide +kernel), List.mem_of_getElem? (i := 1015) (by decide +kernel), List.mem_of_getElem? (i := 1016) (by decide +kernel)⟩
theorem lw_p52 : lw_okq (⟨"PictureMovesModel", "openDots", "()I"⟩, 12) := ⟨⟨by decide +kernel, by decide +kernel⟩, List.mem_of_getElem? (i := 762) (by decide +kernel), List.mem_of_getElem? (i := 1019) (by decide +kernel), List.mem_of_getElem? (i := 1020) (by decide +kernel)⟩
theorem lw_p53 : lw_okq (⟨"PictureMovesModel", "edge", "(IZZ)I"⟩, 12) := ⟨⟨by decide +kernel, by decide +kernel⟩, List.mem_of_getElem? (i := 762) (by decide +kernel), List.mem_of_getElem? (i := 1023) (by decide +kernel), List.mem_of_getElem? (i := 1024) (by decide +kernel)⟩
theorem lw_p54 : lw_okq (⟨"PictureMovesModel", "isLike", "(IIIIIIII)Z"⟩, 12) := ⟨⟨by decide +kernel, by decide +kernel⟩, List.mem_of_getElem? (i := 762) (by decide +kernel), List.mem_of_getElem? (i := 1040) (by decide +kernel), List.mem_of_getElem? (i := 1041) (by decide +kernel)⟩
theorem lw_p55 : lw_okq (⟨"PictureMovesModel", "goesThrough", "(Z)I"⟩, 12) := ⟨⟨by decide +kernel, by decide +kernel⟩, List.mem_of_getElem? (i := 762) (by decide +kernel), List.mem_of_getElem? (i := 1061) (by decide +kernel), List.mem_of_getElem? (i := 1062) (by decide +kernel)⟩
theorem lw_p56 : lw_okq (⟨"PictureMovesModel", "reads", "(I)I"⟩, 12) := ⟨⟨by decide +kernel, by decide +kernel⟩, List.mem_of_getElem? (i := 762) (by decide +kernel), List.mem_of_getElem? (i := 1065) (by decide +kernel), List.mem_of_getElem? (i := 1066) (by decide +kernel)⟩
theorem lw_p57 : lw_okq (⟨"PictureMovesModel", "skip", "()V"⟩, 12) := ⟨⟨by decide +kernel, by decide +kernel⟩, List.mem_of_getElem? (i := 762) (by decide +kernel), List.mem_of_getElem? (i := 1069) (by decide +kernel), List.mem_of_getElem? (i := 1070) (by decide +kernel)⟩
theorem lw_p58 : lw_okq (⟨"PictureMovesModel", "takes", "(II)Z"⟩, 12) := ⟨⟨by decide +kernel, by decide +kernel⟩, List.mem_of_getElem? (i := 762) (by decide +kernel), List.mem_of_getElem? (i := 1082) (by decide +kernel), List.mem_of_getElem? (i := 1083) (by decide +kernel)⟩
theorem lw_p59 : lw_okq (⟨"PictureMovesModel", "isByte", "(III)Z"⟩, 12) := ⟨⟨by decide +kernel, by decide +kernel⟩, List.mem_of_getElem? (i := 762) (by decide +kernel), List.mem_of_getElem? (i := 1086) (by decide +kernel), List.mem_of_getElem? (i := 1087) (by decide +kernel)⟩
theorem lw_p60 : lw_okq (⟨"PictureMovesModel", "doesOne", "(I)I"⟩, 12) := ⟨⟨by decide +kernel, by decide +kernel⟩, List.mem_of_getElem? (i := 762) (by decide +kernel), List.mem_of_getElem? (i := 1094) (by decide +kernel), List.mem_of_getElem? (i := 1095) (by decide +kernel)⟩
theorem lw_p61 : lw_okq (⟨"PictureMovesModel", "toldOf", "(I)I"⟩, 12) := ⟨⟨by decide +kernel, by decide +kernel⟩, List.mem_of_getElem? (i := 762) (by decide +kernel), List.mem_of_getElem? (i := 1107) (by decide +kernel), List.mem_of_getElem? (i := 1108) (by decide +kernel)⟩
def lw_privs_4 : List (MethodName × Nat) := [(⟨"PictureMovesModel", "letters", "(IIIII)I"⟩, 12), (⟨"PictureMovesModel", "changed", "(IIII)I"⟩, 12), (⟨"PictureMovesModel", "sides", "(III)I"⟩, 12), (⟨"PictureMovesModel", "partsOf", "(I)I"⟩, 12), (⟨"PictureMovesModel", "openDots", "()I"⟩, 12), (⟨"PictureMovesModel", "edge", "(IZZ)I"⟩, 12), (⟨"PictureMovesModel", "isLike", "(IIIIIIII)Z"⟩, 12), (⟨"PictureMovesModel", "goesThrough", "(Z)I"⟩, 12), (⟨"PictureMovesModel", "reads", "(I)I"⟩, 12), (⟨"PictureMovesModel", "skip", "()V"⟩, 12), (⟨"PictureMovesModel", "takes", "(II)Z"⟩, 12), (⟨"PictureMovesModel", "isByte", "(III)Z"⟩, 12), (⟨"PictureMovesModel", "doesOne", "(I)I"⟩, 12), (⟨"PictureMovesModel", "toldOf", "(I)I"⟩, 12)]
theorem lw_r4 : ∀ q ∈ lw_privs_4, lw_okq q := List.forall_mem_cons.mpr ⟨lw_p48, List.forall_mem_cons.mpr ⟨lw_p49, List.forall_mem_cons.mpr ⟨lw_p50, List.forall_mem_cons.mpr ⟨lw_p51, List.forall_mem_cons.mpr ⟨lw_p52, List.forall_mem_cons.mpr ⟨lw_p53, List.forall_mem_cons.mpr ⟨lw_p54, List.forall_mem_cons.mpr ⟨lw_p55, List.forall_mem_cons.mpr ⟨lw_p56, List.forall_mem_cons.mpr ⟨lw_p57, List.forall_mem_cons.mpr ⟨lw_p58, List.forall_mem_cons.mpr ⟨lw_p59, List.forall_mem_cons.mpr ⟨lw_p60, List.forall_mem_cons.mpr ⟨lw_p61, fun _ h => absurd h List.not_mem_nil⟩⟩⟩⟩⟩⟩⟩⟩⟩⟩⟩⟩⟩⟩
def lw_privs : List (MethodName × Nat) := lw_privs_1 ++ (lw_privs_2 ++ (lw_privs_3 ++ (lw_privs_4)))
def lw_tbl : List Cond := k2_sels lw_privs ++ tables_1
theorem lw_privs_ok : ∀ q ∈ lw_privs, lw_okq q := by
  show ∀ q ∈ lw_privs_1 ++ (lw_privs_2 ++ (lw_privs_3 ++ (lw_privs_4))), lw_okq q
  exact List.forall_mem_append.mpr ⟨lw_r1, List.forall_mem_append.mpr ⟨lw_r2, List.forall_mem_append.mpr ⟨lw_r3, lw_r4⟩⟩⟩

/-! ===== BEGIN words of one list among another's, by their places ===== -/
theorem goodIn_r {big : List Cond} (ws : List Cond) (ps : List Nat) (hp : ws = ps.filterMap (fun i => big[i]?)) (h : ws.all goodWord = true) : GoodIn big ws := by
  intro w hw
  have h1 := List.all_eq_true.mp h w hw
  rw [hp] at hw
  obtain ⟨i, -, hi⟩ := List.mem_filterMap.mp hw
  have hm : w ∈ big := by first | exact List.mem_of_getElem? hi | exact List.getElem?_mem hi
  exact ⟨hm, good_of_word h1⟩
theorem goodIn_app {big a b : List Cond} (ha : GoodIn big a) (hb : GoodIn big b) : GoodIn big (a ++ b) := fun w h => (List.mem_append.mp h).elim (ha w) (hb w)
theorem goodIn_ca {big a b : List Cond} {c : Cond} (ha : GoodIn big (c :: a)) (hb : GoodIn big b) : GoodIn big (c :: (a ++ b)) := fun w h => (List.mem_cons.mp h).elim (fun e => ha w (List.mem_cons.mpr (Or.inl e))) (fun h => (List.mem_append.mp h).elim (fun h => ha w (List.mem_cons.mpr (Or.inr h))) (hb w))
theorem goodIn_sub {big ws : List Cond} (hm : ∀ w ∈ ws, w ∈ big) (h : ws.all goodWord = true) : GoodIn big ws := fun w hw => ⟨hm w hw, good_of_word (List.all_eq_true.mp h w hw)⟩
/-! ===== END ===== -/

/-! ===== BEGIN printed: names, fields, word lists, decode rows ===== -/
def RX0 : String := "PictureMoves$Measure"
def TX0 : u_T := fun k => match k with
  | 0 => ("PictureMoves$Measure", "scene", "LPictureMoves$Scene;", true)
  | 1 => ("PictureMoves$Measure", "parts", "LPictureMoves$Parts;", true)
  | _ => ("PictureMoves$Measure", "block", "[I", true)
def tyX0 : Nat → FieldType := fun k => match k with
  | 0 => .object "PictureMoves$Scene"
  | 1 => .object "PictureMoves$Parts"
  | _ => .array .int
abbrev wsX00 : List Cond := u_ws RX0 TX0 3
theorem nmX0 : ∀ a, a < 3 → ∀ b, b < 3 → a ≠ b → (TX0 a).2.1 ≠ (TX0 b).2.1 := by decide +kernel
theorem tyX0_ok : ∀ k, k < 3 → parseFieldDescriptor (TX0 k).2.2.1 = some (tyX0 k) := by decide +kernel
abbrev cX0_init : ByteArray := prog_2_method_1_code
def yX0_init : MethodName := ⟨RX0, "<init>", "(LPictureMoves$Scene;LPictureMoves$Parts;)V"⟩
abbrev cX0_measured : ByteArray := prog_2_method_2_code
def yX0_measured : MethodName := ⟨RX0, "measured", "(II)I"⟩
abbrev cX0_ones : ByteArray := prog_2_method_3_code
def yX0_ones : MethodName := ⟨RX0, "ones", "(I)I"⟩
abbrev cX0_onesWithin : ByteArray := prog_2_method_4_code
def yX0_onesWithin : MethodName := ⟨RX0, "onesWithin", "(IIIII)I"⟩
abbrev cX0_unlikeDots : ByteArray := prog_2_method_5_code
def yX0_unlikeDots : MethodName := ⟨RX0, "unlikeDots", "(II)I"⟩
abbrev cX0_takesBlock : ByteArray := prog_2_method_6_code
def yX0_takesBlock : MethodName := ⟨RX0, "takesBlock", "(IIII)V"⟩
abbrev cX0_placesOfBlock : ByteArray := prog_2_method_7_code
def yX0_placesOfBlock : MethodName := ⟨RX0, "placesOfBlock", "(III)I"⟩
abbrev cX0_alikePlaces : ByteArray := prog_2_method_8_code
def yX0_alikePlaces : MethodName := ⟨RX0, "alikePlaces", "(III)I"⟩
abbrev cX0_partsOf : ByteArray := prog_2_method_9_code
def yX0_partsOf : MethodName := ⟨RX0, "partsOf", "(I)I"⟩
abbrev cX0_columnsOf : ByteArray := prog_2_method_10_code
def yX0_columnsOf : MethodName := ⟨RX0, "columnsOf", "(I)I"⟩
abbrev cX0_leastX : ByteArray := prog_2_method_11_code
def yX0_leastX : MethodName := ⟨RX0, "leastX", "(I)I"⟩
abbrev cX0_greatestX : ByteArray := prog_2_method_12_code
def yX0_greatestX : MethodName := ⟨RX0, "greatestX", "(I)I"⟩
abbrev cX0_leastY : ByteArray := prog_2_method_13_code
def yX0_leastY : MethodName := ⟨RX0, "leastY", "(I)I"⟩
abbrev cX0_greatestY : ByteArray := prog_2_method_14_code
def yX0_greatestY : MethodName := ⟨RX0, "greatestY", "(I)I"⟩
abbrev cX0_openDots : ByteArray := prog_2_method_15_code
def yX0_openDots : MethodName := ⟨RX0, "openDots", "()I"⟩
def RX1 : String := "PictureMoves$Order"
def TX1 : u_T := fun k => match k with
  | 0 => ("PictureMoves$Order", "numbers", "[I", true)
  | 1 => ("PictureMoves$Order", "sign", "I", false)
  | 2 => ("PictureMoves$Order", "kinds", "Ljava/lang/String;", false)
  | 3 => ("PictureMoves$Order", "size", "I", false)
  | _ => ("PictureMoves$Order", "allWithin", "Z", false)
def tyX1 : Nat → FieldType := fun k => match k with
  | 0 => .array .int
  | 1 => .int
  | 2 => .object "java/lang/String"
  | 3 => .int
  | _ => .boolean
abbrev wsX10 : List Cond := u_ws RX1 TX1 5
theorem nmX1 : ∀ a, a < 5 → ∀ b, b < 5 → a ≠ b → (TX1 a).2.1 ≠ (TX1 b).2.1 := by decide +kernel
theorem tyX1_ok : ∀ k, k < 5 → parseFieldDescriptor (TX1 k).2.2.1 = some (tyX1 k) := by decide +kernel
abbrev cX1_init : ByteArray := prog_3_method_1_code
def yX1_init : MethodName := ⟨RX1, "<init>", "()V"⟩
abbrev cX1_begins : ByteArray := prog_3_method_2_code
def yX1_begins : MethodName := ⟨RX1, "begins", "(I)V"⟩
abbrev cX1_with : ByteArray := prog_3_method_3_code
def yX1_with : MethodName := ⟨RX1, "with", "(I)LPictureMoves$Order;"⟩
abbrev cX1_isAsTold : ByteArray := prog_3_method_4_code
def yX1_isAsTold : MethodName := ⟨RX1, "isAsTold", "()Z"⟩
abbrev cX1_numberAt : ByteArray := prog_3_method_5_code
def yX1_numberAt : MethodName := ⟨RX1, "numberAt", "(I)I"⟩
abbrev cX1_isSign : ByteArray := prog_3_method_6_code
def yX1_isSign : MethodName := ⟨RX1, "isSign", "(I)Z"⟩
abbrev cX1_kindsOf : ByteArray := prog_3_method_7_code
def yX1_kindsOf : MethodName := ⟨RX1, "kindsOf", "(I)Ljava/lang/String;"⟩
abbrev cX1_isOfKind : ByteArray := prog_3_method_8_code
def yX1_isOfKind : MethodName := ⟨RX1, "isOfKind", "(IC)Z"⟩
def RX2 : String := "PictureMoves$OrderText"
def TX2 : u_T := fun k => match k with
  | 0 => ("PictureMoves$OrderText", "bytes", "[B", true)
  | 1 => ("PictureMoves$OrderText", "length", "I", false)
  | 2 => ("PictureMoves$OrderText", "place", "I", false)
  | _ => ("PictureMoves$OrderText", "number", "I", false)
def tyX2 : Nat → FieldType := fun k => match k with
  | 0 => .array .byte
  | 1 => .int
  | 2 => .int
  | _ => .int
abbrev wsX20 : List Cond := u_ws RX2 TX2 4
theorem nmX2 : ∀ a, a < 4 → ∀ b, b < 4 → a ≠ b → (TX2 a).2.1 ≠ (TX2 b).2.1 := by decide +kernel
theorem tyX2_ok : ∀ k, k < 4 → parseFieldDescriptor (TX2 k).2.2.1 = some (tyX2 k) := by decide +kernel
abbrev cX2_init : ByteArray := prog_4_method_1_code
def yX2_init : MethodName := ⟨RX2, "<init>", "()V"⟩
abbrev cX2_takes : ByteArray := prog_4_method_2_code
def yX2_takes : MethodName := ⟨RX2, "takes", "(I)V"⟩
abbrev cX2_restarts : ByteArray := prog_4_method_3_code
def yX2_restarts : MethodName := ⟨RX2, "restarts", "()V"⟩
abbrev cX2_isAtEnd : ByteArray := prog_4_method_4_code
def yX2_isAtEnd : MethodName := ⟨RX2, "isAtEnd", "()Z"⟩
abbrev cX2_faultIn : ByteArray := prog_4_method_5_code
def yX2_faultIn : MethodName := ⟨RX2, "faultIn", "(LPictureMoves$Order;I)I"⟩
abbrev cX2_reads : ByteArray := prog_4_method_6_code
def yX2_reads : MethodName := ⟨RX2, "reads", "(LPictureMoves$Order;)I"⟩
abbrev cX2_readsNumber : ByteArray := prog_4_method_7_code
def yX2_readsNumber : MethodName := ⟨RX2, "readsNumber", "()Z"⟩
abbrev cX2_skipsBlanks : ByteArray := prog_4_method_8_code
def yX2_skipsBlanks : MethodName := ⟨RX2, "skipsBlanks", "()V"⟩
abbrev cX2_byteHere : ByteArray := prog_4_method_9_code
def yX2_byteHere : MethodName := ⟨RX2, "byteHere", "()I"⟩
abbrev cX2_openingsAfter : ByteArray := prog_4_method_10_code
def yX2_openingsAfter : MethodName := ⟨RX2, "openingsAfter", "(LPictureMoves$Order;I)I"⟩
def RX3 : String := "PictureMoves$Painter"
def TX3 : u_T := fun k => match k with
  | 0 => ("PictureMoves$Painter", "scene", "LPictureMoves$Scene;", true)
  | 1 => ("PictureMoves$Painter", "parts", "LPictureMoves$Parts;", true)
  | 2 => ("PictureMoves$Painter", "source", "[I", true)
  | _ => ("PictureMoves$Painter", "like", "[I", true)
def tyX3 : Nat → FieldType := fun k => match k with
  | 0 => .object "PictureMoves$Scene"
  | 1 => .object "PictureMoves$Parts"
  | 2 => .array .int
  | _ => .array .int
abbrev wsX30 : List Cond := u_ws RX3 TX3 4
theorem nmX3 : ∀ a, a < 4 → ∀ b, b < 4 → a ≠ b → (TX3 a).2.1 ≠ (TX3 b).2.1 := by decide +kernel
theorem tyX3_ok : ∀ k, k < 4 → parseFieldDescriptor (TX3 k).2.2.1 = some (tyX3 k) := by decide +kernel
abbrev cX3_init : ByteArray := prog_5_method_1_code
def yX3_init : MethodName := ⟨RX3, "<init>", "(LPictureMoves$Scene;LPictureMoves$Parts;)V"⟩
abbrev cX3_performs : ByteArray := prog_5_method_2_code
def yX3_performs : MethodName := ⟨RX3, "performs", "(LPictureMoves$Order;)I"⟩
abbrev cX3_movesBlock : ByteArray := prog_5_method_3_code
def yX3_movesBlock : MethodName := ⟨RX3, "movesBlock", "(LPictureMoves$Order;)I"⟩
abbrev cX3_keepsSource : ByteArray := prog_5_method_4_code
def yX3_keepsSource : MethodName := ⟨RX3, "keepsSource", "(I)V"⟩
abbrev cX3_sourceAt : ByteArray := prog_5_method_5_code
def yX3_sourceAt : MethodName := ⟨RX3, "sourceAt", "(I)I"⟩
abbrev cX3_drawsLine : ByteArray := prog_5_method_6_code
def yX3_drawsLine : MethodName := ⟨RX3, "drawsLine", "(LPictureMoves$Order;)I"⟩
abbrev cX3_between : ByteArray := prog_5_method_7_code
def yX3_between : MethodName := ⟨RX3, "between", "(IIII)I"⟩
abbrev cX3_floods : ByteArray := prog_5_method_8_code
def yX3_floods : MethodName := ⟨RX3, "floods", "(III)I"⟩
abbrev cX3_fillsRectangle : ByteArray := prog_5_method_9_code
def yX3_fillsRectangle : MethodName := ⟨RX3, "fillsRectangle", "(LPictureMoves$Order;)I"⟩
abbrev cX3_writesLetter : ByteArray := prog_5_method_10_code
def yX3_writesLetter : MethodName := ⟨RX3, "writesLetter", "(LPictureMoves$Order;)I"⟩
abbrev cX3_letterRow : ByteArray := prog_5_method_11_code
def yX3_letterRow : MethodName := ⟨RX3, "letterRow", "(II)I"⟩
def RX4 : String := "PictureMoves$Parts"
def TX4 : u_T := fun k => match k with
  | 0 => ("PictureMoves$Parts", "left", "[I", true)
  | 1 => ("PictureMoves$Parts", "stepRows", "[I", true)
  | 2 => ("PictureMoves$Parts", "stepDots", "[I", true)
  | _ => ("PictureMoves$Parts", "steps", "I", false)
def tyX4 : Nat → FieldType := fun k => match k with
  | 0 => .array .int
  | 1 => .array .int
  | 2 => .array .int
  | _ => .int
abbrev wsX40 : List Cond := u_ws RX4 TX4 4
theorem nmX4 : ∀ a, a < 4 → ∀ b, b < 4 → a ≠ b → (TX4 a).2.1 ≠ (TX4 b).2.1 := by decide +kernel
theorem tyX4_ok : ∀ k, k < 4 → parseFieldDescriptor (TX4 k).2.2.1 = some (tyX4 k) := by decide +kernel
abbrev cX4_init : ByteArray := prog_6_method_1_code
def yX4_init : MethodName := ⟨RX4, "<init>", "()V"⟩
abbrev cX4_takesOut : ByteArray := prog_6_method_2_code
def yX4_takesOut : MethodName := ⟨RX4, "takesOut", "(II)V"⟩
abbrev cX4_numberOfParts : ByteArray := prog_6_method_3_code
def yX4_numberOfParts : MethodName := ⟨RX4, "numberOfParts", "()I"⟩
abbrev cX4_reaches : ByteArray := prog_6_method_4_code
def yX4_reaches : MethodName := ⟨RX4, "reaches", "(II)V"⟩
abbrev cX4_runsThrough : ByteArray := prog_6_method_5_code
def yX4_runsThrough : MethodName := ⟨RX4, "runsThrough", "(II)I"⟩
def RX5 : String := "PictureMoves$Past"
def TX5 : u_T := fun k => match k with
  | 0 => ("PictureMoves$Past", "kept", "[LPictureMoves$Scene;", true)
  | 1 => ("PictureMoves$Past", "next", "I", false)
  | _ => ("PictureMoves$Past", "size", "I", false)
def tyX5 : Nat → FieldType := fun k => match k with
  | 0 => .array (.object "PictureMoves$Scene")
  | 1 => .int
  | _ => .int
abbrev wsX50 : List Cond := u_ws RX5 TX5 3
theorem nmX5 : ∀ a, a < 3 → ∀ b, b < 3 → a ≠ b → (TX5 a).2.1 ≠ (TX5 b).2.1 := by decide +kernel
theorem tyX5_ok : ∀ k, k < 3 → parseFieldDescriptor (TX5 k).2.2.1 = some (tyX5 k) := by decide +kernel
abbrev cX5_init : ByteArray := prog_7_method_1_code
def yX5_init : MethodName := ⟨RX5, "<init>", "()V"⟩
abbrev cX5_keeps : ByteArray := prog_7_method_2_code
def yX5_keeps : MethodName := ⟨RX5, "keeps", "(LPictureMoves$Scene;)V"⟩
abbrev cX5_givesBack : ByteArray := prog_7_method_3_code
def yX5_givesBack : MethodName := ⟨RX5, "givesBack", "(LPictureMoves$Scene;)V"⟩
def RX6 : String := "PictureMoves$Scene"
def TX6 : u_T := fun k => match k with
  | 0 => ("PictureMoves$Scene", "rows", "[I", true)
  | 1 => ("PictureMoves$Scene", "patternRows", "[I", true)
  | 2 => ("PictureMoves$Scene", "openings", "[I", true)
  | _ => ("PictureMoves$Scene", "openingCount", "I", false)
def tyX6 : Nat → FieldType := fun k => match k with
  | 0 => .array .int
  | 1 => .array .int
  | 2 => .array .int
  | _ => .int
abbrev wsX60 : List Cond := u_ws RX6 TX6 4
theorem nmX6 : ∀ a, a < 4 → ∀ b, b < 4 → a ≠ b → (TX6 a).2.1 ≠ (TX6 b).2.1 := by decide +kernel
theorem tyX6_ok : ∀ k, k < 4 → parseFieldDescriptor (TX6 k).2.2.1 = some (tyX6 k) := by decide +kernel
abbrev cX6_init : ByteArray := prog_8_method_1_code
def yX6_init : MethodName := ⟨RX6, "<init>", "()V"⟩
abbrev cX6_becomes : ByteArray := prog_8_method_2_code
def yX6_becomes : MethodName := ⟨RX6, "becomes", "(LPictureMoves$Scene;)V"⟩
abbrev cX6_rowAt : ByteArray := prog_8_method_3_code
def yX6_rowAt : MethodName := ⟨RX6, "rowAt", "(II)I"⟩
abbrev cX6_putRow : ByteArray := prog_8_method_4_code
def yX6_putRow : MethodName := ⟨RX6, "putRow", "(III)V"⟩
abbrev cX6_dotAt : ByteArray := prog_8_method_5_code
def yX6_dotAt : MethodName := ⟨RX6, "dotAt", "(III)I"⟩
abbrev cX6_patternAt : ByteArray := prog_8_method_6_code
def yX6_patternAt : MethodName := ⟨RX6, "patternAt", "(I)I"⟩
abbrev cX6_openAt : ByteArray := prog_8_method_7_code
def yX6_openAt : MethodName := ⟨RX6, "openAt", "(I)I"⟩
abbrev cX6_isOpen : ByteArray := prog_8_method_8_code
def yX6_isOpen : MethodName := ⟨RX6, "isOpen", "(II)Z"⟩
abbrev cX6_opens : ByteArray := prog_8_method_9_code
def yX6_opens : MethodName := ⟨RX6, "opens", "(IIII)V"⟩
abbrev cX6_joinsRow : ByteArray := prog_8_method_10_code
def yX6_joinsRow : MethodName := ⟨RX6, "joinsRow", "(IIIII)I"⟩
abbrev cX6_turnsDots : ByteArray := prog_8_method_11_code
def yX6_turnsDots : MethodName := ⟨RX6, "turnsDots", "(III)I"⟩
abbrev cX6_mixedInto : ByteArray := prog_8_method_12_code
def yX6_mixedInto : MethodName := ⟨RX6, "mixedInto", "(J)J"⟩
def RX7 : String := "PictureMoves$Whole"
def TX7 : u_T := fun k => match k with
  | 0 => ("PictureMoves$Whole", "scene", "LPictureMoves$Scene;", true)
  | _ => ("PictureMoves$Whole", "comes", "[I", true)
def tyX7 : Nat → FieldType := fun k => match k with
  | 0 => .object "PictureMoves$Scene"
  | _ => .array .int
abbrev wsX70 : List Cond := u_ws RX7 TX7 2
theorem nmX7 : ∀ a, a < 2 → ∀ b, b < 2 → a ≠ b → (TX7 a).2.1 ≠ (TX7 b).2.1 := by decide +kernel
theorem tyX7_ok : ∀ k, k < 2 → parseFieldDescriptor (TX7 k).2.2.1 = some (tyX7 k) := by decide +kernel
abbrev cX7_init : ByteArray := prog_9_method_1_code
def yX7_init : MethodName := ⟨RX7, "<init>", "(LPictureMoves$Scene;)V"⟩
abbrev cX7_drawn : ByteArray := prog_9_method_2_code
def yX7_drawn : MethodName := ⟨RX7, "drawn", "(II)V"⟩
abbrev cX7_numberBehind : ByteArray := prog_9_method_3_code
def yX7_numberBehind : MethodName := ⟨RX7, "numberBehind", "(J)J"⟩
abbrev cX7_joined : ByteArray := prog_9_method_4_code
def yX7_joined : MethodName := ⟨RX7, "joined", "(III)I"⟩
abbrev cX7_changed : ByteArray := prog_9_method_5_code
def yX7_changed : MethodName := ⟨RX7, "changed", "(II)I"⟩
abbrev cX7_rolled : ByteArray := prog_9_method_6_code
def yX7_rolled : MethodName := ⟨RX7, "rolled", "(III)I"⟩
abbrev cX7_changedRow : ByteArray := prog_9_method_7_code
def yX7_changedRow : MethodName := ⟨RX7, "changedRow", "(III)I"⟩
abbrev cX7_grownRow : ByteArray := prog_9_method_8_code
def yX7_grownRow : MethodName := ⟨RX7, "grownRow", "(II)I"⟩
abbrev cX7_thinnedRow : ByteArray := prog_9_method_9_code
def yX7_thinnedRow : MethodName := ⟨RX7, "thinnedRow", "(II)I"⟩
abbrev cX7_mirroredRow : ByteArray := prog_9_method_10_code
def yX7_mirroredRow : MethodName := ⟨RX7, "mirroredRow", "(I)I"⟩
abbrev cX7_becomesWhatComes : ByteArray := prog_9_method_11_code
def yX7_becomesWhatComes : MethodName := ⟨RX7, "becomesWhatComes", "(I)I"⟩
def RX8 : String := "PictureMoves"
def TX8 : u_T := fun k => match k with
  | 0 => ("PictureMoves", "scene", "LPictureMoves$Scene;", true)
  | 1 => ("PictureMoves", "past", "LPictureMoves$Past;", true)
  | 2 => ("PictureMoves", "painter", "LPictureMoves$Painter;", true)
  | 3 => ("PictureMoves", "whole", "LPictureMoves$Whole;", true)
  | 4 => ("PictureMoves", "measure", "LPictureMoves$Measure;", true)
  | 5 => ("PictureMoves", "order", "LPictureMoves$Order;", true)
  | 6 => ("PictureMoves", "text", "LPictureMoves$OrderText;", true)
  | 7 => ("PictureMoves", "bads", "I", false)
  | 8 => ("PictureMoves", "noes", "I", false)
  | _ => ("PictureMoves", "fulls", "I", false)
def tyX8 : Nat → FieldType := fun k => match k with
  | 0 => .object "PictureMoves$Scene"
  | 1 => .object "PictureMoves$Past"
  | 2 => .object "PictureMoves$Painter"
  | 3 => .object "PictureMoves$Whole"
  | 4 => .object "PictureMoves$Measure"
  | 5 => .object "PictureMoves$Order"
  | 6 => .object "PictureMoves$OrderText"
  | 7 => .int
  | 8 => .int
  | _ => .int
abbrev wsX80 : List Cond := u_ws RX8 TX8 10
theorem nmX8 : ∀ a, a < 10 → ∀ b, b < 10 → a ≠ b → (TX8 a).2.1 ≠ (TX8 b).2.1 := by decide +kernel
theorem tyX8_ok : ∀ k, k < 10 → parseFieldDescriptor (TX8 k).2.2.1 = some (tyX8 k) := by decide +kernel
abbrev cX8_init : ByteArray := prog_1_method_1_code
def yX8_init : MethodName := ⟨RX8, "<init>", "()V"⟩
abbrev cX8_dot : ByteArray := prog_1_method_2_code
def yX8_dot : MethodName := ⟨RX8, "dot", "(IIII)I"⟩
abbrev cX8_pattern : ByteArray := prog_1_method_3_code
def yX8_pattern : MethodName := ⟨RX8, "pattern", "(II)I"⟩
abbrev cX8_draw : ByteArray := prog_1_method_4_code
def yX8_draw : MethodName := ⟨RX8, "draw", "(II)I"⟩
abbrev cX8_opening : ByteArray := prog_1_method_5_code
def yX8_opening : MethodName := ⟨RX8, "opening", "(IIII)I"⟩
abbrev cX8_closes : ByteArray := prog_1_method_6_code
def yX8_closes : MethodName := ⟨RX8, "closes", "()I"⟩
abbrev cX8_move : ByteArray := prog_1_method_7_code
def yX8_move : MethodName := ⟨RX8, "move", "(IIIIIIIII)I"⟩
abbrev cX8_line : ByteArray := prog_1_method_8_code
def yX8_line : MethodName := ⟨RX8, "line", "(IIIIII)I"⟩
abbrev cX8_flood : ByteArray := prog_1_method_9_code
def yX8_flood : MethodName := ⟨RX8, "flood", "(III)I"⟩
abbrev cX8_rectangle : ByteArray := prog_1_method_10_code
def yX8_rectangle : MethodName := ⟨RX8, "rectangle", "(IIIIII)I"⟩
abbrev cX8_letter : ByteArray := prog_1_method_11_code
def yX8_letter : MethodName := ⟨RX8, "letter", "(IIIII)I"⟩
abbrev cX8_joins : ByteArray := prog_1_method_12_code
def yX8_joins : MethodName := ⟨RX8, "joins", "(III)I"⟩
abbrev cX8_changes : ByteArray := prog_1_method_13_code
def yX8_changes : MethodName := ⟨RX8, "changes", "(II)I"⟩
abbrev cX8_rolls : ByteArray := prog_1_method_14_code
def yX8_rolls : MethodName := ⟨RX8, "rolls", "(III)I"⟩
abbrev cX8_at : ByteArray := prog_1_method_15_code
def yX8_at : MethodName := ⟨RX8, "at", "(III)I"⟩
abbrev cX8_row : ByteArray := prog_1_method_16_code
def yX8_row : MethodName := ⟨RX8, "row", "(II)I"⟩
abbrev cX8_of : ByteArray := prog_1_method_17_code
def yX8_of : MethodName := ⟨RX8, "of", "(II)I"⟩
abbrev cX8_count : ByteArray := prog_1_method_18_code
def yX8_count : MethodName := ⟨RX8, "count", "(IIIII)I"⟩
abbrev cX8_unlike : ByteArray := prog_1_method_19_code
def yX8_unlike : MethodName := ⟨RX8, "unlike", "(II)I"⟩
abbrev cX8_finds : ByteArray := prog_1_method_20_code
def yX8_finds : MethodName := ⟨RX8, "finds", "(IIIIII)I"⟩
abbrev cX8_open : ByteArray := prog_1_method_21_code
def yX8_open : MethodName := ⟨RX8, "open", "(II)I"⟩
abbrev cX8_type : ByteArray := prog_1_method_22_code
def yX8_type : MethodName := ⟨RX8, "type", "(I)I"⟩
abbrev cX8_clear : ByteArray := prog_1_method_23_code
def yX8_clear : MethodName := ⟨RX8, "clear", "()I"⟩
abbrev cX8_does : ByteArray := prog_1_method_24_code
def yX8_does : MethodName := ⟨RX8, "does", "()I"⟩
abbrev cX8_back : ByteArray := prog_1_method_25_code
def yX8_back : MethodName := ⟨RX8, "back", "()I"⟩
abbrev cX8_told : ByteArray := prog_1_method_26_code
def yX8_told : MethodName := ⟨RX8, "told", "(I)I"⟩
abbrev cX8_digest : ByteArray := prog_1_method_27_code
def yX8_digest : MethodName := ⟨RX8, "digest", "()J"⟩
abbrev cX8_refusedBad : ByteArray := prog_1_method_28_code
def yX8_refusedBad : MethodName := ⟨RX8, "refusedBad", "()I"⟩
abbrev cX8_refusedNo : ByteArray := prog_1_method_29_code
def yX8_refusedNo : MethodName := ⟨RX8, "refusedNo", "()I"⟩
abbrev cX8_refusedFull : ByteArray := prog_1_method_30_code
def yX8_refusedFull : MethodName := ⟨RX8, "refusedFull", "()I"⟩
abbrev cX8_tally : ByteArray := prog_1_method_31_code
def yX8_tally : MethodName := ⟨RX8, "tally", "(I)I"⟩
abbrev cX8_isWithin : ByteArray := prog_1_method_32_code
def yX8_isWithin : MethodName := ⟨RX8, "isWithin", "(III)Z"⟩
abbrev cX8_isPicture : ByteArray := prog_1_method_33_code
def yX8_isPicture : MethodName := ⟨RX8, "isPicture", "(I)Z"⟩
abbrev cX8_isInPicture : ByteArray := prog_1_method_34_code
def yX8_isInPicture : MethodName := ⟨RX8, "isInPicture", "(II)Z"⟩
abbrev cX8_isPlace : ByteArray := prog_1_method_35_code
def yX8_isPlace : MethodName := ⟨RX8, "isPlace", "(I)Z"⟩
abbrev cX8_isSize : ByteArray := prog_1_method_36_code
def yX8_isSize : MethodName := ⟨RX8, "isSize", "(I)Z"⟩
abbrev cX8_shifted : ByteArray := prog_1_method_37_code
def yX8_shifted : MethodName := ⟨RX8, "shifted", "(II)I"⟩
abbrev cX8_dotMask : ByteArray := prog_1_method_38_code
def yX8_dotMask : MethodName := ⟨RX8, "dotMask", "(I)I"⟩
abbrev cX8_spanMask : ByteArray := prog_1_method_39_code
def yX8_spanMask : MethodName := ⟨RX8, "spanMask", "(II)I"⟩
abbrev cX8_joinedRow : ByteArray := prog_1_method_40_code
def yX8_joinedRow : MethodName := ⟨RX8, "joinedRow", "(IIII)I"⟩
def RX9 : String := "PictureMovesModel"
def TX9 : u_T := fun k => match k with
  | 0 => ("PictureMovesModel", "now", "[I", true)
  | 1 => ("PictureMovesModel", "past", "[I", true)
  | 2 => ("PictureMovesModel", "states", "I", false)
  | 3 => ("PictureMovesModel", "refused", "[I", true)
  | 4 => ("PictureMovesModel", "aside", "[I", true)
  | 5 => ("PictureMovesModel", "pile", "[I", true)
  | 6 => ("PictureMovesModel", "came", "[Z", true)
  | 7 => ("PictureMovesModel", "pileLong", "I", false)
  | 8 => ("PictureMovesModel", "text", "[I", true)
  | 9 => ("PictureMovesModel", "textLong", "I", false)
  | 10 => ("PictureMovesModel", "place", "I", false)
  | _ => ("PictureMovesModel", "args", "[I", true)
def tyX9 : Nat → FieldType := fun k => match k with
  | 0 => .array .int
  | 1 => .array .int
  | 2 => .int
  | 3 => .array .int
  | 4 => .array .int
  | 5 => .array .int
  | 6 => .array .boolean
  | 7 => .int
  | 8 => .array .int
  | 9 => .int
  | 10 => .int
  | _ => .array .int
abbrev wsX90 : List Cond := u_ws RX9 TX9 12
theorem nmX9 : ∀ a, a < 12 → ∀ b, b < 12 → a ≠ b → (TX9 a).2.1 ≠ (TX9 b).2.1 := by decide +kernel
theorem tyX9_ok : ∀ k, k < 12 → parseFieldDescriptor (TX9 k).2.2.1 = some (tyX9 k) := by decide +kernel
abbrev cX9_init : ByteArray := prog_11_method_1_code
def yX9_init : MethodName := ⟨RX9, "<init>", "()V"⟩
abbrev cX9_in : ByteArray := prog_11_method_3_code
def yX9_in : MethodName := ⟨RX9, "in", "(JJJ)Z"⟩
abbrev cX9_bad : ByteArray := prog_11_method_4_code
def yX9_bad : MethodName := ⟨RX9, "bad", "(I)I"⟩
abbrev cX9_no : ByteArray := prog_11_method_5_code
def yX9_no : MethodName := ⟨RX9, "no", "()I"⟩
abbrev cX9_full : ByteArray := prog_11_method_6_code
def yX9_full : MethodName := ⟨RX9, "full", "()I"⟩
abbrev cX9_isPicture : ByteArray := prog_11_method_7_code
def yX9_isPicture : MethodName := ⟨RX9, "isPicture", "(I)Z"⟩
abbrev cX9_isPlace : ByteArray := prog_11_method_8_code
def yX9_isPlace : MethodName := ⟨RX9, "isPlace", "(II)Z"⟩
abbrev cX9_isSize : ByteArray := prog_11_method_9_code
def yX9_isSize : MethodName := ⟨RX9, "isSize", "(II)Z"⟩
abbrev cX9_isJoin : ByteArray := prog_11_method_10_code
def yX9_isJoin : MethodName := ⟨RX9, "isJoin", "(I)Z"⟩
abbrev cX9_isIn : ByteArray := prog_11_method_11_code
def yX9_isIn : MethodName := ⟨RX9, "isIn", "(II)Z"⟩
abbrev cX9_keep : ByteArray := prog_11_method_12_code
def yX9_keep : MethodName := ⟨RX9, "keep", "()V"⟩
abbrev cX9_bitOf : ByteArray := prog_11_method_13_code
def yX9_bitOf : MethodName := ⟨RX9, "bitOf", "(II)I"⟩
abbrev cX9_dotOf : ByteArray := prog_11_method_14_code
def yX9_dotOf : MethodName := ⟨RX9, "dotOf", "(III)I"⟩
abbrev cX9_sets : ByteArray := prog_11_method_15_code
def yX9_sets : MethodName := ⟨RX9, "sets", "(IIII)I"⟩
abbrev cX9_patternAt : ByteArray := prog_11_method_16_code
def yX9_patternAt : MethodName := ⟨RX9, "patternAt", "(II)I"⟩
abbrev cX9_isOpen : ByteArray := prog_11_method_17_code
def yX9_isOpen : MethodName := ⟨RX9, "isOpen", "(II)Z"⟩
abbrev cX9_joinsAt : ByteArray := prog_11_method_18_code
def yX9_joinsAt : MethodName := ⟨RX9, "joinsAt", "(IIIII)I"⟩
abbrev cX9_dot : ByteArray := prog_11_method_19_code
def yX9_dot : MethodName := ⟨RX9, "dot", "(IIII)I"⟩
abbrev cX9_pattern : ByteArray := prog_11_method_20_code
def yX9_pattern : MethodName := ⟨RX9, "pattern", "(II)I"⟩
abbrev cX9_dots : ByteArray := prog_11_method_21_code
def yX9_dots : MethodName := ⟨RX9, "dots", "(I)I"⟩
abbrev cX9_draw : ByteArray := prog_11_method_22_code
def yX9_draw : MethodName := ⟨RX9, "draw", "(II)I"⟩
abbrev cX9_opens : ByteArray := prog_11_method_23_code
def yX9_opens : MethodName := ⟨RX9, "opens", "(IIII)V"⟩
abbrev cX9_opening : ByteArray := prog_11_method_24_code
def yX9_opening : MethodName := ⟨RX9, "opening", "(IIII)I"⟩
abbrev cX9_shuts : ByteArray := prog_11_method_25_code
def yX9_shuts : MethodName := ⟨RX9, "shuts", "()I"⟩
abbrev cX9_closes : ByteArray := prog_11_method_26_code
def yX9_closes : MethodName := ⟨RX9, "closes", "()I"⟩
abbrev cX9_copies : ByteArray := prog_11_method_27_code
def yX9_copies : MethodName := ⟨RX9, "copies", "([I)V"⟩
abbrev cX9_asideAt : ByteArray := prog_11_method_28_code
def yX9_asideAt : MethodName := ⟨RX9, "asideAt", "(III)I"⟩
abbrev cX9_moves : ByteArray := prog_11_method_29_code
def yX9_moves : MethodName := ⟨RX9, "moves", "(IIIIIIIII)I"⟩
abbrev cX9_move : ByteArray := prog_11_method_30_code
def yX9_move : MethodName := ⟨RX9, "move", "(IIIIIIIII)I"⟩
abbrev cX9_size : ByteArray := prog_11_method_31_code
def yX9_size : MethodName := ⟨RX9, "size", "(I)I"⟩
abbrev cX9_by : ByteArray := prog_11_method_32_code
def yX9_by : MethodName := ⟨RX9, "by", "(II)I"⟩
abbrev cX9_lines : ByteArray := prog_11_method_33_code
def yX9_lines : MethodName := ⟨RX9, "lines", "(IIIIII)I"⟩
abbrev cX9_line : ByteArray := prog_11_method_34_code
def yX9_line : MethodName := ⟨RX9, "line", "(IIIIII)I"⟩
abbrev cX9_comes : ByteArray := prog_11_method_35_code
def yX9_comes : MethodName := ⟨RX9, "comes", "(II)V"⟩
abbrev cX9_spreads : ByteArray := prog_11_method_36_code
def yX9_spreads : MethodName := ⟨RX9, "spreads", "(IIIZ)I"⟩
abbrev cX9_noneCame : ByteArray := prog_11_method_37_code
def yX9_noneCame : MethodName := ⟨RX9, "noneCame", "()V"⟩
abbrev cX9_mayFlood : ByteArray := prog_11_method_38_code
def yX9_mayFlood : MethodName := ⟨RX9, "mayFlood", "(II)Z"⟩
abbrev cX9_floods : ByteArray := prog_11_method_39_code
def yX9_floods : MethodName := ⟨RX9, "floods", "(III)I"⟩
abbrev cX9_flood : ByteArray := prog_11_method_40_code
def yX9_flood : MethodName := ⟨RX9, "flood", "(III)I"⟩
abbrev cX9_rectangles : ByteArray := prog_11_method_41_code
def yX9_rectangles : MethodName := ⟨RX9, "rectangles", "(IIIIII)I"⟩
abbrev cX9_rectangle : ByteArray := prog_11_method_42_code
def yX9_rectangle : MethodName := ⟨RX9, "rectangle", "(IIIIII)I"⟩
abbrev cX9_letters : ByteArray := prog_11_method_43_code
def yX9_letters : MethodName := ⟨RX9, "letters", "(IIIII)I"⟩
abbrev cX9_letter : ByteArray := prog_11_method_44_code
def yX9_letter : MethodName := ⟨RX9, "letter", "(IIIII)I"⟩
abbrev cX9_joins : ByteArray := prog_11_method_45_code
def yX9_joins : MethodName := ⟨RX9, "joins", "(III)I"⟩
abbrev cX9_sides : ByteArray := prog_11_method_46_code
def yX9_sides : MethodName := ⟨RX9, "sides", "(III)I"⟩
abbrev cX9_changed : ByteArray := prog_11_method_47_code
def yX9_changed : MethodName := ⟨RX9, "changed", "(IIII)I"⟩
abbrev cX9_changes : ByteArray := prog_11_method_48_code
def yX9_changes : MethodName := ⟨RX9, "changes", "(II)I"⟩
abbrev cX9_rolls : ByteArray := prog_11_method_49_code
def yX9_rolls : MethodName := ⟨RX9, "rolls", "(III)I"⟩
abbrev cX9_at : ByteArray := prog_11_method_50_code
def yX9_at : MethodName := ⟨RX9, "at", "(III)I"⟩
abbrev cX9_row : ByteArray := prog_11_method_51_code
def yX9_row : MethodName := ⟨RX9, "row", "(II)I"⟩
abbrev cX9_partsOf : ByteArray := prog_11_method_52_code
def yX9_partsOf : MethodName := ⟨RX9, "partsOf", "(I)I"⟩
abbrev cX9_edge : ByteArray := prog_11_method_53_code
def yX9_edge : MethodName := ⟨RX9, "edge", "(IZZ)I"⟩
abbrev cX9_openDots : ByteArray := prog_11_method_54_code
def yX9_openDots : MethodName := ⟨RX9, "openDots", "()I"⟩
abbrev cX9_of : ByteArray := prog_11_method_55_code
def yX9_of : MethodName := ⟨RX9, "of", "(II)I"⟩
abbrev cX9_count : ByteArray := prog_11_method_56_code
def yX9_count : MethodName := ⟨RX9, "count", "(IIIII)I"⟩
abbrev cX9_unlike : ByteArray := prog_11_method_57_code
def yX9_unlike : MethodName := ⟨RX9, "unlike", "(II)I"⟩
abbrev cX9_isLike : ByteArray := prog_11_method_58_code
def yX9_isLike : MethodName := ⟨RX9, "isLike", "(IIIIIIII)Z"⟩
abbrev cX9_finds : ByteArray := prog_11_method_59_code
def yX9_finds : MethodName := ⟨RX9, "finds", "(IIIIII)I"⟩
abbrev cX9_open : ByteArray := prog_11_method_60_code
def yX9_open : MethodName := ⟨RX9, "open", "(II)I"⟩
abbrev cX9_type : ByteArray := prog_11_method_61_code
def yX9_type : MethodName := ⟨RX9, "type", "(I)I"⟩
abbrev cX9_clear : ByteArray := prog_11_method_62_code
def yX9_clear : MethodName := ⟨RX9, "clear", "()I"⟩
abbrev cX9_skip : ByteArray := prog_11_method_63_code
def yX9_skip : MethodName := ⟨RX9, "skip", "()V"⟩
abbrev cX9_isByte : ByteArray := prog_11_method_64_code
def yX9_isByte : MethodName := ⟨RX9, "isByte", "(III)Z"⟩
abbrev cX9_sortsOf : ByteArray := prog_11_method_65_code
def yX9_sortsOf : MethodName := ⟨RX9, "sortsOf", "(I)I"⟩
abbrev cX9_manyOf : ByteArray := prog_11_method_66_code
def yX9_manyOf : MethodName := ⟨RX9, "manyOf", "(I)I"⟩
abbrev cX9_isAs : ByteArray := prog_11_method_67_code
def yX9_isAs : MethodName := ⟨RX9, "isAs", "(II)Z"⟩
abbrev cX9_takes : ByteArray := prog_11_method_68_code
def yX9_takes : MethodName := ⟨RX9, "takes", "(II)Z"⟩
abbrev cX9_reads : ByteArray := prog_11_method_69_code
def yX9_reads : MethodName := ⟨RX9, "reads", "(I)I"⟩
abbrev cX9_doesOne : ByteArray := prog_11_method_70_code
def yX9_doesOne : MethodName := ⟨RX9, "doesOne", "(I)I"⟩
abbrev cX9_goesThrough : ByteArray := prog_11_method_71_code
def yX9_goesThrough : MethodName := ⟨RX9, "goesThrough", "(Z)I"⟩
abbrev cX9_does : ByteArray := prog_11_method_72_code
def yX9_does : MethodName := ⟨RX9, "does", "()I"⟩
abbrev cX9_back : ByteArray := prog_11_method_73_code
def yX9_back : MethodName := ⟨RX9, "back", "()I"⟩
abbrev cX9_toldOf : ByteArray := prog_11_method_74_code
def yX9_toldOf : MethodName := ⟨RX9, "toldOf", "(I)I"⟩
abbrev cX9_told : ByteArray := prog_11_method_75_code
def yX9_told : MethodName := ⟨RX9, "told", "(I)I"⟩
abbrev cX9_digest : ByteArray := prog_11_method_76_code
def yX9_digest : MethodName := ⟨RX9, "digest", "()J"⟩
def RJx145de : String := "java/io/Serializable"
def TJx145de : u_T := fun k => match k with
  | _ => ("", "", "", false)
def tyJx145de : Nat → FieldType := fun k => match k with
  | _ => .int
abbrev wsJx145de0 : List Cond := u_ws RJx145de TJx145de 0
theorem nmJx145de : ∀ a, a < 0 → ∀ b, b < 0 → a ≠ b → (TJx145de a).2.1 ≠ (TJx145de b).2.1 := by decide +kernel
theorem tyJx145de_ok : ∀ k, k < 0 → parseFieldDescriptor (TJx145de k).2.2.1 = some (tyJx145de k) := by decide +kernel
def RJx9f9b0 : String := "java/lang/CharSequence"
def TJx9f9b0 : u_T := fun k => match k with
  | _ => ("", "", "", false)
def tyJx9f9b0 : Nat → FieldType := fun k => match k with
  | _ => .int
abbrev wsJx9f9b00 : List Cond := u_ws RJx9f9b0 TJx9f9b0 0
theorem nmJx9f9b0 : ∀ a, a < 0 → ∀ b, b < 0 → a ≠ b → (TJx9f9b0 a).2.1 ≠ (TJx9f9b0 b).2.1 := by decide +kernel
theorem tyJx9f9b0_ok : ∀ k, k < 0 → parseFieldDescriptor (TJx9f9b0 k).2.2.1 = some (tyJx9f9b0 k) := by decide +kernel
def RJxb160c : String := "java/lang/Comparable"
def TJxb160c : u_T := fun k => match k with
  | _ => ("", "", "", false)
def tyJxb160c : Nat → FieldType := fun k => match k with
  | _ => .int
abbrev wsJxb160c0 : List Cond := u_ws RJxb160c TJxb160c 0
theorem nmJxb160c : ∀ a, a < 0 → ∀ b, b < 0 → a ≠ b → (TJxb160c a).2.1 ≠ (TJxb160c b).2.1 := by decide +kernel
theorem tyJxb160c_ok : ∀ k, k < 0 → parseFieldDescriptor (TJxb160c k).2.2.1 = some (tyJxb160c k) := by decide +kernel
def RJ6 : String := "java/lang/Integer"
def TJ6 : u_T := fun k => match k with
  | _ => ("", "", "", false)
def tyJ6 : Nat → FieldType := fun k => match k with
  | _ => .int
abbrev wsJ60 : List Cond := u_ws RJ6 TJ6 0
theorem nmJ6 : ∀ a, a < 0 → ∀ b, b < 0 → a ≠ b → (TJ6 a).2.1 ≠ (TJ6 b).2.1 := by decide +kernel
theorem tyJ6_ok : ∀ k, k < 0 → parseFieldDescriptor (TJ6 k).2.2.1 = some (tyJ6 k) := by decide +kernel
abbrev cJ6_bitCount_0f7a4 : ByteArray := prog_12_method_49_code
def yJ6_bitCount_0f7a4 : MethodName := ⟨RJ6, "bitCount", "(I)I"⟩
def RJ9 : String := "java/lang/Math"
def TJ9 : u_T := fun k => match k with
  | _ => ("", "", "", false)
def tyJ9 : Nat → FieldType := fun k => match k with
  | _ => .int
abbrev wsJ90 : List Cond := u_ws RJ9 TJ9 0
theorem nmJ9 : ∀ a, a < 0 → ∀ b, b < 0 → a ≠ b → (TJ9 a).2.1 ≠ (TJ9 b).2.1 := by decide +kernel
theorem tyJ9_ok : ∀ k, k < 0 → parseFieldDescriptor (TJ9 k).2.2.1 = some (tyJ9 k) := by decide +kernel
abbrev cJ9_floorDiv_7cf53 : ByteArray := prog_13_method_47_code
def yJ9_floorDiv_7cf53 : MethodName := ⟨RJ9, "floorDiv", "(II)I"⟩
abbrev cJ9_floorMod_7cf53 : ByteArray := prog_13_method_50_code
def yJ9_floorMod_7cf53 : MethodName := ⟨RJ9, "floorMod", "(II)I"⟩
abbrev cJ9_abs_0f7a4 : ByteArray := prog_13_method_59_code
def yJ9_abs_0f7a4 : MethodName := ⟨RJ9, "abs", "(I)I"⟩
abbrev cJ9_max_7cf53 : ByteArray := prog_13_method_65_code
def yJ9_max_7cf53 : MethodName := ⟨RJ9, "max", "(II)I"⟩
abbrev cJ9_min_7cf53 : ByteArray := prog_13_method_69_code
def yJ9_min_7cf53 : MethodName := ⟨RJ9, "min", "(II)I"⟩
def RJ0 : String := "java/lang/String"
def TJ0 : u_T := fun k => match k with
  | _ => ("", "", "", false)
def tyJ0 : Nat → FieldType := fun k => match k with
  | _ => .int
abbrev wsJ00 : List Cond := u_ws RJ0 TJ0 0
theorem nmJ0 : ∀ a, a < 0 → ∀ b, b < 0 → a ≠ b → (TJ0 a).2.1 ≠ (TJ0 b).2.1 := by decide +kernel
theorem tyJ0_ok : ∀ k, k < 0 → parseFieldDescriptor (TJ0 k).2.2.1 = some (tyJ0 k) := by decide +kernel
abbrev cJ0_length_8abf5 : ByteArray := prog_14_method_54_code
def yJ0_length_8abf5 : MethodName := ⟨RJ0, "length", "()I"⟩
abbrev cJ0_isEmpty_aae02 : ByteArray := prog_14_method_55_code
def yJ0_isEmpty_aae02 : MethodName := ⟨RJ0, "isEmpty", "()Z"⟩
abbrev cJ0_charAt_5068e : ByteArray := prog_14_method_56_code
def yJ0_charAt_5068e : MethodName := ⟨RJ0, "charAt", "(I)C"⟩
abbrev cJ0_coder_7d493 : ByteArray := prog_14_method_152_code
def yJ0_coder_7d493 : MethodName := ⟨RJ0, "coder", "()B"⟩
abbrev cJ0_isLatin1_aae02 : ByteArray := prog_14_method_154_code
def yJ0_isLatin1_aae02 : MethodName := ⟨RJ0, "isLatin1", "()Z"⟩
abbrev cJ0_checkIndex_df160 : ByteArray := prog_14_method_155_code
def yJ0_checkIndex_df160 : MethodName := ⟨RJ0, "checkIndex", "(II)V"⟩
def RJ1 : String := "java/lang/StringLatin1"
def TJ1 : u_T := fun k => match k with
  | _ => ("", "", "", false)
def tyJ1 : Nat → FieldType := fun k => match k with
  | _ => .int
abbrev wsJ10 : List Cond := u_ws RJ1 TJ1 0
theorem nmJ1 : ∀ a, a < 0 → ∀ b, b < 0 → a ≠ b → (TJ1 a).2.1 ≠ (TJ1 b).2.1 := by decide +kernel
theorem tyJ1_ok : ∀ k, k < 0 → parseFieldDescriptor (TJ1 k).2.2.1 = some (tyJ1 k) := by decide +kernel
abbrev cJ1_charAt_3b067 : ByteArray := prog_15_method_2_code
def yJ1_charAt_3b067 : MethodName := ⟨RJ1, "charAt", "([BI)C"⟩
def RJ2 : String := "java/lang/StringUTF16"
def TJ2 : u_T := fun k => match k with
  | _ => ("", "", "", false)
def tyJ2 : Nat → FieldType := fun k => match k with
  | _ => .int
abbrev wsJ20 : List Cond := u_ws RJ2 TJ2 0
theorem nmJ2 : ∀ a, a < 0 → ∀ b, b < 0 → a ≠ b → (TJ2 a).2.1 ≠ (TJ2 b).2.1 := by decide +kernel
theorem tyJ2_ok : ∀ k, k < 0 → parseFieldDescriptor (TJ2 k).2.2.1 = some (tyJ2 k) := by decide +kernel
abbrev cJ2_getChar_3b067 : ByteArray := prog_16_method_5_code
def yJ2_getChar_3b067 : MethodName := ⟨RJ2, "getChar", "([BI)C"⟩
abbrev cJ2_length_9d52b : ByteArray := prog_16_method_6_code
def yJ2_length_9d52b : MethodName := ⟨RJ2, "length", "([B)I"⟩
abbrev cJ2_charAt_3b067 : ByteArray := prog_16_method_83_code
def yJ2_charAt_3b067 : MethodName := ⟨RJ2, "charAt", "([BI)C"⟩
abbrev cJ2_checkIndex_2214a : ByteArray := prog_16_method_91_code
def yJ2_checkIndex_2214a : MethodName := ⟨RJ2, "checkIndex", "(I[B)V"⟩
def RJ10 : String := "java/lang/System"
def TJ10 : u_T := fun k => match k with
  | _ => ("", "", "", false)
def tyJ10 : Nat → FieldType := fun k => match k with
  | _ => .int
abbrev wsJ100 : List Cond := u_ws RJ10 TJ10 0
theorem nmJ10 : ∀ a, a < 0 → ∀ b, b < 0 → a ≠ b → (TJ10 a).2.1 ≠ (TJ10 b).2.1 := by decide +kernel
theorem tyJ10_ok : ∀ k, k < 0 → parseFieldDescriptor (TJ10 k).2.2.1 = some (tyJ10 k) := by decide +kernel
def RJxfd54e : String := "java/lang/constant/Constable"
def TJxfd54e : u_T := fun k => match k with
  | _ => ("", "", "", false)
def tyJxfd54e : Nat → FieldType := fun k => match k with
  | _ => .int
abbrev wsJxfd54e0 : List Cond := u_ws RJxfd54e TJxfd54e 0
theorem nmJxfd54e : ∀ a, a < 0 → ∀ b, b < 0 → a ≠ b → (TJxfd54e a).2.1 ≠ (TJxfd54e b).2.1 := by decide +kernel
theorem tyJxfd54e_ok : ∀ k, k < 0 → parseFieldDescriptor (TJxfd54e k).2.2.1 = some (tyJxfd54e k) := by decide +kernel
def RJx3cf43 : String := "java/lang/constant/ConstantDesc"
def TJx3cf43 : u_T := fun k => match k with
  | _ => ("", "", "", false)
def tyJx3cf43 : Nat → FieldType := fun k => match k with
  | _ => .int
abbrev wsJx3cf430 : List Cond := u_ws RJx3cf43 TJx3cf43 0
theorem nmJx3cf43 : ∀ a, a < 0 → ∀ b, b < 0 → a ≠ b → (TJx3cf43 a).2.1 ≠ (TJx3cf43 b).2.1 := by decide +kernel
theorem tyJx3cf43_ok : ∀ k, k < 0 → parseFieldDescriptor (TJx3cf43 k).2.2.1 = some (tyJx3cf43 k) := by decide +kernel
def RJ7 : String := "java/util/Arrays"
def TJ7 : u_T := fun k => match k with
  | _ => ("", "", "", false)
def tyJ7 : Nat → FieldType := fun k => match k with
  | _ => .int
abbrev wsJ70 : List Cond := u_ws RJ7 TJ7 0
theorem nmJ7 : ∀ a, a < 0 → ∀ b, b < 0 → a ≠ b → (TJ7 a).2.1 ≠ (TJ7 b).2.1 := by decide +kernel
theorem tyJ7_ok : ∀ k, k < 0 → parseFieldDescriptor (TJ7 k).2.2.1 = some (tyJ7 k) := by decide +kernel
abbrev cJ7_fill_53178 : ByteArray := prog_18_method_103_code
def yJ7_fill_53178 : MethodName := ⟨RJ7, "fill", "([II)V"⟩
def RJ3 : String := "jdk/internal/util/Preconditions"
def TJ3 : u_T := fun k => match k with
  | _ => ("", "", "", false)
def tyJ3 : Nat → FieldType := fun k => match k with
  | _ => .int
abbrev wsJ30 : List Cond := u_ws RJ3 TJ3 0
theorem nmJ3 : ∀ a, a < 0 → ∀ b, b < 0 → a ≠ b → (TJ3 a).2.1 ≠ (TJ3 b).2.1 := by decide +kernel
theorem tyJ3_ok : ∀ k, k < 0 → parseFieldDescriptor (TJ3 k).2.2.1 = some (tyJ3 k) := by decide +kernel
abbrev cJ3_checkIndex_8e157 : ByteArray := prog_19_method_11_code
def yJ3_checkIndex_8e157 : MethodName := ⟨RJ3, "checkIndex", "(IILjava/util/function/BiFunction;)I"⟩
def RL : String := "PictureMovesLaw"
abbrev cL_law : ByteArray := code
def yL_law : MethodName := ⟨RL, "law", "([I)Z"⟩
abbrev vwCl : List vw_C := [(RX0, TX0, 3), (RX1, TX1, 5), (RX2, TX2, 4), (RX3, TX3, 4), (RX4, TX4, 4), (RX5, TX5, 3), (RX6, TX6, 4), (RX7, TX7, 2), (RX8, TX8, 10), (RX9, TX9, 12)]
