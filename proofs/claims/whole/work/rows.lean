section
-- ===== PART A: goes FIRST, ahead of the names: the tables' words, and 'selects' of the private methods out of them =====
/-- a private method of a class that the tables say can be made, by its rows of tables_1 -/
def lw_okq (q : MethodName × Nat) : Prop := (q.1.cls ≠ "java/lang/invoke/MethodHandle" ∧ q.1.cls ≠ "java/lang/invoke/VarHandle") ∧ Cond.instantiable q.1.cls q.2 ∈ tables_1 ∧ Cond.privateMethod q.1 ∈ tables_1 ∧ Cond.instanceMethod q.1 ∈ tables_1
theorem lw_p0 : lw_okq (⟨"PictureMoves", "refusedBad", "()I"⟩, 10) := ⟨⟨by decide +kernel, by decide +kernel⟩, List.mem_of_getElem? (i := 20) (by decide +kernel), List.mem_of_getElem? (i := 235) (by decide +kernel), List.mem_of_getElem? (i := 236) (by decide +kernel)⟩
theorem lw_p1 : lw_okq (⟨"PictureMoves", "refusedFull", "()I"⟩, 10) := ⟨⟨by decide +kernel, by decide +kernel⟩, List.mem_of_getElem? (i := 20) (by decide +kernel), List.mem_of_getElem? (i := 405) (by decide +kernel), List.mem_of_getElem? (i := 406) (by decide +kernel)⟩
theorem lw_p2 : lw_okq (⟨"PictureMoves$Painter", "movesBlock", "(LPictureMoves$Order;)I"⟩, 4) := ⟨⟨by decide +kernel, by decide +kernel⟩, List.mem_of_getElem? (i := 95) (by decide +kernel), List.mem_of_getElem? (i := 413) (by decide +kernel), List.mem_of_getElem? (i := 414) (by decide +kernel)⟩
theorem lw_p3 : lw_okq (⟨"PictureMoves$Painter", "keepsSource", "(I)V"⟩, 4) := ⟨⟨by decide +kernel, by decide +kernel⟩, List.mem_of_getElem? (i := 95) (by decide +kernel), List.mem_of_getElem? (i := 421) (by decide +kernel), List.mem_of_getElem? (i := 422) (by decide +kernel)⟩
theorem lw_p4 : lw_okq (⟨"PictureMoves$Painter", "sourceAt", "(I)I"⟩, 4) := ⟨⟨by decide +kernel, by decide +kernel⟩, List.mem_of_getElem? (i := 95) (by decide +kernel), List.mem_of_getElem? (i := 427) (by decide +kernel), List.mem_of_getElem? (i := 428) (by decide +kernel)⟩
theorem lw_p5 : lw_okq (⟨"PictureMoves$Painter", "drawsLine", "(LPictureMoves$Order;)I"⟩, 4) := ⟨⟨by decide +kernel, by decide +kernel⟩, List.mem_of_getElem? (i := 95) (by decide +kernel), List.mem_of_getElem? (i := 455) (by decide +kernel), List.mem_of_getElem? (i := 456) (by decide +kernel)⟩
theorem lw_p6 : lw_okq (⟨"PictureMoves$Painter", "floods", "(III)I"⟩, 4) := ⟨⟨by decide +kernel, by decide +kernel⟩, List.mem_of_getElem? (i := 95) (by decide +kernel), List.mem_of_getElem? (i := 469) (by decide +kernel), List.mem_of_getElem? (i := 470) (by decide +kernel)⟩
theorem lw_p7 : lw_okq (⟨"PictureMoves$Parts", "reaches", "(II)V"⟩, 4) := ⟨⟨by decide +kernel, by decide +kernel⟩, List.mem_of_getElem? (i := 54) (by decide +kernel), List.mem_of_getElem? (i := 484) (by decide +kernel), List.mem_of_getElem? (i := 485) (by decide +kernel)⟩
theorem lw_p8 : lw_okq (⟨"PictureMoves$Painter", "fillsRectangle", "(LPictureMoves$Order;)I"⟩, 4) := ⟨⟨by decide +kernel, by decide +kernel⟩, List.mem_of_getElem? (i := 95) (by decide +kernel), List.mem_of_getElem? (i := 493) (by decide +kernel), List.mem_of_getElem? (i := 494) (by decide +kernel)⟩
theorem lw_p9 : lw_okq (⟨"PictureMoves$Painter", "writesLetter", "(LPictureMoves$Order;)I"⟩, 4) := ⟨⟨by decide +kernel, by decide +kernel⟩, List.mem_of_getElem? (i := 95) (by decide +kernel), List.mem_of_getElem? (i := 497) (by decide +kernel), List.mem_of_getElem? (i := 498) (by decide +kernel)⟩
theorem lw_p10 : lw_okq (⟨"PictureMoves", "refusedNo", "()I"⟩, 10) := ⟨⟨by decide +kernel, by decide +kernel⟩, List.mem_of_getElem? (i := 20) (by decide +kernel), List.mem_of_getElem? (i := 525) (by decide +kernel), List.mem_of_getElem? (i := 526) (by decide +kernel)⟩
theorem lw_p11 : lw_okq (⟨"PictureMoves$Whole", "changedRow", "(III)I"⟩, 2) := ⟨⟨by decide +kernel, by decide +kernel⟩, List.mem_of_getElem? (i := 114) (by decide +kernel), List.mem_of_getElem? (i := 555) (by decide +kernel), List.mem_of_getElem? (i := 556) (by decide +kernel)⟩
theorem lw_p12 : lw_okq (⟨"PictureMoves$Whole", "grownRow", "(II)I"⟩, 2) := ⟨⟨by decide +kernel, by decide +kernel⟩, List.mem_of_getElem? (i := 114) (by decide +kernel), List.mem_of_getElem? (i := 562) (by decide +kernel), List.mem_of_getElem? (i := 563) (by decide +kernel)⟩
theorem lw_p13 : lw_okq (⟨"PictureMoves$Whole", "thinnedRow", "(II)I"⟩, 2) := ⟨⟨by decide +kernel, by decide +kernel⟩, List.mem_of_getElem? (i := 114) (by decide +kernel), List.mem_of_getElem? (i := 566) (by decide +kernel), List.mem_of_getElem? (i := 567) (by decide +kernel)⟩
theorem lw_p14 : lw_okq (⟨"PictureMoves$Whole", "becomesWhatComes", "(I)I"⟩, 2) := ⟨⟨by decide +kernel, by decide +kernel⟩, List.mem_of_getElem? (i := 114) (by decide +kernel), List.mem_of_getElem? (i := 570) (by decide +kernel), List.mem_of_getElem? (i := 571) (by decide +kernel)⟩
theorem lw_p15 : lw_okq (⟨"PictureMoves$Measure", "partsOf", "(I)I"⟩, 3) := ⟨⟨by decide +kernel, by decide +kernel⟩, List.mem_of_getElem? (i := 127) (by decide +kernel), List.mem_of_getElem? (i := 604) (by decide +kernel), List.mem_of_getElem? (i := 605) (by decide +kernel)⟩
def lw_privs_1 : List (MethodName × Nat) := [(⟨"PictureMoves", "refusedBad", "()I"⟩, 10), (⟨"PictureMoves", "refusedFull", "()I"⟩, 10), (⟨"PictureMoves$Painter", "movesBlock", "(LPictureMoves$Order;)I"⟩, 4), (⟨"PictureMoves$Painter", "keepsSource", "(I)V"⟩, 4), (⟨"PictureMoves$Painter", "sourceAt", "(I)I"⟩, 4), (⟨"PictureMoves$Painter", "drawsLine", "(LPictureMoves$Order;)I"⟩, 4), (⟨"PictureMoves$Painter", "floods", "(III)I"⟩, 4), (⟨"PictureMoves$Parts", "reaches", "(II)V"⟩, 4), (⟨"PictureMoves$Painter", "fillsRectangle", "(LPictureMoves$Order;)I"⟩, 4), (⟨"PictureMoves$Painter", "writesLetter", "(LPictureMoves$Order;)I"⟩, 4), (⟨"PictureMoves", "refusedNo", "()I"⟩, 10), (⟨"PictureMoves$Whole", "changedRow", "(III)I"⟩, 2), (⟨"PictureMoves$Whole", "grownRow", "(II)I"⟩, 2), (⟨"PictureMoves$Whole", "thinnedRow", "(II)I"⟩, 2), (⟨"PictureMoves$Whole", "becomesWhatComes", "(I)I"⟩, 2), (⟨"PictureMoves$Measure", "partsOf", "(I)I"⟩, 3)]
theorem lw_r1 : ∀ q ∈ lw_privs_1, lw_okq q := List.forall_mem_cons.mpr ⟨lw_p0, List.forall_mem_cons.mpr ⟨lw_p1, List.forall_mem_cons.mpr ⟨lw_p2, List.forall_mem_cons.mpr ⟨lw_p3, List.forall_mem_cons.mpr ⟨lw_p4, List.forall_mem_cons.mpr ⟨lw_p5, List.forall_mem_cons.mpr ⟨lw_p6, List.forall_mem_cons.mpr ⟨lw_p7, List.forall_mem_cons.mpr ⟨lw_p8, List.forall_mem_cons.mpr ⟨lw_p9, List.forall_mem_cons.mpr ⟨lw_p10, List.forall_mem_cons.mpr ⟨lw_p11, List.forall_mem_cons.mpr ⟨lw_p12, List.forall_mem_cons.mpr ⟨lw_p13, List.forall_mem_cons.mpr ⟨lw_p14, List.forall_mem_cons.mpr ⟨lw_p15, fun _ h => absurd h List.not_mem_nil⟩⟩⟩⟩⟩⟩⟩⟩⟩⟩⟩⟩⟩⟩⟩⟩
theorem lw_p16 : lw_okq (⟨"PictureMoves$Measure", "leastX", "(I)I"⟩, 3) := ⟨⟨by decide +kernel, by decide +kernel⟩, List.mem_of_getElem? (i := 127) (by decide +kernel), List.mem_of_getElem? (i := 613) (by decide +kernel), List.mem_of_getElem? (i := 614) (by decide +kernel)⟩
theorem lw_p17 : lw_okq (⟨"PictureMoves$Measure", "columnsOf", "(I)I"⟩, 3) := ⟨⟨by decide +kernel, by decide +kernel⟩, List.mem_of_getElem? (i := 127) (by decide +kernel), List.mem_of_getElem? (i := 617) (by decide +kernel), List.mem_of_getElem? (i := 618) (by decide +kernel)⟩
theorem lw_p18 : lw_okq (⟨"PictureMoves$Measure", "greatestX", "(I)I"⟩, 3) := ⟨⟨by decide +kernel, by decide +kernel⟩, List.mem_of_getElem? (i := 127) (by decide +kernel), List.mem_of_getElem? (i := 622) (by decide +kernel), List.mem_of_getElem? (i := 623) (by decide +kernel)⟩
theorem lw_p19 : lw_okq (⟨"PictureMoves$Measure", "leastY", "(I)I"⟩, 3) := ⟨⟨by decide +kernel, by decide +kernel⟩, List.mem_of_getElem? (i := 127) (by decide +kernel), List.mem_of_getElem? (i := 626) (by decide +kernel), List.mem_of_getElem? (i := 627) (by decide +kernel)⟩
theorem lw_p20 : lw_okq (⟨"PictureMoves$Measure", "greatestY", "(I)I"⟩, 3) := ⟨⟨by decide +kernel, by decide +kernel⟩, List.mem_of_getElem? (i := 127) (by decide +kernel), List.mem_of_getElem? (i := 630) (by decide +kernel), List.mem_of_getElem? (i := 631) (by decide +kernel)⟩
theorem lw_p21 : lw_okq (⟨"PictureMoves$Measure", "openDots", "()I"⟩, 3) := ⟨⟨by decide +kernel, by decide +kernel⟩, List.mem_of_getElem? (i := 127) (by decide +kernel), List.mem_of_getElem? (i := 634) (by decide +kernel), List.mem_of_getElem? (i := 635) (by decide +kernel)⟩
theorem lw_p22 : lw_okq (⟨"PictureMoves$OrderText", "skipsBlanks", "()V"⟩, 4) := ⟨⟨by decide +kernel, by decide +kernel⟩, List.mem_of_getElem? (i := 171) (by decide +kernel), List.mem_of_getElem? (i := 702) (by decide +kernel), List.mem_of_getElem? (i := 703) (by decide +kernel)⟩
theorem lw_p23 : lw_okq (⟨"PictureMoves$OrderText", "byteHere", "()I"⟩, 4) := ⟨⟨by decide +kernel, by decide +kernel⟩, List.mem_of_getElem? (i := 171) (by decide +kernel), List.mem_of_getElem? (i := 706) (by decide +kernel), List.mem_of_getElem? (i := 707) (by decide +kernel)⟩
theorem lw_p24 : lw_okq (⟨"PictureMoves$OrderText", "readsNumber", "()Z"⟩, 4) := ⟨⟨by decide +kernel, by decide +kernel⟩, List.mem_of_getElem? (i := 171) (by decide +kernel), List.mem_of_getElem? (i := 724) (by decide +kernel), List.mem_of_getElem? (i := 725) (by decide +kernel)⟩
theorem lw_p25 : lw_okq (⟨"PictureMoves", "tally", "(I)I"⟩, 10) := ⟨⟨by decide +kernel, by decide +kernel⟩, List.mem_of_getElem? (i := 20) (by decide +kernel), List.mem_of_getElem? (i := 747) (by decide +kernel), List.mem_of_getElem? (i := 748) (by decide +kernel)⟩
theorem lw_p26 : lw_okq (⟨"PictureMovesModel", "bad", "(I)I"⟩, 12) := ⟨⟨by decide +kernel, by decide +kernel⟩, List.mem_of_getElem? (i := 762) (by decide +kernel), List.mem_of_getElem? (i := 822) (by decide +kernel), List.mem_of_getElem? (i := 823) (by decide +kernel)⟩
theorem lw_p27 : lw_okq (⟨"PictureMovesModel", "keep", "()V"⟩, 12) := ⟨⟨by decide +kernel, by decide +kernel⟩, List.mem_of_getElem? (i := 762) (by decide +kernel), List.mem_of_getElem? (i := 826) (by decide +kernel), List.mem_of_getElem? (i := 827) (by decide +kernel)⟩
theorem lw_p28 : lw_okq (⟨"PictureMovesModel", "sets", "(IIII)I"⟩, 12) := ⟨⟨by decide +kernel, by decide +kernel⟩, List.mem_of_getElem? (i := 762) (by decide +kernel), List.mem_of_getElem? (i := 830) (by decide +kernel), List.mem_of_getElem? (i := 831) (by decide +kernel)⟩
theorem lw_p29 : lw_okq (⟨"PictureMovesModel", "dotOf", "(III)I"⟩, 12) := ⟨⟨by decide +kernel, by decide +kernel⟩, List.mem_of_getElem? (i := 762) (by decide +kernel), List.mem_of_getElem? (i := 834) (by decide +kernel), List.mem_of_getElem? (i := 835) (by decide +kernel)⟩
theorem lw_p30 : lw_okq (⟨"PictureMovesModel", "dots", "(I)I"⟩, 12) := ⟨⟨by decide +kernel, by decide +kernel⟩, List.mem_of_getElem? (i := 762) (by decide +kernel), List.mem_of_getElem? (i := 857) (by decide +kernel), List.mem_of_getElem? (i := 858) (by decide +kernel)⟩
theorem lw_p31 : lw_okq (⟨"PictureMovesModel", "full", "()I"⟩, 12) := ⟨⟨by decide +kernel, by decide +kernel⟩, List.mem_of_getElem? (i := 762) (by decide +kernel), List.mem_of_getElem? (i := 874) (by decide +kernel), List.mem_of_getElem? (i := 875) (by decide +kernel)⟩
def lw_privs_2 : List (MethodName × Nat) := [(⟨"PictureMoves$Measure", "leastX", "(I)I"⟩, 3), (⟨"PictureMoves$Measure", "columnsOf", "(I)I"⟩, 3), (⟨"PictureMoves$Measure", "greatestX", "(I)I"⟩, 3), (⟨"PictureMoves$Measure", "leastY", "(I)I"⟩, 3), (⟨"PictureMoves$Measure", "greatestY", "(I)I"⟩, 3), (⟨"PictureMoves$Measure", "openDots", "()I"⟩, 3), (⟨"PictureMoves$OrderText", "skipsBlanks", "()V"⟩, 4), (⟨"PictureMoves$OrderText", "byteHere", "()I"⟩, 4), (⟨"PictureMoves$OrderText", "readsNumber", "()Z"⟩, 4), (⟨"PictureMoves", "tally", "(I)I"⟩, 10), (⟨"PictureMovesModel", "bad", "(I)I"⟩, 12), (⟨"PictureMovesModel", "keep", "()V"⟩, 12), (⟨"PictureMovesModel", "sets", "(IIII)I"⟩, 12), (⟨"PictureMovesModel", "dotOf", "(III)I"⟩, 12), (⟨"PictureMovesModel", "dots", "(I)I"⟩, 12), (⟨"PictureMovesModel", "full", "()I"⟩, 12)]
theorem lw_r2 : ∀ q ∈ lw_privs_2, lw_okq q := List.forall_mem_cons.mpr ⟨lw_p16, List.forall_mem_cons.mpr ⟨lw_p17, List.forall_mem_cons.mpr ⟨lw_p18, List.forall_mem_cons.mpr ⟨lw_p19, List.forall_mem_cons.mpr ⟨lw_p20, List.forall_mem_cons.mpr ⟨lw_p21, List.forall_mem_cons.mpr ⟨lw_p22, List.forall_mem_cons.mpr ⟨lw_p23, List.forall_mem_cons.mpr ⟨lw_p24, List.forall_mem_cons.mpr ⟨lw_p25, List.forall_mem_cons.mpr ⟨lw_p26, List.forall_mem_cons.mpr ⟨lw_p27, List.forall_mem_cons.mpr ⟨lw_p28, List.forall_mem_cons.mpr ⟨lw_p29, List.forall_mem_cons.mpr ⟨lw_p30, List.forall_mem_cons.mpr ⟨lw_p31, fun _ h => absurd h List.not_mem_nil⟩⟩⟩⟩⟩⟩⟩⟩⟩⟩⟩⟩⟩⟩⟩⟩
theorem lw_p32 : lw_okq (⟨"PictureMovesModel", "opens", "(IIII)V"⟩, 12) := ⟨⟨by decide +kernel, by decide +kernel⟩, List.mem_of_getElem? (i := 762) (by decide +kernel), List.mem_of_getElem? (i := 878) (by decide +kernel), List.mem_of_getElem? (i := 879) (by decide +kernel)⟩
theorem lw_p33 : lw_okq (⟨"PictureMovesModel", "shuts", "()I"⟩, 12) := ⟨⟨by decide +kernel, by decide +kernel⟩, List.mem_of_getElem? (i := 762) (by decide +kernel), List.mem_of_getElem? (i := 886) (by decide +kernel), List.mem_of_getElem? (i := 887) (by decide +kernel)⟩
theorem lw_p34 : lw_okq (⟨"PictureMovesModel", "moves", "(IIIIIIIII)I"⟩, 12) := ⟨⟨by decide +kernel, by decide +kernel⟩, List.mem_of_getElem? (i := 762) (by decide +kernel), List.mem_of_getElem? (i := 897) (by decide +kernel), List.mem_of_getElem? (i := 898) (by decide +kernel)⟩
theorem lw_p35 : lw_okq (⟨"PictureMovesModel", "copies", "([I)V"⟩, 12) := ⟨⟨by decide +kernel, by decide +kernel⟩, List.mem_of_getElem? (i := 762) (by decide +kernel), List.mem_of_getElem? (i := 901) (by decide +kernel), List.mem_of_getElem? (i := 902) (by decide +kernel)⟩
theorem lw_p36 : lw_okq (⟨"PictureMovesModel", "asideAt", "(III)I"⟩, 12) := ⟨⟨by decide +kernel, by decide +kernel⟩, List.mem_of_getElem? (i := 762) (by decide +kernel), List.mem_of_getElem? (i := 905) (by decide +kernel), List.mem_of_getElem? (i := 906) (by decide +kernel)⟩
theorem lw_p37 : lw_okq (⟨"PictureMovesModel", "joinsAt", "(IIIII)I"⟩, 12) := ⟨⟨by decide +kernel, by decide +kernel⟩, List.mem_of_getElem? (i := 762) (by decide +kernel), List.mem_of_getElem? (i := 909) (by decide +kernel), List.mem_of_getElem? (i := 910) (by decide +kernel)⟩
theorem lw_p38 : lw_okq (⟨"PictureMovesModel", "isOpen", "(II)Z"⟩, 12) := ⟨⟨by decide +kernel, by decide +kernel⟩, List.mem_of_getElem? (i := 762) (by decide +kernel), List.mem_of_getElem? (i := 913) (by decide +kernel), List.mem_of_getElem? (i := 914) (by decide +kernel)⟩
theorem lw_p39 : lw_okq (⟨"PictureMovesModel", "patternAt", "(II)I"⟩, 12) := ⟨⟨by decide +kernel, by decide +kernel⟩, List.mem_of_getElem? (i := 762) (by decide +kernel), List.mem_of_getElem? (i := 917) (by decide +kernel), List.mem_of_getElem? (i := 918) (by decide +kernel)⟩
theorem lw_p40 : lw_okq (⟨"PictureMovesModel", "lines", "(IIIIII)I"⟩, 12) := ⟨⟨by decide +kernel, by decide +kernel⟩, List.mem_of_getElem? (i := 762) (by decide +kernel), List.mem_of_getElem? (i := 925) (by decide +kernel), List.mem_of_getElem? (i := 926) (by decide +kernel)⟩
theorem lw_p41 : lw_okq (⟨"PictureMovesModel", "mayFlood", "(II)Z"⟩, 12) := ⟨⟨by decide +kernel, by decide +kernel⟩, List.mem_of_getElem? (i := 762) (by decide +kernel), List.mem_of_getElem? (i := 939) (by decide +kernel), List.mem_of_getElem? (i := 940) (by decide +kernel)⟩
theorem lw_p42 : lw_okq (⟨"PictureMovesModel", "no", "()I"⟩, 12) := ⟨⟨by decide +kernel, by decide +kernel⟩, List.mem_of_getElem? (i := 762) (by decide +kernel), List.mem_of_getElem? (i := 943) (by decide +kernel), List.mem_of_getElem? (i := 944) (by decide +kernel)⟩
theorem lw_p43 : lw_okq (⟨"PictureMovesModel", "floods", "(III)I"⟩, 12) := ⟨⟨by decide +kernel, by decide +kernel⟩, List.mem_of_getElem? (i := 762) (by decide +kernel), List.mem_of_getElem? (i := 947) (by decide +kernel), List.mem_of_getElem? (i := 948) (by decide +kernel)⟩
theorem lw_p44 : lw_okq (⟨"PictureMovesModel", "noneCame", "()V"⟩, 12) := ⟨⟨by decide +kernel, by decide +kernel⟩, List.mem_of_getElem? (i := 762) (by decide +kernel), List.mem_of_getElem? (i := 951) (by decide +kernel), List.mem_of_getElem? (i := 952) (by decide +kernel)⟩
theorem lw_p45 : lw_okq (⟨"PictureMovesModel", "spreads", "(IIIZ)I"⟩, 12) := ⟨⟨by decide +kernel, by decide +kernel⟩, List.mem_of_getElem? (i := 762) (by decide +kernel), List.mem_of_getElem? (i := 955) (by decide +kernel), List.mem_of_getElem? (i := 956) (by decide +kernel)⟩
theorem lw_p46 : lw_okq (⟨"PictureMovesModel", "comes", "(II)V"⟩, 12) := ⟨⟨by decide +kernel, by decide +kernel⟩, List.mem_of_getElem? (i := 762) (by decide +kernel), List.mem_of_getElem? (i := 959) (by decide +kernel), List.mem_of_getElem? (i := 960) (by decide +kernel)⟩
theorem lw_p47 : lw_okq (⟨"PictureMovesModel", "rectangles", "(IIIIII)I"⟩, 12) := ⟨⟨by decide +kernel, by decide +kernel⟩, List.mem_of_getElem? (i := 762) (by decide +kernel), List.mem_of_getElem? (i := 967) (by decide +kernel), List.mem_of_getElem? (i := 968) (by decide +kernel)⟩
def lw_privs_3 : List (MethodName × Nat) := [(⟨"PictureMovesModel", "opens", "(IIII)V"⟩, 12), (⟨"PictureMovesModel", "shuts", "()I"⟩, 12), (⟨"PictureMovesModel", "moves", "(IIIIIIIII)I"⟩, 12), (⟨"PictureMovesModel", "copies", "([I)V"⟩, 12), (⟨"PictureMovesModel", "asideAt", "(III)I"⟩, 12), (⟨"PictureMovesModel", "joinsAt", "(IIIII)I"⟩, 12), (⟨"PictureMovesModel", "isOpen", "(II)Z"⟩, 12), (⟨"PictureMovesModel", "patternAt", "(II)I"⟩, 12), (⟨"PictureMovesModel", "lines", "(IIIIII)I"⟩, 12), (⟨"PictureMovesModel", "mayFlood", "(II)Z"⟩, 12), (⟨"PictureMovesModel", "no", "()I"⟩, 12), (⟨"PictureMovesModel", "floods", "(III)I"⟩, 12), (⟨"PictureMovesModel", "noneCame", "()V"⟩, 12), (⟨"PictureMovesModel", "spreads", "(IIIZ)I"⟩, 12), (⟨"PictureMovesModel", "comes", "(II)V"⟩, 12), (⟨"PictureMovesModel", "rectangles", "(IIIIII)I"⟩, 12)]
theorem lw_r3 : ∀ q ∈ lw_privs_3, lw_okq q := List.forall_mem_cons.mpr ⟨lw_p32, List.forall_mem_cons.mpr ⟨lw_p33, List.forall_mem_cons.mpr ⟨lw_p34, List.forall_mem_cons.mpr ⟨lw_p35, List.forall_mem_cons.mpr ⟨lw_p36, List.forall_mem_cons.mpr ⟨lw_p37, List.forall_mem_cons.mpr ⟨lw_p38, List.forall_mem_cons.mpr ⟨lw_p39, List.forall_mem_cons.mpr ⟨lw_p40, List.forall_mem_cons.mpr ⟨lw_p41, List.forall_mem_cons.mpr ⟨lw_p42, List.forall_mem_cons.mpr ⟨lw_p43, List.forall_mem_cons.mpr ⟨lw_p44, List.forall_mem_cons.mpr ⟨lw_p45, List.forall_mem_cons.mpr ⟨lw_p46, List.forall_mem_cons.mpr ⟨lw_p47, fun _ h => absurd h List.not_mem_nil⟩⟩⟩⟩⟩⟩⟩⟩⟩⟩⟩⟩⟩⟩⟩⟩
theorem lw_p48 : lw_okq (⟨"PictureMovesModel", "letters", "(IIIII)I"⟩, 12) := ⟨⟨by decide +kernel, by decide +kernel⟩, List.mem_of_getElem? (i := 762) (by decide +kernel), List.mem_of_getElem? (i := 976) (by decide +kernel), List.mem_of_getElem? (i := 977) (by decide +kernel)⟩
theorem lw_p49 : lw_okq (⟨"PictureMovesModel", "changed", "(IIII)I"⟩, 12) := ⟨⟨by decide +kernel, by decide +kernel⟩, List.mem_of_getElem? (i := 762) (by decide +kernel), List.mem_of_getElem? (i := 989) (by decide +kernel), List.mem_of_getElem? (i := 990) (by decide +kernel)⟩
theorem lw_p50 : lw_okq (⟨"PictureMovesModel", "sides", "(III)I"⟩, 12) := ⟨⟨by decide +kernel, by decide +kernel⟩, List.mem_of_getElem? (i := 762) (by decide +kernel), List.mem_of_getElem? (i := 993) (by decide +kernel), List.mem_of_getElem? (i := 994) (by decide +kernel)⟩
theorem lw_p51 : lw_okq (⟨"PictureMovesModel", "partsOf", "(I)I"⟩, 12) := ⟨⟨by decide +kernel, by decide +kernel⟩, List.mem_of_getElem? (i := 762) (by decide +kernel), List.mem_of_getElem? (i := 1015) (by decide +kernel), List.mem_of_getElem? (i := 1016) (by decide +kernel)⟩
theorem lw_p52 : lw_okq (⟨"PictureMovesModel", "openDots", "()I"⟩, 12) := ⟨⟨by decide +kernel, by decide +kernel⟩, List.mem_of_getElem? (i := 762) (by decide +kernel), List.mem_of_getElem? (i := 1019) (by decide +kernel), List.mem_of_getElem? (i := 1020) (by decide +kernel)⟩
theorem lw_p53 : lw_okq (⟨"PictureMovesModel", "edge", "(IZZ)I"⟩, 12) := ⟨⟨by decide +kernel, by decide +kernel⟩, List.mem_of_getElem? (i := 762) (by decide +kernel), List.mem_of_getElem? (i := 1023) (by decide +kernel), List.mem_of_getElem? (i := 1024) (by decide +kernel)⟩
theorem lw_p54 : lw_okq (⟨"PictureMovesModel", "isLike", "(IIIIIIII)Z"⟩, 12) := ⟨⟨by decide +kernel, by decide +kernel⟩, List.mem_of_getElem? (i := 762) (by decide +kernel), List.mem_of_getElem? (i := 1040) (by decide +kernel), List.mem_of_getElem? (i := 1041) (by decide +kernel)⟩
theorem lw_p55 : lw_okq (⟨"PictureMovesModel", "goesThrough", "(Z)I"⟩, 12) := ⟨⟨by decide +kernel, by decide +kernel⟩, List.mem_of_getElem? (i := 762) (by decide +kernel), List.mem_of_getElem? (i := 1061) (by decide +kernel), List.mem_of_getElem? (i := 1062) (by decide +kernel)⟩
theorem lw_p56 : lw_okq (⟨"PictureMovesModel", "reads", "(I)I"⟩, 12) := ⟨⟨by decide +kernel, by decide +kernel⟩, List.mem_of_getElem? (i := 762) (by decide +kernel), List.mem_of_getElem? (i := 1065) (by decide +kernel), List.mem_of_getElem? (i := 1066) (by decide +kernel)⟩
theorem lw_p57 : lw_okq (⟨"PictureMovesModel", "skip", "()V"⟩, 12) := ⟨⟨by decide +kernel, by decide +kernel⟩, List.mem_of_getElem? (i := 762) (by decide +kernel), List.mem_of_getElem? (i := 1069) (by decide +kernel), List.mem_of_getElem? (i := 1070) (by decide +kernel)⟩
theorem lw_p58 : lw_okq (⟨"PictureMovesModel", "takes", "(II)Z"⟩, 12) := ⟨⟨by decide +kernel, by decide +kernel⟩, List.mem_of_getElem? (i := 762) (by decide +kernel), List.mem_of_getElem? (i := 1082) (by decide +kernel), List.mem_of_getElem? (i := 1083) (by decide +kernel)⟩
theorem lw_p59 : lw_okq (⟨"PictureMovesModel", "isByte", "(III)Z"⟩, 12) := ⟨⟨by decide +kernel, by decide +kernel⟩, List.mem_of_getElem? (i := 762) (by decide +kernel), List.mem_of_getElem? (i := 1086) (by decide +kernel), List.mem_of_getElem? (i := 1087) (by decide +kernel)⟩
theorem lw_p60 : lw_okq (⟨"PictureMovesModel", "doesOne", "(I)I"⟩, 12) := ⟨⟨by decide +kernel, by decide +kernel⟩, List.mem_of_getElem? (i := 762) (by decide +kernel), List.mem_of_getElem? (i := 1094) (by decide +kernel), List.mem_of_getElem? (i := 1095) (by decide +kernel)⟩
theorem lw_p61 : lw_okq (⟨"PictureMovesModel", "toldOf", "(I)I"⟩, 12) := ⟨⟨by decide +kernel, by decide +kernel⟩, List.mem_of_getElem? (i := 762) (by decide +kernel), List.mem_of_getElem? (i := 1107) (by decide +kernel), List.mem_of_getElem? (i := 1108) (by decide +kernel)⟩
def lw_privs_4 : List (MethodName × Nat) := [(⟨"PictureMovesModel", "letters", "(IIIII)I"⟩, 12), (⟨"PictureMovesModel", "changed", "(IIII)I"⟩, 12), (⟨"PictureMovesModel", "sides", "(III)I"⟩, 12), (⟨"PictureMovesModel", "partsOf", "(I)I"⟩, 12), (⟨"PictureMovesModel", "openDots", "()I"⟩, 12), (⟨"PictureMovesModel", "edge", "(IZZ)I"⟩, 12), (⟨"PictureMovesModel", "isLike", "(IIIIIIII)Z"⟩, 12), (⟨"PictureMovesModel", "goesThrough", "(Z)I"⟩, 12), (⟨"PictureMovesModel", "reads", "(I)I"⟩, 12), (⟨"PictureMovesModel", "skip", "()V"⟩, 12), (⟨"PictureMovesModel", "takes", "(II)Z"⟩, 12), (⟨"PictureMovesModel", "isByte", "(III)Z"⟩, 12), (⟨"PictureMovesModel", "doesOne", "(I)I"⟩, 12), (⟨"PictureMovesModel", "toldOf", "(I)I"⟩, 12)]
theorem lw_r4 : ∀ q ∈ lw_privs_4, lw_okq q := List.forall_mem_cons.mpr ⟨lw_p48, List.forall_mem_cons.mpr ⟨lw_p49, List.forall_mem_cons.mpr ⟨lw_p50, List.forall_mem_cons.mpr ⟨lw_p51, List.forall_mem_cons.mpr ⟨lw_p52, List.forall_mem_cons.mpr ⟨lw_p53, List.forall_mem_cons.mpr ⟨lw_p54, List.forall_mem_cons.mpr ⟨lw_p55, List.forall_mem_cons.mpr ⟨lw_p56, List.forall_mem_cons.mpr ⟨lw_p57, List.forall_mem_cons.mpr ⟨lw_p58, List.forall_mem_cons.mpr ⟨lw_p59, List.forall_mem_cons.mpr ⟨lw_p60, List.forall_mem_cons.mpr ⟨lw_p61, fun _ h => absurd h List.not_mem_nil⟩⟩⟩⟩⟩⟩⟩⟩⟩⟩⟩⟩⟩⟩
def lw_privs : List (MethodName × Nat) := lw_privs_1 ++ (lw_privs_2 ++ (lw_privs_3 ++ (lw_privs_4)))
def lw_tbl : List Cond := k2_sels lw_privs ++ tables_1
theorem lw_privs_ok : ∀ q ∈ lw_privs, lw_okq q := by
  show ∀ q ∈ lw_privs_1 ++ (lw_privs_2 ++ (lw_privs_3 ++ (lw_privs_4))), lw_okq q
  exact List.forall_mem_append.mpr ⟨lw_r1, List.forall_mem_append.mpr ⟨lw_r2, List.forall_mem_append.mpr ⟨lw_r3, lw_r4⟩⟩⟩

/-! ===== BEGIN words of one list among another's, by their places ===== -/
theorem goodIn_r {big : List Cond} (ws : List Cond) (ps : List Nat) (hp : ws = ps.filterMap (fun i => big[i]?)) (h : ws.all goodWord = true) : GoodIn big ws := by
  intro w hw
  have h1 := List.all_eq_true.mp h w hw
  rw [hp] at hw
  obtain ⟨i, -, hi⟩ := List.mem_filterMap.mp hw
  have hm : w ∈ big := by first | exact List.mem_of_getElem? hi | exact List.getElem?_mem hi
  exact ⟨hm, good_of_word h1⟩
theorem goodIn_app {big a b : List Cond} (ha : GoodIn big a) (hb : GoodIn big b) : GoodIn big (a ++ b) := fun w h => (List.mem_append.mp h).elim (ha w) (hb w)
theorem goodIn_ca {big a b : List Cond} {c : Cond} (ha : GoodIn big (c :: a)) (hb : GoodIn big b) : GoodIn big (c :: (a ++ b)) := fun w h => (List.mem_cons.mp h).elim (fun e => ha w (List.mem_cons.mpr (Or.inl e))) (fun h => (List.mem_append.mp h).elim (fun h => ha w (List.mem_cons.mpr (Or.inr h))) (hb w))
theorem goodIn_sub {big ws : List Cond} (hm : ∀ w ∈ ws, w ∈ big) (h : ws.all goodWord = true) : GoodIn big ws := fun w hw => ⟨hm w hw, good_of_word (List.all_eq_true.mp h w hw)⟩
/-! ===== END ===== -/

/-! ===== BEGIN printed: names, fields, word lists, decode rows ===== -/
def RX0 : String := "PictureMoves$Measure"
def TX0 : u_T := fun k => match k with
  | 0 => ("PictureMoves$Measure", "scene", "LPictureMoves$Scene;", true)
  | 1 => ("PictureMoves$Measure", "parts", "LPictureMoves$Parts;", true)
  | _ => ("PictureMoves$Measure", "block", "[I", true)
def tyX0 : Nat → FieldType := fun k => match k with
  | 0 => .object "PictureMoves$Scene"
  | 1 => .object "PictureMoves$Parts"
  | _ => .array .int
abbrev wsX00 : List Cond := u_ws RX0 TX0 3
theorem nmX0 : ∀ a, a < 3 → ∀ b, b < 3 → a ≠ b → (TX0 a).2.1 ≠ (TX0 b).2.1 := by decide +kernel
theorem tyX0_ok : ∀ k, k < 3 → parseFieldDescriptor (TX0 k).2.2.1 = some (tyX0 k) := by decide +kernel
abbrev cX0_init : ByteArray := prog_2_method_1_code
def yX0_init : MethodName := ⟨RX0, "<init>", "(LPictureMoves$Scene;LPictureMoves$Parts;)V"⟩
abbrev cX0_measured : ByteArray := prog_2_method_2_code
def yX0_measured : MethodName := ⟨RX0, "measured", "(II)I"⟩
abbrev cX0_ones : ByteArray := prog_2_method_3_code
def yX0_ones : MethodName := ⟨RX0, "ones", "(I)I"⟩
abbrev cX0_onesWithin : ByteArray := prog_2_method_4_code
def yX0_onesWithin : MethodName := ⟨RX0, "onesWithin", "(IIIII)I"⟩
abbrev cX0_unlikeDots : ByteArray := prog_2_method_5_code
def yX0_unlikeDots : MethodName := ⟨RX0, "unlikeDots", "(II)I"⟩
abbrev cX0_takesBlock : ByteArray := prog_2_method_6_code
def yX0_takesBlock : MethodName := ⟨RX0, "takesBlock", "(IIII)V"⟩
abbrev cX0_placesOfBlock : ByteArray := prog_2_method_7_code
def yX0_placesOfBlock : MethodName := ⟨RX0, "placesOfBlock", "(III)I"⟩
abbrev cX0_alikePlaces : ByteArray := prog_2_method_8_code
def yX0_alikePlaces : MethodName := ⟨RX0, "alikePlaces", "(III)I"⟩
abbrev cX0_partsOf : ByteArray := prog_2_method_9_code
def yX0_partsOf : MethodName := ⟨RX0, "partsOf", "(I)I"⟩
abbrev cX0_columnsOf : ByteArray := prog_2_method_10_code
def yX0_columnsOf : MethodName := ⟨RX0, "columnsOf", "(I)I"⟩
abbrev cX0_leastX : ByteArray := prog_2_method_11_code
def yX0_leastX : MethodName := ⟨RX0, "leastX", "(I)I"⟩
abbrev cX0_greatestX : ByteArray := prog_2_method_12_code
def yX0_greatestX : MethodName := ⟨RX0, "greatestX", "(I)I"⟩
abbrev cX0_leastY : ByteArray := prog_2_method_13_code
def yX0_leastY : MethodName := ⟨RX0, "leastY", "(I)I"⟩
abbrev cX0_greatestY : ByteArray := prog_2_method_14_code
def yX0_greatestY : MethodName := ⟨RX0, "greatestY", "(I)I"⟩
abbrev cX0_openDots : ByteArray := prog_2_method_15_code
def yX0_openDots : MethodName := ⟨RX0, "openDots", "()I"⟩
def RX1 : String := "PictureMoves$Order"
def TX1 : u_T := fun k => match k with
  | 0 => ("PictureMoves$Order", "numbers", "[I", true)
  | 1 => ("PictureMoves$Order", "sign", "I", false)
  | 2 => ("PictureMoves$Order", "kinds", "Ljava/lang/String;", false)
  | 3 => ("PictureMoves$Order", "size", "I", false)
  | _ => ("PictureMoves$Order", "allWithin", "Z", false)
def tyX1 : Nat → FieldType := fun k => match k with
  | 0 => .array .int
  | 1 => .int
  | 2 => .object "java/lang/String"
  | 3 => .int
  | _ => .boolean
abbrev wsX10 : List Cond := u_ws RX1 TX1 5
theorem nmX1 : ∀ a, a < 5 → ∀ b, b < 5 → a ≠ b → (TX1 a).2.1 ≠ (TX1 b).2.1 := by decide +kernel
theorem tyX1_ok : ∀ k, k < 5 → parseFieldDescriptor (TX1 k).2.2.1 = some (tyX1 k) := by decide +kernel
abbrev cX1_init : ByteArray := prog_3_method_1_code
def yX1_init : MethodName := ⟨RX1, "<init>", "()V"⟩
abbrev cX1_begins : ByteArray := prog_3_method_2_code
def yX1_begins : MethodName := ⟨RX1, "begins", "(I)V"⟩
abbrev cX1_with : ByteArray := prog_3_method_3_code
def yX1_with : MethodName := ⟨RX1, "with", "(I)LPictureMoves$Order;"⟩
abbrev cX1_isAsTold : ByteArray := prog_3_method_4_code
def yX1_isAsTold : MethodName := ⟨RX1, "isAsTold", "()Z"⟩
abbrev cX1_numberAt : ByteArray := prog_3_method_5_code
def yX1_numberAt : MethodName := ⟨RX1, "numberAt", "(I)I"⟩
abbrev cX1_isSign : ByteArray := prog_3_method_6_code
def yX1_isSign : MethodName := ⟨RX1, "isSign", "(I)Z"⟩
abbrev cX1_kindsOf : ByteArray := prog_3_method_7_code
def yX1_kindsOf : MethodName := ⟨RX1, "kindsOf", "(I)Ljava/lang/String;"⟩
abbrev cX1_isOfKind : ByteArray := prog_3_method_8_code
def yX1_isOfKind : MethodName := ⟨RX1, "isOfKind", "(IC)Z"⟩
def RX2 : String := "PictureMoves$OrderText"
def TX2 : u_T := fun k => match k with
  | 0 => ("PictureMoves$OrderText", "bytes", "[B", true)
  | 1 => ("PictureMoves$OrderText", "length", "I", false)
  | 2 => ("PictureMoves$OrderText", "place", "I", false)
  | _ => ("PictureMoves$OrderText", "number", "I", false)
def tyX2 : Nat → FieldType := fun k => match k with
  | 0 => .array .byte
  | 1 => .int
  | 2 => .int
  | _ => .int
abbrev wsX20 : List Cond := u_ws RX2 TX2 4
theorem nmX2 : ∀ a, a < 4 → ∀ b, b < 4 → a ≠ b → (TX2 a).2.1 ≠ (TX2 b).2.1 := by decide +kernel
theorem tyX2_ok : ∀ k, k < 4 → parseFieldDescriptor (TX2 k).2.2.1 = some (tyX2 k) := by decide +kernel
abbrev cX2_init : ByteArray := prog_4_method_1_code
def yX2_init : MethodName := ⟨RX2, "<init>", "()V"⟩
abbrev cX2_takes : ByteArray := prog_4_method_2_code
def yX2_takes : MethodName := ⟨RX2, "takes", "(I)V"⟩
abbrev cX2_restarts : ByteArray := prog_4_method_3_code
def yX2_restarts : MethodName := ⟨RX2, "restarts", "()V"⟩
abbrev cX2_isAtEnd : ByteArray := prog_4_method_4_code
def yX2_isAtEnd : MethodName := ⟨RX2, "isAtEnd", "()Z"⟩
abbrev cX2_faultIn : ByteArray := prog_4_method_5_code
def yX2_faultIn : MethodName := ⟨RX2, "faultIn", "(LPictureMoves$Order;I)I"⟩
abbrev cX2_reads : ByteArray := prog_4_method_6_code
def yX2_reads : MethodName := ⟨RX2, "reads", "(LPictureMoves$Order;)I"⟩
abbrev cX2_readsNumber : ByteArray := prog_4_method_7_code
def yX2_readsNumber : MethodName := ⟨RX2, "readsNumber", "()Z"⟩
abbrev cX2_skipsBlanks : ByteArray := prog_4_method_8_code
def yX2_skipsBlanks : MethodName := ⟨RX2, "skipsBlanks", "()V"⟩
abbrev cX2_byteHere : ByteArray := prog_4_method_9_code
def yX2_byteHere : MethodName := ⟨RX2, "byteHere", "()I"⟩
abbrev cX2_openingsAfter : ByteArray := prog_4_method_10_code
def yX2_openingsAfter : MethodName := ⟨RX2, "openingsAfter", "(LPictureMoves$Order;I)I"⟩
def RX3 : String := "PictureMoves$Painter"
def TX3 : u_T := fun k => match k with
  | 0 => ("PictureMoves$Painter", "scene", "LPictureMoves$Scene;", true)
  | 1 => ("PictureMoves$Painter", "parts", "LPictureMoves$Parts;", true)
  | 2 => ("PictureMoves$Painter", "source", "[I", true)
  | _ => ("PictureMoves$Painter", "like", "[I", true)
def tyX3 : Nat → FieldType := fun k => match k with
  | 0 => .object "PictureMoves$Scene"
  | 1 => .object "PictureMoves$Parts"
  | 2 => .array .int
  | _ => .array .int
abbrev wsX30 : List Cond := u_ws RX3 TX3 4
theorem nmX3 : ∀ a, a < 4 → ∀ b, b < 4 → a ≠ b → (TX3 a).2.1 ≠ (TX3 b).2.1 := by decide +kernel
theorem tyX3_ok : ∀ k, k < 4 → parseFieldDescriptor (TX3 k).2.2.1 = some (tyX3 k) := by decide +kernel
abbrev cX3_init : ByteArray := prog_5_method_1_code
def yX3_init : MethodName := ⟨RX3, "<init>", "(LPictureMoves$Scene;LPictureMoves$Parts;)V"⟩
abbrev cX3_performs : ByteArray := prog_5_method_2_code
def yX3_performs : MethodName := ⟨RX3, "performs", "(LPictureMoves$Order;)I"⟩
abbrev cX3_movesBlock : ByteArray := prog_5_method_3_code
def yX3_movesBlock : MethodName := ⟨RX3, "movesBlock", "(LPictureMoves$Order;)I"⟩
abbrev cX3_keepsSource : ByteArray := prog_5_method_4_code
def yX3_keepsSource : MethodName := ⟨RX3, "keepsSource", "(I)V"⟩
abbrev cX3_sourceAt : ByteArray := prog_5_method_5_code
def yX3_sourceAt : MethodName := ⟨RX3, "sourceAt", "(I)I"⟩
abbrev cX3_drawsLine : ByteArray := prog_5_method_6_code
def yX3_drawsLine : MethodName := ⟨RX3, "drawsLine", "(LPictureMoves$Order;)I"⟩
abbrev cX3_between : ByteArray := prog_5_method_7_code
def yX3_between : MethodName := ⟨RX3, "between", "(IIII)I"⟩
abbrev cX3_floods : ByteArray := prog_5_method_8_code
def yX3_floods : MethodName := ⟨RX3, "floods", "(III)I"⟩
abbrev cX3_fillsRectangle : ByteArray := prog_5_method_9_code
def yX3_fillsRectangle : MethodName := ⟨RX3, "fillsRectangle", "(LPictureMoves$Order;)I"⟩
abbrev cX3_writesLetter : ByteArray := prog_5_method_10_code
def yX3_writesLetter : MethodName := ⟨RX3, "writesLetter", "(LPictureMoves$Order;)I"⟩
abbrev cX3_letterRow : ByteArray := prog_5_method_11_code
def yX3_letterRow : MethodName := ⟨RX3, "letterRow", "(II)I"⟩
def RX4 : String := "PictureMoves$Parts"
def TX4 : u_T := fun k => match k with
  | 0 => ("PictureMoves$Parts", "left", "[I", true)
  | 1 => ("PictureMoves$Parts", "stepRows", "[I", true)
  | 2 => ("PictureMoves$Parts", "stepDots", "[I", true)
  | _ => ("PictureMoves$Parts", "steps", "I", false)
def tyX4 : Nat → FieldType := fun k => match k with
  | 0 => .array .int
  | 1 => .array .int
  | 2 => .array .int
  | _ => .int
abbrev wsX40 : List Cond := u_ws RX4 TX4 4
theorem nmX4 : ∀ a, a < 4 → ∀ b, b < 4 → a ≠ b → (TX4 a).2.1 ≠ (TX4 b).2.1 := by decide +kernel
theorem tyX4_ok : ∀ k, k < 4 → parseFieldDescriptor (TX4 k).2.2.1 = some (tyX4 k) := by decide +kernel
abbrev cX4_init : ByteArray := prog_6_method_1_code
def yX4_init : MethodName := ⟨RX4, "<init>", "()V"⟩
abbrev cX4_takesOut : ByteArray := prog_6_method_2_code
def yX4_takesOut : MethodName := ⟨RX4, "takesOut", "(II)V"⟩
abbrev cX4_numberOfParts : ByteArray := prog_6_method_3_code
def yX4_numberOfParts : MethodName := ⟨RX4, "numberOfParts", "()I"⟩
abbrev cX4_reaches : ByteArray := prog_6_method_4_code
def yX4_reaches : MethodName := ⟨RX4, "reaches", "(II)V"⟩
abbrev cX4_runsThrough : ByteArray := prog_6_method_5_code
def yX4_runsThrough : MethodName := ⟨RX4, "runsThrough", "(II)I"⟩
def RX5 : String := "PictureMoves$Past"
def TX5 : u_T := fun k => match k with
  | 0 => ("PictureMoves$Past", "kept", "[LPictureMoves$Scene;", true)
  | 1 => ("PictureMoves$Past", "next", "I", false)
  | _ => ("PictureMoves$Past", "size", "I", false)
def tyX5 : Nat → FieldType := fun k => match k with
  | 0 => .array (.object "PictureMoves$Scene")
  | 1 => .int
  | _ => .int
abbrev wsX50 : List Cond := u_ws RX5 TX5 3
theorem nmX5 : ∀ a, a < 3 → ∀ b, b < 3 → a ≠ b → (TX5 a).2.1 ≠ (TX5 b).2.1 := by decide +kernel
theorem tyX5_ok : ∀ k, k < 3 → parseFieldDescriptor (TX5 k).2.2.1 = some (tyX5 k) := by decide +kernel
abbrev cX5_init : ByteArray := prog_7_method_1_code
def yX5_init : MethodName := ⟨RX5, "<init>", "()V"⟩
abbrev cX5_keeps : ByteArray := prog_7_method_2_code
def yX5_keeps : MethodName := ⟨RX5, "keeps", "(LPictureMoves$Scene;)V"⟩
abbrev cX5_givesBack : ByteArray := prog_7_method_3_code
def yX5_givesBack : MethodName := ⟨RX5, "givesBack", "(LPictureMoves$Scene;)V"⟩
def RX6 : String := "PictureMoves$Scene"
def TX6 : u_T := fun k => match k with
  | 0 => ("PictureMoves$Scene", "rows", "[I", true)
  | 1 => ("PictureMoves$Scene", "patternRows", "[I", true)
  | 2 => ("PictureMoves$Scene", "openings", "[I", true)
  | _ => ("PictureMoves$Scene", "openingCount", "I", false)
def tyX6 : Nat → FieldType := fun k => match k with
  | 0 => .array .int
  | 1 => .array .int
  | 2 => .array .int
  | _ => .int
abbrev wsX60 : List Cond := u_ws RX6 TX6 4
theorem nmX6 : ∀ a, a < 4 → ∀ b, b < 4 → a ≠ b → (TX6 a).2.1 ≠ (TX6 b).2.1 := by decide +kernel
theorem tyX6_ok : ∀ k, k < 4 → parseFieldDescriptor (TX6 k).2.2.1 = some (tyX6 k) := by decide +kernel
abbrev cX6_init : ByteArray := prog_8_method_1_code
def yX6_init : MethodName := ⟨RX6, "<init>", "()V"⟩
abbrev cX6_becomes : ByteArray := prog_8_method_2_code
def yX6_becomes : MethodName := ⟨RX6, "becomes", "(LPictureMoves$Scene;)V"⟩
abbrev cX6_rowAt : ByteArray := prog_8_method_3_code
def yX6_rowAt : MethodName := ⟨RX6, "rowAt", "(II)I"⟩
abbrev cX6_putRow : ByteArray := prog_8_method_4_code
def yX6_putRow : MethodName := ⟨RX6, "putRow", "(III)V"⟩
abbrev cX6_dotAt : ByteArray := prog_8_method_5_code
def yX6_dotAt : MethodName := ⟨RX6, "dotAt", "(III)I"⟩
abbrev cX6_patternAt : ByteArray := prog_8_method_6_code
def yX6_patternAt : MethodName := ⟨RX6, "patternAt", "(I)I"⟩
abbrev cX6_openAt : ByteArray := prog_8_method_7_code
def yX6_openAt : MethodName := ⟨RX6, "openAt", "(I)I"⟩
abbrev cX6_isOpen : ByteArray := prog_8_method_8_code
def yX6_isOpen : MethodName := ⟨RX6, "isOpen", "(II)Z"⟩
abbrev cX6_opens : ByteArray := prog_8_method_9_code
def yX6_opens : MethodName := ⟨RX6, "opens", "(IIII)V"⟩
abbrev cX6_joinsRow : ByteArray := prog_8_method_10_code
def yX6_joinsRow : MethodName := ⟨RX6, "joinsRow", "(IIIII)I"⟩
abbrev cX6_turnsDots : ByteArray := prog_8_method_11_code
def yX6_turnsDots : MethodName := ⟨RX6, "turnsDots", "(III)I"⟩
abbrev cX6_mixedInto : ByteArray := prog_8_method_12_code
def yX6_mixedInto : MethodName := ⟨RX6, "mixedInto", "(J)J"⟩
def RX7 : String := "PictureMoves$Whole"
def TX7 : u_T := fun k => match k with
  | 0 => ("PictureMoves$Whole", "scene", "LPictureMoves$Scene;", true)
  | _ => ("PictureMoves$Whole", "comes", "[I", true)
def tyX7 : Nat → FieldType := fun k => match k with
  | 0 => .object "PictureMoves$Scene"
  | _ => .array .int
abbrev wsX70 : List Cond := u_ws RX7 TX7 2
theorem nmX7 : ∀ a, a < 2 → ∀ b, b < 2 → a ≠ b → (TX7 a).2.1 ≠ (TX7 b).2.1 := by decide +kernel
theorem tyX7_ok : ∀ k, k < 2 → parseFieldDescriptor (TX7 k).2.2.1 = some (tyX7 k) := by decide +kernel
abbrev cX7_init : ByteArray := prog_9_method_1_code
def yX7_init : MethodName := ⟨RX7, "<init>", "(LPictureMoves$Scene;)V"⟩
abbrev cX7_drawn : ByteArray := prog_9_method_2_code
def yX7_drawn : MethodName := ⟨RX7, "drawn", "(II)V"⟩
abbrev cX7_numberBehind : ByteArray := prog_9_method_3_code
def yX7_numberBehind : MethodName := ⟨RX7, "numberBehind", "(J)J"⟩
abbrev cX7_joined : ByteArray := prog_9_method_4_code
def yX7_joined : MethodName := ⟨RX7, "joined", "(III)I"⟩
abbrev cX7_changed : ByteArray := prog_9_method_5_code
def yX7_changed : MethodName := ⟨RX7, "changed", "(II)I"⟩
abbrev cX7_rolled : ByteArray := prog_9_method_6_code
def yX7_rolled : MethodName := ⟨RX7, "rolled", "(III)I"⟩
abbrev cX7_changedRow : ByteArray := prog_9_method_7_code
def yX7_changedRow : MethodName := ⟨RX7, "changedRow", "(III)I"⟩
abbrev cX7_grownRow : ByteArray := prog_9_method_8_code
def yX7_grownRow : MethodName := ⟨RX7, "grownRow", "(II)I"⟩
abbrev cX7_thinnedRow : ByteArray := prog_9_method_9_code
def yX7_thinnedRow : MethodName := ⟨RX7, "thinnedRow", "(II)I"⟩
abbrev cX7_mirroredRow : ByteArray := prog_9_method_10_code
def yX7_mirroredRow : MethodName := ⟨RX7, "mirroredRow", "(I)I"⟩
abbrev cX7_becomesWhatComes : ByteArray := prog_9_method_11_code
def yX7_becomesWhatComes : MethodName := ⟨RX7, "becomesWhatComes", "(I)I"⟩
def RX8 : String := "PictureMoves"
def TX8 : u_T := fun k => match k with
  | 0 => ("PictureMoves", "scene", "LPictureMoves$Scene;", true)
  | 1 => ("PictureMoves", "past", "LPictureMoves$Past;", true)
  | 2 => ("PictureMoves", "painter", "LPictureMoves$Painter;", true)
  | 3 => ("PictureMoves", "whole", "LPictureMoves$Whole;", true)
  | 4 => ("PictureMoves", "measure", "LPictureMoves$Measure;", true)
  | 5 => ("PictureMoves", "order", "LPictureMoves$Order;", true)
  | 6 => ("PictureMoves", "text", "LPictureMoves$OrderText;", true)
  | 7 => ("PictureMoves", "bads", "I", false)
  | 8 => ("PictureMoves", "noes", "I", false)
  | _ => ("PictureMoves", "fulls", "I", false)
def tyX8 : Nat → FieldType := fun k => match k with
  | 0 => .object "PictureMoves$Scene"
  | 1 => .object "PictureMoves$Past"
  | 2 => .object "PictureMoves$Painter"
  | 3 => .object "PictureMoves$Whole"
  | 4 => .object "PictureMoves$Measure"
  | 5 => .object "PictureMoves$Order"
  | 6 => .object "PictureMoves$OrderText"
  | 7 => .int
  | 8 => .int
  | _ => .int
abbrev wsX80 : List Cond := u_ws RX8 TX8 10
theorem nmX8 : ∀ a, a < 10 → ∀ b, b < 10 → a ≠ b → (TX8 a).2.1 ≠ (TX8 b).2.1 := by decide +kernel
theorem tyX8_ok : ∀ k, k < 10 → parseFieldDescriptor (TX8 k).2.2.1 = some (tyX8 k) := by decide +kernel
abbrev cX8_init : ByteArray := prog_1_method_1_code
def yX8_init : MethodName := ⟨RX8, "<init>", "()V"⟩
abbrev cX8_dot : ByteArray := prog_1_method_2_code
def yX8_dot : MethodName := ⟨RX8, "dot", "(IIII)I"⟩
abbrev cX8_pattern : ByteArray := prog_1_method_3_code
def yX8_pattern : MethodName := ⟨RX8, "pattern", "(II)I"⟩
abbrev cX8_draw : ByteArray := prog_1_method_4_code
def yX8_draw : MethodName := ⟨RX8, "draw", "(II)I"⟩
abbrev cX8_opening : ByteArray := prog_1_method_5_code
def yX8_opening : MethodName := ⟨RX8, "opening", "(IIII)I"⟩
abbrev cX8_closes : ByteArray := prog_1_method_6_code
def yX8_closes : MethodName := ⟨RX8, "closes", "()I"⟩
abbrev cX8_move : ByteArray := prog_1_method_7_code
def yX8_move : MethodName := ⟨RX8, "move", "(IIIIIIIII)I"⟩
abbrev cX8_line : ByteArray := prog_1_method_8_code
def yX8_line : MethodName := ⟨RX8, "line", "(IIIIII)I"⟩
abbrev cX8_flood : ByteArray := prog_1_method_9_code
def yX8_flood : MethodName := ⟨RX8, "flood", "(III)I"⟩
abbrev cX8_rectangle : ByteArray := prog_1_method_10_code
def yX8_rectangle : MethodName := ⟨RX8, "rectangle", "(IIIIII)I"⟩
abbrev cX8_letter : ByteArray := prog_1_method_11_code
def yX8_letter : MethodName := ⟨RX8, "letter", "(IIIII)I"⟩
abbrev cX8_joins : ByteArray := prog_1_method_12_code
def yX8_joins : MethodName := ⟨RX8, "joins", "(III)I"⟩
abbrev cX8_changes : ByteArray := prog_1_method_13_code
def yX8_changes : MethodName := ⟨RX8, "changes", "(II)I"⟩
abbrev cX8_rolls : ByteArray := prog_1_method_14_code
def yX8_rolls : MethodName := ⟨RX8, "rolls", "(III)I"⟩
abbrev cX8_at : ByteArray := prog_1_method_15_code
def yX8_at : MethodName := ⟨RX8, "at", "(III)I"⟩
abbrev cX8_row : ByteArray := prog_1_method_16_code
def yX8_row : MethodName := ⟨RX8, "row", "(II)I"⟩
abbrev cX8_of : ByteArray := prog_1_method_17_code
def yX8_of : MethodName := ⟨RX8, "of", "(II)I"⟩
abbrev cX8_count : ByteArray := prog_1_method_18_code
def yX8_count : MethodName := ⟨RX8, "count", "(IIIII)I"⟩
abbrev cX8_unlike : ByteArray := prog_1_method_19_code
def yX8_unlike : MethodName := ⟨RX8, "unlike", "(II)I"⟩
abbrev cX8_finds : ByteArray := prog_1_method_20_code
def yX8_finds : MethodName := ⟨RX8, "finds", "(IIIIII)I"⟩
abbrev cX8_open : ByteArray := prog_1_method_21_code
def yX8_open : MethodName := ⟨RX8, "open", "(II)I"⟩
abbrev cX8_type : ByteArray := prog_1_method_22_code
def yX8_type : MethodName := ⟨RX8, "type", "(I)I"⟩
abbrev cX8_clear : ByteArray := prog_1_method_23_code
def yX8_clear : MethodName := ⟨RX8, "clear", "()I"⟩
abbrev cX8_does : ByteArray := prog_1_method_24_code
def yX8_does : MethodName := ⟨RX8, "does", "()I"⟩
abbrev cX8_back : ByteArray := prog_1_method_25_code
def yX8_back : MethodName := ⟨RX8, "back", "()I"⟩
abbrev cX8_told : ByteArray := prog_1_method_26_code
def yX8_told : MethodName := ⟨RX8, "told", "(I)I"⟩
abbrev cX8_digest : ByteArray := prog_1_method_27_code
def yX8_digest : MethodName := ⟨RX8, "digest", "()J"⟩
abbrev cX8_refusedBad : ByteArray := prog_1_method_28_code
def yX8_refusedBad : MethodName := ⟨RX8, "refusedBad", "()I"⟩
abbrev cX8_refusedNo : ByteArray := prog_1_method_29_code
def yX8_refusedNo : MethodName := ⟨RX8, "refusedNo", "()I"⟩
abbrev cX8_refusedFull : ByteArray := prog_1_method_30_code
def yX8_refusedFull : MethodName := ⟨RX8, "refusedFull", "()I"⟩
abbrev cX8_tally : ByteArray := prog_1_method_31_code
def yX8_tally : MethodName := ⟨RX8, "tally", "(I)I"⟩
abbrev cX8_isWithin : ByteArray := prog_1_method_32_code
def yX8_isWithin : MethodName := ⟨RX8, "isWithin", "(III)Z"⟩
abbrev cX8_isPicture : ByteArray := prog_1_method_33_code
def yX8_isPicture : MethodName := ⟨RX8, "isPicture", "(I)Z"⟩
abbrev cX8_isInPicture : ByteArray := prog_1_method_34_code
def yX8_isInPicture : MethodName := ⟨RX8, "isInPicture", "(II)Z"⟩
abbrev cX8_isPlace : ByteArray := prog_1_method_35_code
def yX8_isPlace : MethodName := ⟨RX8, "isPlace", "(I)Z"⟩
abbrev cX8_isSize : ByteArray := prog_1_method_36_code
def yX8_isSize : MethodName := ⟨RX8, "isSize", "(I)Z"⟩
abbrev cX8_shifted : ByteArray := prog_1_method_37_code
def yX8_shifted : MethodName := ⟨RX8, "shifted", "(II)I"⟩
abbrev cX8_dotMask : ByteArray := prog_1_method_38_code
def yX8_dotMask : MethodName := ⟨RX8, "dotMask", "(I)I"⟩
abbrev cX8_spanMask : ByteArray := prog_1_method_39_code
def yX8_spanMask : MethodName := ⟨RX8, "spanMask", "(II)I"⟩
abbrev cX8_joinedRow : ByteArray := prog_1_method_40_code
def yX8_joinedRow : MethodName := ⟨RX8, "joinedRow", "(IIII)I"⟩
def RX9 : String := "PictureMovesModel"
def TX9 : u_T := fun k => match k with
  | 0 => ("PictureMovesModel", "now", "[I", true)
  | 1 => ("PictureMovesModel", "past", "[I", true)
  | 2 => ("PictureMovesModel", "states", "I", false)
  | 3 => ("PictureMovesModel", "refused", "[I", true)
  | 4 => ("PictureMovesModel", "aside", "[I", true)
  | 5 => ("PictureMovesModel", "pile", "[I", true)
  | 6 => ("PictureMovesModel", "came", "[Z", true)
  | 7 => ("PictureMovesModel", "pileLong", "I", false)
  | 8 => ("PictureMovesModel", "text", "[I", true)
  | 9 => ("PictureMovesModel", "textLong", "I", false)
  | 10 => ("PictureMovesModel", "place", "I", false)
  | _ => ("PictureMovesModel", "args", "[I", true)
def tyX9 : Nat → FieldType := fun k => match k with
  | 0 => .array .int
  | 1 => .array .int
  | 2 => .int
  | 3 => .array .int
  | 4 => .array .int
  | 5 => .array .int
  | 6 => .array .boolean
  | 7 => .int
  | 8 => .array .int
  | 9 => .int
  | 10 => .int
  | _ => .array .int
abbrev wsX90 : List Cond := u_ws RX9 TX9 12
theorem nmX9 : ∀ a, a < 12 → ∀ b, b < 12 → a ≠ b → (TX9 a).2.1 ≠ (TX9 b).2.1 := by decide +kernel
theorem tyX9_ok : ∀ k, k < 12 → parseFieldDescriptor (TX9 k).2.2.1 = some (tyX9 k) := by decide +kernel
abbrev cX9_init : ByteArray := prog_11_method_1_code
def yX9_init : MethodName := ⟨RX9, "<init>", "()V"⟩
abbrev cX9_in : ByteArray := prog_11_method_3_code
def yX9_in : MethodName := ⟨RX9, "in", "(JJJ)Z"⟩
abbrev cX9_bad : ByteArray := prog_11_method_4_code
def yX9_bad : MethodName := ⟨RX9, "bad", "(I)I"⟩
abbrev cX9_no : ByteArray := prog_11_method_5_code
def yX9_no : MethodName := ⟨RX9, "no", "()I"⟩
abbrev cX9_full : ByteArray := prog_11_method_6_code
def yX9_full : MethodName := ⟨RX9, "full", "()I"⟩
abbrev cX9_isPicture : ByteArray := prog_11_method_7_code
def yX9_isPicture : MethodName := ⟨RX9, "isPicture", "(I)Z"⟩
abbrev cX9_isPlace : ByteArray := prog_11_method_8_code
def yX9_isPlace : MethodName := ⟨RX9, "isPlace", "(II)Z"⟩
abbrev cX9_isSize : ByteArray := prog_11_method_9_code
def yX9_isSize : MethodName := ⟨RX9, "isSize", "(II)Z"⟩
abbrev cX9_isJoin : ByteArray := prog_11_method_10_code
def yX9_isJoin : MethodName := ⟨RX9, "isJoin", "(I)Z"⟩
abbrev cX9_isIn : ByteArray := prog_11_method_11_code
def yX9_isIn : MethodName := ⟨RX9, "isIn", "(II)Z"⟩
abbrev cX9_keep : ByteArray := prog_11_method_12_code
def yX9_keep : MethodName := ⟨RX9, "keep", "()V"⟩
abbrev cX9_bitOf : ByteArray := prog_11_method_13_code
def yX9_bitOf : MethodName := ⟨RX9, "bitOf", "(II)I"⟩
abbrev cX9_dotOf : ByteArray := prog_11_method_14_code
def yX9_dotOf : MethodName := ⟨RX9, "dotOf", "(III)I"⟩
abbrev cX9_sets : ByteArray := prog_11_method_15_code
def yX9_sets : MethodName := ⟨RX9, "sets", "(IIII)I"⟩
abbrev cX9_patternAt : ByteArray := prog_11_method_16_code
def yX9_patternAt : MethodName := ⟨RX9, "patternAt", "(II)I"⟩
abbrev cX9_isOpen : ByteArray := prog_11_method_17_code
def yX9_isOpen : MethodName := ⟨RX9, "isOpen", "(II)Z"⟩
abbrev cX9_joinsAt : ByteArray := prog_11_method_18_code
def yX9_joinsAt : MethodName := ⟨RX9, "joinsAt", "(IIIII)I"⟩
abbrev cX9_dot : ByteArray := prog_11_method_19_code
def yX9_dot : MethodName := ⟨RX9, "dot", "(IIII)I"⟩
abbrev cX9_pattern : ByteArray := prog_11_method_20_code
def yX9_pattern : MethodName := ⟨RX9, "pattern", "(II)I"⟩
abbrev cX9_dots : ByteArray := prog_11_method_21_code
def yX9_dots : MethodName := ⟨RX9, "dots", "(I)I"⟩
abbrev cX9_draw : ByteArray := prog_11_method_22_code
def yX9_draw : MethodName := ⟨RX9, "draw", "(II)I"⟩
abbrev cX9_opens : ByteArray := prog_11_method_23_code
def yX9_opens : MethodName := ⟨RX9, "opens", "(IIII)V"⟩
abbrev cX9_opening : ByteArray := prog_11_method_24_code
def yX9_opening : MethodName := ⟨RX9, "opening", "(IIII)I"⟩
abbrev cX9_shuts : ByteArray := prog_11_method_25_code
def yX9_shuts : MethodName := ⟨RX9, "shuts", "()I"⟩
abbrev cX9_closes : ByteArray := prog_11_method_26_code
def yX9_closes : MethodName := ⟨RX9, "closes", "()I"⟩
abbrev cX9_copies : ByteArray := prog_11_method_27_code
def yX9_copies : MethodName := ⟨RX9, "copies", "([I)V"⟩
abbrev cX9_asideAt : ByteArray := prog_11_method_28_code
def yX9_asideAt : MethodName := ⟨RX9, "asideAt", "(III)I"⟩
abbrev cX9_moves : ByteArray := prog_11_method_29_code
def yX9_moves : MethodName := ⟨RX9, "moves", "(IIIIIIIII)I"⟩
abbrev cX9_move : ByteArray := prog_11_method_30_code
def yX9_move : MethodName := ⟨RX9, "move", "(IIIIIIIII)I"⟩
abbrev cX9_size : ByteArray := prog_11_method_31_code
def yX9_size : MethodName := ⟨RX9, "size", "(I)I"⟩
abbrev cX9_by : ByteArray := prog_11_method_32_code
def yX9_by : MethodName := ⟨RX9, "by", "(II)I"⟩
abbrev cX9_lines : ByteArray := prog_11_method_33_code
def yX9_lines : MethodName := ⟨RX9, "lines", "(IIIIII)I"⟩
abbrev cX9_line : ByteArray := prog_11_method_34_code
def yX9_line : MethodName := ⟨RX9, "line", "(IIIIII)I"⟩
abbrev cX9_comes : ByteArray := prog_11_method_35_code
def yX9_comes : MethodName := ⟨RX9, "comes", "(II)V"⟩
abbrev cX9_spreads : ByteArray := prog_11_method_36_code
def yX9_spreads : MethodName := ⟨RX9, "spreads", "(IIIZ)I"⟩
abbrev cX9_noneCame : ByteArray := prog_11_method_37_code
def yX9_noneCame : MethodName := ⟨RX9, "noneCame", "()V"⟩
abbrev cX9_mayFlood : ByteArray := prog_11_method_38_code
def yX9_mayFlood : MethodName := ⟨RX9, "mayFlood", "(II)Z"⟩
abbrev cX9_floods : ByteArray := prog_11_method_39_code
def yX9_floods : MethodName := ⟨RX9, "floods", "(III)I"⟩
abbrev cX9_flood : ByteArray := prog_11_method_40_code
def yX9_flood : MethodName := ⟨RX9, "flood", "(III)I"⟩
abbrev cX9_rectangles : ByteArray := prog_11_method_41_code
def yX9_rectangles : MethodName := ⟨RX9, "rectangles", "(IIIIII)I"⟩
abbrev cX9_rectangle : ByteArray := prog_11_method_42_code
def yX9_rectangle : MethodName := ⟨RX9, "rectangle", "(IIIIII)I"⟩
abbrev cX9_letters : ByteArray := prog_11_method_43_code
def yX9_letters : MethodName := ⟨RX9, "letters", "(IIIII)I"⟩
abbrev cX9_letter : ByteArray := prog_11_method_44_code
def yX9_letter : MethodName := ⟨RX9, "letter", "(IIIII)I"⟩
abbrev cX9_joins : ByteArray := prog_11_method_45_code
def yX9_joins : MethodName := ⟨RX9, "joins", "(III)I"⟩
abbrev cX9_sides : ByteArray := prog_11_method_46_code
def yX9_sides : MethodName := ⟨RX9, "sides", "(III)I"⟩
abbrev cX9_changed : ByteArray := prog_11_method_47_code
def yX9_changed : MethodName := ⟨RX9, "changed", "(IIII)I"⟩
abbrev cX9_changes : ByteArray := prog_11_method_48_code
def yX9_changes : MethodName := ⟨RX9, "changes", "(II)I"⟩
abbrev cX9_rolls : ByteArray := prog_11_method_49_code
def yX9_rolls : MethodName := ⟨RX9, "rolls", "(III)I"⟩
abbrev cX9_at : ByteArray := prog_11_method_50_code
def yX9_at : MethodName := ⟨RX9, "at", "(III)I"⟩
abbrev cX9_row : ByteArray := prog_11_method_51_code
def yX9_row : MethodName := ⟨RX9, "row", "(II)I"⟩
abbrev cX9_partsOf : ByteArray := prog_11_method_52_code
def yX9_partsOf : MethodName := ⟨RX9, "partsOf", "(I)I"⟩
abbrev cX9_edge : ByteArray := prog_11_method_53_code
def yX9_edge : MethodName := ⟨RX9, "edge", "(IZZ)I"⟩
abbrev cX9_openDots : ByteArray := prog_11_method_54_code
def yX9_openDots : MethodName := ⟨RX9, "openDots", "()I"⟩
abbrev cX9_of : ByteArray := prog_11_method_55_code
def yX9_of : MethodName := ⟨RX9, "of", "(II)I"⟩
abbrev cX9_count : ByteArray := prog_11_method_56_code
def yX9_count : MethodName := ⟨RX9, "count", "(IIIII)I"⟩
abbrev cX9_unlike : ByteArray := prog_11_method_57_code
def yX9_unlike : MethodName := ⟨RX9, "unlike", "(II)I"⟩
abbrev cX9_isLike : ByteArray := prog_11_method_58_code
def yX9_isLike : MethodName := ⟨RX9, "isLike", "(IIIIIIII)Z"⟩
abbrev cX9_finds : ByteArray := prog_11_method_59_code
def yX9_finds : MethodName := ⟨RX9, "finds", "(IIIIII)I"⟩
abbrev cX9_open : ByteArray := prog_11_method_60_code
def yX9_open : MethodName := ⟨RX9, "open", "(II)I"⟩
abbrev cX9_type : ByteArray := prog_11_method_61_code
def yX9_type : MethodName := ⟨RX9, "type", "(I)I"⟩
abbrev cX9_clear : ByteArray := prog_11_method_62_code
def yX9_clear : MethodName := ⟨RX9, "clear", "()I"⟩
abbrev cX9_skip : ByteArray := prog_11_method_63_code
def yX9_skip : MethodName := ⟨RX9, "skip", "()V"⟩
abbrev cX9_isByte : ByteArray := prog_11_method_64_code
def yX9_isByte : MethodName := ⟨RX9, "isByte", "(III)Z"⟩
abbrev cX9_sortsOf : ByteArray := prog_11_method_65_code
def yX9_sortsOf : MethodName := ⟨RX9, "sortsOf", "(I)I"⟩
abbrev cX9_manyOf : ByteArray := prog_11_method_66_code
def yX9_manyOf : MethodName := ⟨RX9, "manyOf", "(I)I"⟩
abbrev cX9_isAs : ByteArray := prog_11_method_67_code
def yX9_isAs : MethodName := ⟨RX9, "isAs", "(II)Z"⟩
abbrev cX9_takes : ByteArray := prog_11_method_68_code
def yX9_takes : MethodName := ⟨RX9, "takes", "(II)Z"⟩
abbrev cX9_reads : ByteArray := prog_11_method_69_code
def yX9_reads : MethodName := ⟨RX9, "reads", "(I)I"⟩
abbrev cX9_doesOne : ByteArray := prog_11_method_70_code
def yX9_doesOne : MethodName := ⟨RX9, "doesOne", "(I)I"⟩
abbrev cX9_goesThrough : ByteArray := prog_11_method_71_code
def yX9_goesThrough : MethodName := ⟨RX9, "goesThrough", "(Z)I"⟩
abbrev cX9_does : ByteArray := prog_11_method_72_code
def yX9_does : MethodName := ⟨RX9, "does", "()I"⟩
abbrev cX9_back : ByteArray := prog_11_method_73_code
def yX9_back : MethodName := ⟨RX9, "back", "()I"⟩
abbrev cX9_toldOf : ByteArray := prog_11_method_74_code
def yX9_toldOf : MethodName := ⟨RX9, "toldOf", "(I)I"⟩
abbrev cX9_told : ByteArray := prog_11_method_75_code
def yX9_told : MethodName := ⟨RX9, "told", "(I)I"⟩
abbrev cX9_digest : ByteArray := prog_11_method_76_code
def yX9_digest : MethodName := ⟨RX9, "digest", "()J"⟩
def RJx145de : String := "java/io/Serializable"
def TJx145de : u_T := fun k => match k with
  | _ => ("", "", "", false)
def tyJx145de : Nat → FieldType := fun k => match k with
  | _ => .int
abbrev wsJx145de0 : List Cond := u_ws RJx145de TJx145de 0
theorem nmJx145de : ∀ a, a < 0 → ∀ b, b < 0 → a ≠ b → (TJx145de a).2.1 ≠ (TJx145de b).2.1 := by decide +kernel
theorem tyJx145de_ok : ∀ k, k < 0 → parseFieldDescriptor (TJx145de k).2.2.1 = some (tyJx145de k) := by decide +kernel
def RJx9f9b0 : String := "java/lang/CharSequence"
def TJx9f9b0 : u_T := fun k => match k with
  | _ => ("", "", "", false)
def tyJx9f9b0 : Nat → FieldType := fun k => match k with
  | _ => .int
abbrev wsJx9f9b00 : List Cond := u_ws RJx9f9b0 TJx9f9b0 0
theorem nmJx9f9b0 : ∀ a, a < 0 → ∀ b, b < 0 → a ≠ b → (TJx9f9b0 a).2.1 ≠ (TJx9f9b0 b).2.1 := by decide +kernel
theorem tyJx9f9b0_ok : ∀ k, k < 0 → parseFieldDescriptor (TJx9f9b0 k).2.2.1 = some (tyJx9f9b0 k) := by decide +kernel
def RJxb160c : String := "java/lang/Comparable"
def TJxb160c : u_T := fun k => match k with
  | _ => ("", "", "", false)
def tyJxb160c : Nat → FieldType := fun k => match k with
  | _ => .int
abbrev wsJxb160c0 : List Cond := u_ws RJxb160c TJxb160c 0
theorem nmJxb160c : ∀ a, a < 0 → ∀ b, b < 0 → a ≠ b → (TJxb160c a).2.1 ≠ (TJxb160c b).2.1 := by decide +kernel
theorem tyJxb160c_ok : ∀ k, k < 0 → parseFieldDescriptor (TJxb160c k).2.2.1 = some (tyJxb160c k) := by decide +kernel
def RJ6 : String := "java/lang/Integer"
def TJ6 : u_T := fun k => match k with
  | _ => ("", "", "", false)
def tyJ6 : Nat → FieldType := fun k => match k with
  | _ => .int
abbrev wsJ60 : List Cond := u_ws RJ6 TJ6 0
theorem nmJ6 : ∀ a, a < 0 → ∀ b, b < 0 → a ≠ b → (TJ6 a).2.1 ≠ (TJ6 b).2.1 := by decide +kernel
theorem tyJ6_ok : ∀ k, k < 0 → parseFieldDescriptor (TJ6 k).2.2.1 = some (tyJ6 k) := by decide +kernel
abbrev cJ6_bitCount_0f7a4 : ByteArray := prog_12_method_49_code
def yJ6_bitCount_0f7a4 : MethodName := ⟨RJ6, "bitCount", "(I)I"⟩
def RJ9 : String := "java/lang/Math"
def TJ9 : u_T := fun k => match k with
  | _ => ("", "", "", false)
def tyJ9 : Nat → FieldType := fun k => match k with
  | _ => .int
abbrev wsJ90 : List Cond := u_ws RJ9 TJ9 0
theorem nmJ9 : ∀ a, a < 0 → ∀ b, b < 0 → a ≠ b → (TJ9 a).2.1 ≠ (TJ9 b).2.1 := by decide +kernel
theorem tyJ9_ok : ∀ k, k < 0 → parseFieldDescriptor (TJ9 k).2.2.1 = some (tyJ9 k) := by decide +kernel
abbrev cJ9_floorDiv_7cf53 : ByteArray := prog_13_method_47_code
def yJ9_floorDiv_7cf53 : MethodName := ⟨RJ9, "floorDiv", "(II)I"⟩
abbrev cJ9_floorMod_7cf53 : ByteArray := prog_13_method_50_code
def yJ9_floorMod_7cf53 : MethodName := ⟨RJ9, "floorMod", "(II)I"⟩
abbrev cJ9_abs_0f7a4 : ByteArray := prog_13_method_59_code
def yJ9_abs_0f7a4 : MethodName := ⟨RJ9, "abs", "(I)I"⟩
abbrev cJ9_max_7cf53 : ByteArray := prog_13_method_65_code
def yJ9_max_7cf53 : MethodName := ⟨RJ9, "max", "(II)I"⟩
abbrev cJ9_min_7cf53 : ByteArray := prog_13_method_69_code
def yJ9_min_7cf53 : MethodName := ⟨RJ9, "min", "(II)I"⟩
def RJ0 : String := "java/lang/String"
def TJ0 : u_T := fun k => match k with
  | _ => ("", "", "", false)
def tyJ0 : Nat → FieldType := fun k => match k with
  | _ => .int
abbrev wsJ00 : List Cond := u_ws RJ0 TJ0 0
theorem nmJ0 : ∀ a, a < 0 → ∀ b, b < 0 → a ≠ b → (TJ0 a).2.1 ≠ (TJ0 b).2.1 := by decide +kernel
theorem tyJ0_ok : ∀ k, k < 0 → parseFieldDescriptor (TJ0 k).2.2.1 = some (tyJ0 k) := by decide +kernel
abbrev cJ0_length_8abf5 : ByteArray := prog_14_method_54_code
def yJ0_length_8abf5 : MethodName := ⟨RJ0, "length", "()I"⟩
abbrev cJ0_isEmpty_aae02 : ByteArray := prog_14_method_55_code
def yJ0_isEmpty_aae02 : MethodName := ⟨RJ0, "isEmpty", "()Z"⟩
abbrev cJ0_charAt_5068e : ByteArray := prog_14_method_56_code
def yJ0_charAt_5068e : MethodName := ⟨RJ0, "charAt", "(I)C"⟩
abbrev cJ0_coder_7d493 : ByteArray := prog_14_method_152_code
def yJ0_coder_7d493 : MethodName := ⟨RJ0, "coder", "()B"⟩
abbrev cJ0_isLatin1_aae02 : ByteArray := prog_14_method_154_code
def yJ0_isLatin1_aae02 : MethodName := ⟨RJ0, "isLatin1", "()Z"⟩
abbrev cJ0_checkIndex_df160 : ByteArray := prog_14_method_155_code
def yJ0_checkIndex_df160 : MethodName := ⟨RJ0, "checkIndex", "(II)V"⟩
def RJ1 : String := "java/lang/StringLatin1"
def TJ1 : u_T := fun k => match k with
  | _ => ("", "", "", false)
def tyJ1 : Nat → FieldType := fun k => match k with
  | _ => .int
abbrev wsJ10 : List Cond := u_ws RJ1 TJ1 0
theorem nmJ1 : ∀ a, a < 0 → ∀ b, b < 0 → a ≠ b → (TJ1 a).2.1 ≠ (TJ1 b).2.1 := by decide +kernel
theorem tyJ1_ok : ∀ k, k < 0 → parseFieldDescriptor (TJ1 k).2.2.1 = some (tyJ1 k) := by decide +kernel
abbrev cJ1_charAt_3b067 : ByteArray := prog_15_method_2_code
def yJ1_charAt_3b067 : MethodName := ⟨RJ1, "charAt", "([BI)C"⟩
def RJ2 : String := "java/lang/StringUTF16"
def TJ2 : u_T := fun k => match k with
  | _ => ("", "", "", false)
def tyJ2 : Nat → FieldType := fun k => match k with
  | _ => .int
abbrev wsJ20 : List Cond := u_ws RJ2 TJ2 0
theorem nmJ2 : ∀ a, a < 0 → ∀ b, b < 0 → a ≠ b → (TJ2 a).2.1 ≠ (TJ2 b).2.1 := by decide +kernel
theorem tyJ2_ok : ∀ k, k < 0 → parseFieldDescriptor (TJ2 k).2.2.1 = some (tyJ2 k) := by decide +kernel
abbrev cJ2_getChar_3b067 : ByteArray := prog_16_method_5_code
def yJ2_getChar_3b067 : MethodName := ⟨RJ2, "getChar", "([BI)C"⟩
abbrev cJ2_length_9d52b : ByteArray := prog_16_method_6_code
def yJ2_length_9d52b : MethodName := ⟨RJ2, "length", "([B)I"⟩
abbrev cJ2_charAt_3b067 : ByteArray := prog_16_method_83_code
def yJ2_charAt_3b067 : MethodName := ⟨RJ2, "charAt", "([BI)C"⟩
abbrev cJ2_checkIndex_2214a : ByteArray := prog_16_method_91_code
def yJ2_checkIndex_2214a : MethodName := ⟨RJ2, "checkIndex", "(I[B)V"⟩
def RJ10 : String := "java/lang/System"
def TJ10 : u_T := fun k => match k with
  | _ => ("", "", "", false)
def tyJ10 : Nat → FieldType := fun k => match k with
  | _ => .int
abbrev wsJ100 : List Cond := u_ws RJ10 TJ10 0
theorem nmJ10 : ∀ a, a < 0 → ∀ b, b < 0 → a ≠ b → (TJ10 a).2.1 ≠ (TJ10 b).2.1 := by decide +kernel
theorem tyJ10_ok : ∀ k, k < 0 → parseFieldDescriptor (TJ10 k).2.2.1 = some (tyJ10 k) := by decide +kernel
def RJxfd54e : String := "java/lang/constant/Constable"
def TJxfd54e : u_T := fun k => match k with
  | _ => ("", "", "", false)
def tyJxfd54e : Nat → FieldType := fun k => match k with
  | _ => .int
abbrev wsJxfd54e0 : List Cond := u_ws RJxfd54e TJxfd54e 0
theorem nmJxfd54e : ∀ a, a < 0 → ∀ b, b < 0 → a ≠ b → (TJxfd54e a).2.1 ≠ (TJxfd54e b).2.1 := by decide +kernel
theorem tyJxfd54e_ok : ∀ k, k < 0 → parseFieldDescriptor (TJxfd54e k).2.2.1 = some (tyJxfd54e k) := by decide +kernel
def RJx3cf43 : String := "java/lang/constant/ConstantDesc"
def TJx3cf43 : u_T := fun k => match k with
  | _ => ("", "", "", false)
def tyJx3cf43 : Nat → FieldType := fun k => match k with
  | _ => .int
abbrev wsJx3cf430 : List Cond := u_ws RJx3cf43 TJx3cf43 0
theorem nmJx3cf43 : ∀ a, a < 0 → ∀ b, b < 0 → a ≠ b → (TJx3cf43 a).2.1 ≠ (TJx3cf43 b).2.1 := by decide +kernel
theorem tyJx3cf43_ok : ∀ k, k < 0 → parseFieldDescriptor (TJx3cf43 k).2.2.1 = some (tyJx3cf43 k) := by decide +kernel
def RJ7 : String := "java/util/Arrays"
def TJ7 : u_T := fun k => match k with
  | _ => ("", "", "", false)
def tyJ7 : Nat → FieldType := fun k => match k with
  | _ => .int
abbrev wsJ70 : List Cond := u_ws RJ7 TJ7 0
theorem nmJ7 : ∀ a, a < 0 → ∀ b, b < 0 → a ≠ b → (TJ7 a).2.1 ≠ (TJ7 b).2.1 := by decide +kernel
theorem tyJ7_ok : ∀ k, k < 0 → parseFieldDescriptor (TJ7 k).2.2.1 = some (tyJ7 k) := by decide +kernel
abbrev cJ7_fill_53178 : ByteArray := prog_18_method_103_code
def yJ7_fill_53178 : MethodName := ⟨RJ7, "fill", "([II)V"⟩
def RJ3 : String := "jdk/internal/util/Preconditions"
def TJ3 : u_T := fun k => match k with
  | _ => ("", "", "", false)
def tyJ3 : Nat → FieldType := fun k => match k with
  | _ => .int
abbrev wsJ30 : List Cond := u_ws RJ3 TJ3 0
theorem nmJ3 : ∀ a, a < 0 → ∀ b, b < 0 → a ≠ b → (TJ3 a).2.1 ≠ (TJ3 b).2.1 := by decide +kernel
theorem tyJ3_ok : ∀ k, k < 0 → parseFieldDescriptor (TJ3 k).2.2.1 = some (tyJ3 k) := by decide +kernel
abbrev cJ3_checkIndex_8e157 : ByteArray := prog_19_method_11_code
def yJ3_checkIndex_8e157 : MethodName := ⟨RJ3, "checkIndex", "(IILjava/util/function/BiFunction;)I"⟩
def RL : String := "PictureMovesLaw"
abbrev cL_law : ByteArray := code
def yL_law : MethodName := ⟨RL, "law", "([I)Z"⟩
abbrev vwCl : List vw_C := [(RX0, TX0, 3), (RX1, TX1, 5), (RX2, TX2, 4), (RX3, TX3, 4), (RX4, TX4, 4), (RX5, TX5, 3), (RX6, TX6, 4), (RX7, TX7, 2), (RX8, TX8, 10), (RX9, TX9, 12)]
end
section
theorem dX0_init_0 : decode cX0_init 0 = .ok (.aload_n 0, 1) := by decide +kernel
theorem dX0_init_1 : decode cX0_init 1 = .ok (.invokespecial 3, 3) := by decide +kernel
theorem dX0_init_4 : decode cX0_init 4 = .ok (.aload_n 0, 1) := by decide +kernel
theorem dX0_init_5 : decode cX0_init 5 = .ok (.bipush 8, 2) := by decide +kernel
theorem dX0_init_7 : decode cX0_init 7 = .ok (.newarray .int, 2) := by decide +kernel
theorem dX0_init_9 : decode cX0_init 9 = .ok (.putfield 9, 3) := by decide +kernel
theorem dX0_init_12 : decode cX0_init 12 = .ok (.aload_n 0, 1) := by decide +kernel
theorem dX0_init_13 : decode cX0_init 13 = .ok (.aload_n 1, 1) := by decide +kernel
theorem dX0_init_14 : decode cX0_init 14 = .ok (.putfield 15, 3) := by decide +kernel
theorem dX0_init_17 : decode cX0_init 17 = .ok (.aload_n 0, 1) := by decide +kernel
theorem dX0_init_18 : decode cX0_init 18 = .ok (.aload_n 2, 1) := by decide +kernel
theorem dX0_init_19 : decode cX0_init 19 = .ok (.putfield 19, 3) := by decide +kernel
theorem dX0_init_22 : decode cX0_init 22 = .ok (.return_, 1) := by decide +kernel
theorem dX0_measured_0 : decode cX0_measured 0 = .ok (.iload_n 2, 1) := by decide +kernel
theorem dX0_measured_1 : decode cX0_measured 1 = .ok (.tableswitch 75 0 5 #[39, 45, 51, 57, 63, 69], 39) := by decide +kernel
theorem dX0_measured_40 : decode cX0_measured 40 = .ok (.aload_n 0, 1) := by decide +kernel
theorem dX0_measured_41 : decode cX0_measured 41 = .ok (.iload_n 1, 1) := by decide +kernel
theorem dX0_measured_42 : decode cX0_measured 42 = .ok (.invokevirtual 23, 3) := by decide +kernel
theorem dX0_measured_45 : decode cX0_measured 45 = .ok (.ireturn, 1) := by decide +kernel
theorem dX0_measured_46 : decode cX0_measured 46 = .ok (.aload_n 0, 1) := by decide +kernel
theorem dX0_measured_47 : decode cX0_measured 47 = .ok (.iload_n 1, 1) := by decide +kernel
theorem dX0_measured_48 : decode cX0_measured 48 = .ok (.invokevirtual 27, 3) := by decide +kernel
theorem dX0_measured_51 : decode cX0_measured 51 = .ok (.ireturn, 1) := by decide +kernel
theorem dX0_measured_52 : decode cX0_measured 52 = .ok (.aload_n 0, 1) := by decide +kernel
theorem dX0_measured_53 : decode cX0_measured 53 = .ok (.iload_n 1, 1) := by decide +kernel
theorem dX0_measured_54 : decode cX0_measured 54 = .ok (.invokevirtual 30, 3) := by decide +kernel
theorem dX0_measured_57 : decode cX0_measured 57 = .ok (.ireturn, 1) := by decide +kernel
theorem dX0_measured_58 : decode cX0_measured 58 = .ok (.aload_n 0, 1) := by decide +kernel
theorem dX0_measured_59 : decode cX0_measured 59 = .ok (.iload_n 1, 1) := by decide +kernel
theorem dX0_measured_60 : decode cX0_measured 60 = .ok (.invokevirtual 33, 3) := by decide +kernel
theorem dX0_measured_63 : decode cX0_measured 63 = .ok (.ireturn, 1) := by decide +kernel
theorem dX0_measured_64 : decode cX0_measured 64 = .ok (.aload_n 0, 1) := by decide +kernel
theorem dX0_measured_65 : decode cX0_measured 65 = .ok (.iload_n 1, 1) := by decide +kernel
theorem dX0_measured_66 : decode cX0_measured 66 = .ok (.invokevirtual 36, 3) := by decide +kernel
theorem dX0_measured_69 : decode cX0_measured 69 = .ok (.ireturn, 1) := by decide +kernel
theorem dX0_measured_70 : decode cX0_measured 70 = .ok (.aload_n 0, 1) := by decide +kernel
theorem dX0_measured_71 : decode cX0_measured 71 = .ok (.iload_n 1, 1) := by decide +kernel
theorem dX0_measured_72 : decode cX0_measured 72 = .ok (.invokevirtual 39, 3) := by decide +kernel
theorem dX0_measured_75 : decode cX0_measured 75 = .ok (.ireturn, 1) := by decide +kernel
theorem dX0_measured_76 : decode cX0_measured 76 = .ok (.aload_n 0, 1) := by decide +kernel
theorem dX0_measured_77 : decode cX0_measured 77 = .ok (.invokevirtual 42, 3) := by decide +kernel
theorem dX0_measured_80 : decode cX0_measured 80 = .ok (.ireturn, 1) := by decide +kernel
theorem dX0_ones_0 : decode cX0_ones 0 = .ok (.aload_n 0, 1) := by decide +kernel
theorem dX0_ones_1 : decode cX0_ones 1 = .ok (.iload_n 1, 1) := by decide +kernel
theorem dX0_ones_2 : decode cX0_ones 2 = .ok (.iconst 0, 1) := by decide +kernel
theorem dX0_ones_3 : decode cX0_ones 3 = .ok (.iconst 0, 1) := by decide +kernel
theorem dX0_ones_4 : decode cX0_ones 4 = .ok (.bipush 32, 2) := by decide +kernel
theorem dX0_ones_6 : decode cX0_ones 6 = .ok (.bipush 24, 2) := by decide +kernel
theorem dX0_ones_8 : decode cX0_ones 8 = .ok (.invokevirtual 46, 3) := by decide +kernel
theorem dX0_ones_11 : decode cX0_ones 11 = .ok (.ireturn, 1) := by decide +kernel
theorem dX0_onesWithin_0 : decode cX0_onesWithin 0 = .ok (.iload_n 2, 1) := by decide +kernel
theorem dX0_onesWithin_1 : decode cX0_onesWithin 1 = .ok (.iload 4, 2) := by decide +kernel
theorem dX0_onesWithin_3 : decode cX0_onesWithin 3 = .ok (.invokestatic 50, 3) := by decide +kernel
theorem dX0_onesWithin_6 : decode cX0_onesWithin 6 = .ok (.istore 6, 2) := by decide +kernel
theorem dX0_onesWithin_8 : decode cX0_onesWithin 8 = .ok (.iconst 0, 1) := by decide +kernel
theorem dX0_onesWithin_9 : decode cX0_onesWithin 9 = .ok (.istore 7, 2) := by decide +kernel
theorem dX0_onesWithin_11 : decode cX0_onesWithin 11 = .ok (.iconst 0, 1) := by decide +kernel
theorem dX0_onesWithin_12 : decode cX0_onesWithin 12 = .ok (.istore 8, 2) := by decide +kernel
theorem dX0_onesWithin_14 : decode cX0_onesWithin 14 = .ok (.iload 8, 2) := by decide +kernel
theorem dX0_onesWithin_16 : decode cX0_onesWithin 16 = .ok (.iload 5, 2) := by decide +kernel
theorem dX0_onesWithin_18 : decode cX0_onesWithin 18 = .ok (.if_icmp .ge 39, 3) := by decide +kernel
theorem dX0_onesWithin_21 : decode cX0_onesWithin 21 = .ok (.iload 8, 2) := by decide +kernel
theorem dX0_onesWithin_23 : decode cX0_onesWithin 23 = .ok (.bipush 64, 2) := by decide +kernel
theorem dX0_onesWithin_25 : decode cX0_onesWithin 25 = .ok (.if_icmp .ge 32, 3) := by decide +kernel
theorem dX0_onesWithin_28 : decode cX0_onesWithin 28 = .ok (.iload 7, 2) := by decide +kernel
theorem dX0_onesWithin_30 : decode cX0_onesWithin 30 = .ok (.aload_n 0, 1) := by decide +kernel
theorem dX0_onesWithin_31 : decode cX0_onesWithin 31 = .ok (.getfield 15, 3) := by decide +kernel
theorem dX0_onesWithin_34 : decode cX0_onesWithin 34 = .ok (.iload_n 1, 1) := by decide +kernel
theorem dX0_onesWithin_35 : decode cX0_onesWithin 35 = .ok (.iload_n 3, 1) := by decide +kernel
theorem dX0_onesWithin_36 : decode cX0_onesWithin 36 = .ok (.iload 8, 2) := by decide +kernel
theorem dX0_onesWithin_38 : decode cX0_onesWithin 38 = .ok (.iadd, 1) := by decide +kernel
theorem dX0_onesWithin_39 : decode cX0_onesWithin 39 = .ok (.invokevirtual 54, 3) := by decide +kernel
theorem dX0_onesWithin_42 : decode cX0_onesWithin 42 = .ok (.iload 6, 2) := by decide +kernel
theorem dX0_onesWithin_44 : decode cX0_onesWithin 44 = .ok (.iand, 1) := by decide +kernel
theorem dX0_onesWithin_45 : decode cX0_onesWithin 45 = .ok (.invokestatic 59, 3) := by decide +kernel
theorem dX0_onesWithin_48 : decode cX0_onesWithin 48 = .ok (.iadd, 1) := by decide +kernel
theorem dX0_onesWithin_49 : decode cX0_onesWithin 49 = .ok (.istore 7, 2) := by decide +kernel
theorem dX0_onesWithin_51 : decode cX0_onesWithin 51 = .ok (.iinc 8 1, 3) := by decide +kernel
theorem dX0_onesWithin_54 : decode cX0_onesWithin 54 = .ok (.goto (-40), 3) := by decide +kernel
theorem dX0_onesWithin_57 : decode cX0_onesWithin 57 = .ok (.iload 7, 2) := by decide +kernel
theorem dX0_onesWithin_59 : decode cX0_onesWithin 59 = .ok (.ireturn, 1) := by decide +kernel
theorem dX0_unlikeDots_0 : decode cX0_unlikeDots 0 = .ok (.iconst 0, 1) := by decide +kernel
theorem dX0_unlikeDots_1 : decode cX0_unlikeDots 1 = .ok (.istore_n 3, 1) := by decide +kernel
theorem dX0_unlikeDots_2 : decode cX0_unlikeDots 2 = .ok (.iconst 0, 1) := by decide +kernel
theorem dX0_unlikeDots_3 : decode cX0_unlikeDots 3 = .ok (.istore 4, 2) := by decide +kernel
theorem dX0_unlikeDots_5 : decode cX0_unlikeDots 5 = .ok (.iload 4, 2) := by decide +kernel
theorem dX0_unlikeDots_7 : decode cX0_unlikeDots 7 = .ok (.bipush 24, 2) := by decide +kernel
theorem dX0_unlikeDots_9 : decode cX0_unlikeDots 9 = .ok (.if_icmp .ge 36, 3) := by decide +kernel
theorem dX0_unlikeDots_12 : decode cX0_unlikeDots 12 = .ok (.iload_n 3, 1) := by decide +kernel
theorem dX0_unlikeDots_13 : decode cX0_unlikeDots 13 = .ok (.aload_n 0, 1) := by decide +kernel
theorem dX0_unlikeDots_14 : decode cX0_unlikeDots 14 = .ok (.getfield 15, 3) := by decide +kernel
theorem dX0_unlikeDots_17 : decode cX0_unlikeDots 17 = .ok (.iload_n 1, 1) := by decide +kernel
theorem dX0_unlikeDots_18 : decode cX0_unlikeDots 18 = .ok (.iload 4, 2) := by decide +kernel
theorem dX0_unlikeDots_20 : decode cX0_unlikeDots 20 = .ok (.invokevirtual 54, 3) := by decide +kernel
theorem dX0_unlikeDots_23 : decode cX0_unlikeDots 23 = .ok (.aload_n 0, 1) := by decide +kernel
theorem dX0_unlikeDots_24 : decode cX0_unlikeDots 24 = .ok (.getfield 15, 3) := by decide +kernel
theorem dX0_unlikeDots_27 : decode cX0_unlikeDots 27 = .ok (.iload_n 2, 1) := by decide +kernel
theorem dX0_unlikeDots_28 : decode cX0_unlikeDots 28 = .ok (.iload 4, 2) := by decide +kernel
theorem dX0_unlikeDots_30 : decode cX0_unlikeDots 30 = .ok (.invokevirtual 54, 3) := by decide +kernel
theorem dX0_unlikeDots_33 : decode cX0_unlikeDots 33 = .ok (.ixor, 1) := by decide +kernel
theorem dX0_unlikeDots_34 : decode cX0_unlikeDots 34 = .ok (.invokestatic 59, 3) := by decide +kernel
theorem dX0_unlikeDots_37 : decode cX0_unlikeDots 37 = .ok (.iadd, 1) := by decide +kernel
theorem dX0_unlikeDots_38 : decode cX0_unlikeDots 38 = .ok (.istore_n 3, 1) := by decide +kernel
theorem dX0_unlikeDots_39 : decode cX0_unlikeDots 39 = .ok (.iinc 4 1, 3) := by decide +kernel
theorem dX0_unlikeDots_42 : decode cX0_unlikeDots 42 = .ok (.goto (-37), 3) := by decide +kernel
theorem dX0_unlikeDots_45 : decode cX0_unlikeDots 45 = .ok (.iload_n 3, 1) := by decide +kernel
theorem dX0_unlikeDots_46 : decode cX0_unlikeDots 46 = .ok (.ireturn, 1) := by decide +kernel
theorem dX0_takesBlock_0 : decode cX0_takesBlock 0 = .ok (.iconst 0, 1) := by decide +kernel
theorem dX0_takesBlock_1 : decode cX0_takesBlock 1 = .ok (.istore 5, 2) := by decide +kernel
theorem dX0_takesBlock_3 : decode cX0_takesBlock 3 = .ok (.iload 5, 2) := by decide +kernel
theorem dX0_takesBlock_5 : decode cX0_takesBlock 5 = .ok (.iload 4, 2) := by decide +kernel
theorem dX0_takesBlock_7 : decode cX0_takesBlock 7 = .ok (.if_icmp .ge 40, 3) := by decide +kernel
theorem dX0_takesBlock_10 : decode cX0_takesBlock 10 = .ok (.iload 5, 2) := by decide +kernel
theorem dX0_takesBlock_12 : decode cX0_takesBlock 12 = .ok (.bipush 8, 2) := by decide +kernel
theorem dX0_takesBlock_14 : decode cX0_takesBlock 14 = .ok (.if_icmp .ge 33, 3) := by decide +kernel
theorem dX0_takesBlock_17 : decode cX0_takesBlock 17 = .ok (.aload_n 0, 1) := by decide +kernel
theorem dX0_takesBlock_18 : decode cX0_takesBlock 18 = .ok (.getfield 9, 3) := by decide +kernel
theorem dX0_takesBlock_21 : decode cX0_takesBlock 21 = .ok (.iload 5, 2) := by decide +kernel
theorem dX0_takesBlock_23 : decode cX0_takesBlock 23 = .ok (.aload_n 0, 1) := by decide +kernel
theorem dX0_takesBlock_24 : decode cX0_takesBlock 24 = .ok (.getfield 15, 3) := by decide +kernel
theorem dX0_takesBlock_27 : decode cX0_takesBlock 27 = .ok (.iload_n 1, 1) := by decide +kernel
theorem dX0_takesBlock_28 : decode cX0_takesBlock 28 = .ok (.iload_n 3, 1) := by decide +kernel
theorem dX0_takesBlock_29 : decode cX0_takesBlock 29 = .ok (.iload 5, 2) := by decide +kernel
theorem dX0_takesBlock_31 : decode cX0_takesBlock 31 = .ok (.iadd, 1) := by decide +kernel
theorem dX0_takesBlock_32 : decode cX0_takesBlock 32 = .ok (.invokevirtual 54, 3) := by decide +kernel
theorem dX0_takesBlock_35 : decode cX0_takesBlock 35 = .ok (.iload_n 2, 1) := by decide +kernel
theorem dX0_takesBlock_36 : decode cX0_takesBlock 36 = .ok (.ineg, 1) := by decide +kernel
theorem dX0_takesBlock_37 : decode cX0_takesBlock 37 = .ok (.invokestatic 64, 3) := by decide +kernel
theorem dX0_takesBlock_40 : decode cX0_takesBlock 40 = .ok (.iastore, 1) := by decide +kernel
theorem dX0_takesBlock_41 : decode cX0_takesBlock 41 = .ok (.iinc 5 1, 3) := by decide +kernel
theorem dX0_takesBlock_44 : decode cX0_takesBlock 44 = .ok (.goto (-41), 3) := by decide +kernel
theorem dX0_takesBlock_47 : decode cX0_takesBlock 47 = .ok (.return_, 1) := by decide +kernel
theorem dX0_placesOfBlock_0 : decode cX0_placesOfBlock 0 = .ok (.iconst 0, 1) := by decide +kernel
theorem dX0_placesOfBlock_1 : decode cX0_placesOfBlock 1 = .ok (.istore 4, 2) := by decide +kernel
theorem dX0_placesOfBlock_3 : decode cX0_placesOfBlock 3 = .ok (.iconst 0, 1) := by decide +kernel
theorem dX0_placesOfBlock_4 : decode cX0_placesOfBlock 4 = .ok (.istore 5, 2) := by decide +kernel
theorem dX0_placesOfBlock_6 : decode cX0_placesOfBlock 6 = .ok (.iload 5, 2) := by decide +kernel
theorem dX0_placesOfBlock_8 : decode cX0_placesOfBlock 8 = .ok (.bipush 24, 2) := by decide +kernel
theorem dX0_placesOfBlock_10 : decode cX0_placesOfBlock 10 = .ok (.iload_n 3, 1) := by decide +kernel
theorem dX0_placesOfBlock_11 : decode cX0_placesOfBlock 11 = .ok (.isub, 1) := by decide +kernel
theorem dX0_placesOfBlock_12 : decode cX0_placesOfBlock 12 = .ok (.if_icmp .gt 82, 3) := by decide +kernel
theorem dX0_placesOfBlock_15 : decode cX0_placesOfBlock 15 = .ok (.iconst 0, 1) := by decide +kernel
theorem dX0_placesOfBlock_16 : decode cX0_placesOfBlock 16 = .ok (.bipush 32, 2) := by decide +kernel
theorem dX0_placesOfBlock_18 : decode cX0_placesOfBlock 18 = .ok (.iload_n 2, 1) := by decide +kernel
theorem dX0_placesOfBlock_19 : decode cX0_placesOfBlock 19 = .ok (.isub, 1) := by decide +kernel
theorem dX0_placesOfBlock_20 : decode cX0_placesOfBlock 20 = .ok (.iconst 1, 1) := by decide +kernel
theorem dX0_placesOfBlock_21 : decode cX0_placesOfBlock 21 = .ok (.iadd, 1) := by decide +kernel
theorem dX0_placesOfBlock_22 : decode cX0_placesOfBlock 22 = .ok (.invokestatic 50, 3) := by decide +kernel
theorem dX0_placesOfBlock_25 : decode cX0_placesOfBlock 25 = .ok (.istore 6, 2) := by decide +kernel
theorem dX0_placesOfBlock_27 : decode cX0_placesOfBlock 27 = .ok (.iconst 0, 1) := by decide +kernel
theorem dX0_placesOfBlock_28 : decode cX0_placesOfBlock 28 = .ok (.istore 7, 2) := by decide +kernel
theorem dX0_placesOfBlock_30 : decode cX0_placesOfBlock 30 = .ok (.iload 7, 2) := by decide +kernel
theorem dX0_placesOfBlock_32 : decode cX0_placesOfBlock 32 = .ok (.iload_n 3, 1) := by decide +kernel
theorem dX0_placesOfBlock_33 : decode cX0_placesOfBlock 33 = .ok (.if_icmp .ge 45, 3) := by decide +kernel
theorem dX0_placesOfBlock_36 : decode cX0_placesOfBlock 36 = .ok (.iload 7, 2) := by decide +kernel
theorem dX0_placesOfBlock_38 : decode cX0_placesOfBlock 38 = .ok (.bipush 8, 2) := by decide +kernel
theorem dX0_placesOfBlock_40 : decode cX0_placesOfBlock 40 = .ok (.if_icmp .ge 38, 3) := by decide +kernel
theorem dX0_placesOfBlock_43 : decode cX0_placesOfBlock 43 = .ok (.iload 6, 2) := by decide +kernel
theorem dX0_placesOfBlock_45 : decode cX0_placesOfBlock 45 = .ok (.aload_n 0, 1) := by decide +kernel
theorem dX0_placesOfBlock_46 : decode cX0_placesOfBlock 46 = .ok (.getfield 15, 3) := by decide +kernel
theorem dX0_placesOfBlock_49 : decode cX0_placesOfBlock 49 = .ok (.iload_n 1, 1) := by decide +kernel
theorem dX0_placesOfBlock_50 : decode cX0_placesOfBlock 50 = .ok (.iload 5, 2) := by decide +kernel
theorem dX0_placesOfBlock_52 : decode cX0_placesOfBlock 52 = .ok (.iload 7, 2) := by decide +kernel
theorem dX0_placesOfBlock_54 : decode cX0_placesOfBlock 54 = .ok (.iadd, 1) := by decide +kernel
theorem dX0_placesOfBlock_55 : decode cX0_placesOfBlock 55 = .ok (.invokevirtual 54, 3) := by decide +kernel
theorem dX0_placesOfBlock_58 : decode cX0_placesOfBlock 58 = .ok (.aload_n 0, 1) := by decide +kernel
theorem dX0_placesOfBlock_59 : decode cX0_placesOfBlock 59 = .ok (.getfield 9, 3) := by decide +kernel
theorem dX0_placesOfBlock_62 : decode cX0_placesOfBlock 62 = .ok (.iload 7, 2) := by decide +kernel
theorem dX0_placesOfBlock_64 : decode cX0_placesOfBlock 64 = .ok (.iaload, 1) := by decide +kernel
theorem dX0_placesOfBlock_65 : decode cX0_placesOfBlock 65 = .ok (.iload_n 2, 1) := by decide +kernel
theorem dX0_placesOfBlock_66 : decode cX0_placesOfBlock 66 = .ok (.invokestatic 67, 3) := by decide +kernel
theorem dX0_placesOfBlock_69 : decode cX0_placesOfBlock 69 = .ok (.iand, 1) := by decide +kernel
theorem dX0_placesOfBlock_70 : decode cX0_placesOfBlock 70 = .ok (.istore 6, 2) := by decide +kernel
theorem dX0_placesOfBlock_72 : decode cX0_placesOfBlock 72 = .ok (.iinc 7 1, 3) := by decide +kernel
theorem dX0_placesOfBlock_75 : decode cX0_placesOfBlock 75 = .ok (.goto (-45), 3) := by decide +kernel
theorem dX0_placesOfBlock_78 : decode cX0_placesOfBlock 78 = .ok (.iload 4, 2) := by decide +kernel
theorem dX0_placesOfBlock_80 : decode cX0_placesOfBlock 80 = .ok (.iload 6, 2) := by decide +kernel
theorem dX0_placesOfBlock_82 : decode cX0_placesOfBlock 82 = .ok (.invokestatic 59, 3) := by decide +kernel
theorem dX0_placesOfBlock_85 : decode cX0_placesOfBlock 85 = .ok (.iadd, 1) := by decide +kernel
theorem dX0_placesOfBlock_86 : decode cX0_placesOfBlock 86 = .ok (.istore 4, 2) := by decide +kernel
theorem dX0_placesOfBlock_88 : decode cX0_placesOfBlock 88 = .ok (.iinc 5 1, 3) := by decide +kernel
theorem dX0_placesOfBlock_91 : decode cX0_placesOfBlock 91 = .ok (.goto (-85), 3) := by decide +kernel
theorem dX0_placesOfBlock_94 : decode cX0_placesOfBlock 94 = .ok (.iload 4, 2) := by decide +kernel
theorem dX0_placesOfBlock_96 : decode cX0_placesOfBlock 96 = .ok (.ireturn, 1) := by decide +kernel
theorem dX0_alikePlaces_0 : decode cX0_alikePlaces 0 = .ok (.iconst (-1), 1) := by decide +kernel
theorem dX0_alikePlaces_1 : decode cX0_alikePlaces 1 = .ok (.istore_n 3, 1) := by decide +kernel
theorem dX0_alikePlaces_2 : decode cX0_alikePlaces 2 = .ok (.iconst 0, 1) := by decide +kernel
theorem dX0_alikePlaces_3 : decode cX0_alikePlaces 3 = .ok (.istore 4, 2) := by decide +kernel
theorem dX0_alikePlaces_5 : decode cX0_alikePlaces 5 = .ok (.iload 4, 2) := by decide +kernel
theorem dX0_alikePlaces_7 : decode cX0_alikePlaces 7 = .ok (.iload_n 2, 1) := by decide +kernel
theorem dX0_alikePlaces_8 : decode cX0_alikePlaces 8 = .ok (.if_icmp .ge 41, 3) := by decide +kernel
theorem dX0_alikePlaces_11 : decode cX0_alikePlaces 11 = .ok (.iload_n 1, 1) := by decide +kernel
theorem dX0_alikePlaces_12 : decode cX0_alikePlaces 12 = .ok (.iload 4, 2) := by decide +kernel
theorem dX0_alikePlaces_14 : decode cX0_alikePlaces 14 = .ok (.ineg, 1) := by decide +kernel
theorem dX0_alikePlaces_15 : decode cX0_alikePlaces 15 = .ok (.invokestatic 64, 3) := by decide +kernel
theorem dX0_alikePlaces_18 : decode cX0_alikePlaces 18 = .ok (.ifCond .ge 7, 3) := by decide +kernel
theorem dX0_alikePlaces_21 : decode cX0_alikePlaces 21 = .ok (.iconst (-1), 1) := by decide +kernel
theorem dX0_alikePlaces_22 : decode cX0_alikePlaces 22 = .ok (.goto 4, 3) := by decide +kernel
theorem dX0_alikePlaces_25 : decode cX0_alikePlaces 25 = .ok (.iconst 0, 1) := by decide +kernel
theorem dX0_alikePlaces_26 : decode cX0_alikePlaces 26 = .ok (.istore 5, 2) := by decide +kernel
theorem dX0_alikePlaces_28 : decode cX0_alikePlaces 28 = .ok (.iload_n 3, 1) := by decide +kernel
theorem dX0_alikePlaces_29 : decode cX0_alikePlaces 29 = .ok (.iload_n 0, 1) := by decide +kernel
theorem dX0_alikePlaces_30 : decode cX0_alikePlaces 30 = .ok (.iload 4, 2) := by decide +kernel
theorem dX0_alikePlaces_32 : decode cX0_alikePlaces 32 = .ok (.ineg, 1) := by decide +kernel
theorem dX0_alikePlaces_33 : decode cX0_alikePlaces 33 = .ok (.invokestatic 64, 3) := by decide +kernel
theorem dX0_alikePlaces_36 : decode cX0_alikePlaces 36 = .ok (.iload 5, 2) := by decide +kernel
theorem dX0_alikePlaces_38 : decode cX0_alikePlaces 38 = .ok (.ixor, 1) := by decide +kernel
theorem dX0_alikePlaces_39 : decode cX0_alikePlaces 39 = .ok (.iconst (-1), 1) := by decide +kernel
theorem dX0_alikePlaces_40 : decode cX0_alikePlaces 40 = .ok (.ixor, 1) := by decide +kernel
theorem dX0_alikePlaces_41 : decode cX0_alikePlaces 41 = .ok (.iand, 1) := by decide +kernel
theorem dX0_alikePlaces_42 : decode cX0_alikePlaces 42 = .ok (.istore_n 3, 1) := by decide +kernel
theorem dX0_alikePlaces_43 : decode cX0_alikePlaces 43 = .ok (.iinc 4 1, 3) := by decide +kernel
theorem dX0_alikePlaces_46 : decode cX0_alikePlaces 46 = .ok (.goto (-41), 3) := by decide +kernel
theorem dX0_alikePlaces_49 : decode cX0_alikePlaces 49 = .ok (.iload_n 3, 1) := by decide +kernel
theorem dX0_alikePlaces_50 : decode cX0_alikePlaces 50 = .ok (.ireturn, 1) := by decide +kernel
theorem dX0_partsOf_0 : decode cX0_partsOf 0 = .ok (.iconst 0, 1) := by decide +kernel
theorem dX0_partsOf_1 : decode cX0_partsOf 1 = .ok (.istore_n 2, 1) := by decide +kernel
theorem dX0_partsOf_2 : decode cX0_partsOf 2 = .ok (.iload_n 2, 1) := by decide +kernel
theorem dX0_partsOf_3 : decode cX0_partsOf 3 = .ok (.bipush 24, 2) := by decide +kernel
theorem dX0_partsOf_5 : decode cX0_partsOf 5 = .ok (.if_icmp .ge 27, 3) := by decide +kernel
theorem dX0_partsOf_8 : decode cX0_partsOf 8 = .ok (.aload_n 0, 1) := by decide +kernel
theorem dX0_partsOf_9 : decode cX0_partsOf 9 = .ok (.getfield 19, 3) := by decide +kernel
theorem dX0_partsOf_12 : decode cX0_partsOf 12 = .ok (.getfield 71, 3) := by decide +kernel
theorem dX0_partsOf_15 : decode cX0_partsOf 15 = .ok (.iload_n 2, 1) := by decide +kernel
theorem dX0_partsOf_16 : decode cX0_partsOf 16 = .ok (.aload_n 0, 1) := by decide +kernel
theorem dX0_partsOf_17 : decode cX0_partsOf 17 = .ok (.getfield 15, 3) := by decide +kernel
theorem dX0_partsOf_20 : decode cX0_partsOf 20 = .ok (.iload_n 1, 1) := by decide +kernel
theorem dX0_partsOf_21 : decode cX0_partsOf 21 = .ok (.iload_n 2, 1) := by decide +kernel
theorem dX0_partsOf_22 : decode cX0_partsOf 22 = .ok (.invokevirtual 54, 3) := by decide +kernel
theorem dX0_partsOf_25 : decode cX0_partsOf 25 = .ok (.iastore, 1) := by decide +kernel
theorem dX0_partsOf_26 : decode cX0_partsOf 26 = .ok (.iinc 2 1, 3) := by decide +kernel
theorem dX0_partsOf_29 : decode cX0_partsOf 29 = .ok (.goto (-27), 3) := by decide +kernel
theorem dX0_partsOf_32 : decode cX0_partsOf 32 = .ok (.aload_n 0, 1) := by decide +kernel
theorem dX0_partsOf_33 : decode cX0_partsOf 33 = .ok (.getfield 19, 3) := by decide +kernel
theorem dX0_partsOf_36 : decode cX0_partsOf 36 = .ok (.invokevirtual 76, 3) := by decide +kernel
theorem dX0_partsOf_39 : decode cX0_partsOf 39 = .ok (.ireturn, 1) := by decide +kernel
theorem dX0_columnsOf_0 : decode cX0_columnsOf 0 = .ok (.iconst 0, 1) := by decide +kernel
theorem dX0_columnsOf_1 : decode cX0_columnsOf 1 = .ok (.istore_n 2, 1) := by decide +kernel
theorem dX0_columnsOf_2 : decode cX0_columnsOf 2 = .ok (.iconst 0, 1) := by decide +kernel
theorem dX0_columnsOf_3 : decode cX0_columnsOf 3 = .ok (.istore_n 3, 1) := by decide +kernel
theorem dX0_columnsOf_4 : decode cX0_columnsOf 4 = .ok (.iload_n 3, 1) := by decide +kernel
theorem dX0_columnsOf_5 : decode cX0_columnsOf 5 = .ok (.bipush 24, 2) := by decide +kernel
theorem dX0_columnsOf_7 : decode cX0_columnsOf 7 = .ok (.if_icmp .ge 21, 3) := by decide +kernel
theorem dX0_columnsOf_10 : decode cX0_columnsOf 10 = .ok (.iload_n 2, 1) := by decide +kernel
theorem dX0_columnsOf_11 : decode cX0_columnsOf 11 = .ok (.aload_n 0, 1) := by decide +kernel
theorem dX0_columnsOf_12 : decode cX0_columnsOf 12 = .ok (.getfield 15, 3) := by decide +kernel
theorem dX0_columnsOf_15 : decode cX0_columnsOf 15 = .ok (.iload_n 1, 1) := by decide +kernel
theorem dX0_columnsOf_16 : decode cX0_columnsOf 16 = .ok (.iload_n 3, 1) := by decide +kernel
theorem dX0_columnsOf_17 : decode cX0_columnsOf 17 = .ok (.invokevirtual 54, 3) := by decide +kernel
theorem dX0_columnsOf_20 : decode cX0_columnsOf 20 = .ok (.ior, 1) := by decide +kernel
theorem dX0_columnsOf_21 : decode cX0_columnsOf 21 = .ok (.istore_n 2, 1) := by decide +kernel
theorem dX0_columnsOf_22 : decode cX0_columnsOf 22 = .ok (.iinc 3 1, 3) := by decide +kernel
theorem dX0_columnsOf_25 : decode cX0_columnsOf 25 = .ok (.goto (-21), 3) := by decide +kernel
theorem dX0_columnsOf_28 : decode cX0_columnsOf 28 = .ok (.iload_n 2, 1) := by decide +kernel
theorem dX0_columnsOf_29 : decode cX0_columnsOf 29 = .ok (.ireturn, 1) := by decide +kernel
theorem dX0_leastX_0 : decode cX0_leastX 0 = .ok (.aload_n 0, 1) := by decide +kernel
theorem dX0_leastX_1 : decode cX0_leastX 1 = .ok (.iload_n 1, 1) := by decide +kernel
theorem dX0_leastX_2 : decode cX0_leastX 2 = .ok (.invokevirtual 79, 3) := by decide +kernel
theorem dX0_leastX_5 : decode cX0_leastX 5 = .ok (.istore_n 2, 1) := by decide +kernel
theorem dX0_leastX_6 : decode cX0_leastX 6 = .ok (.iconst 0, 1) := by decide +kernel
theorem dX0_leastX_7 : decode cX0_leastX 7 = .ok (.istore_n 3, 1) := by decide +kernel
theorem dX0_leastX_8 : decode cX0_leastX 8 = .ok (.iload_n 3, 1) := by decide +kernel
theorem dX0_leastX_9 : decode cX0_leastX 9 = .ok (.bipush 32, 2) := by decide +kernel
theorem dX0_leastX_11 : decode cX0_leastX 11 = .ok (.if_icmp .ge 20, 3) := by decide +kernel
theorem dX0_leastX_14 : decode cX0_leastX 14 = .ok (.iload_n 2, 1) := by decide +kernel
theorem dX0_leastX_15 : decode cX0_leastX 15 = .ok (.iload_n 3, 1) := by decide +kernel
theorem dX0_leastX_16 : decode cX0_leastX 16 = .ok (.invokestatic 82, 3) := by decide +kernel
theorem dX0_leastX_19 : decode cX0_leastX 19 = .ok (.iand, 1) := by decide +kernel
theorem dX0_leastX_20 : decode cX0_leastX 20 = .ok (.ifCond .eq 5, 3) := by decide +kernel
theorem dX0_leastX_23 : decode cX0_leastX 23 = .ok (.iload_n 3, 1) := by decide +kernel
theorem dX0_leastX_24 : decode cX0_leastX 24 = .ok (.ireturn, 1) := by decide +kernel
theorem dX0_leastX_25 : decode cX0_leastX 25 = .ok (.iinc 3 1, 3) := by decide +kernel
theorem dX0_leastX_28 : decode cX0_leastX 28 = .ok (.goto (-20), 3) := by decide +kernel
theorem dX0_leastX_31 : decode cX0_leastX 31 = .ok (.iconst (-1), 1) := by decide +kernel
theorem dX0_leastX_32 : decode cX0_leastX 32 = .ok (.ireturn, 1) := by decide +kernel
theorem dX0_greatestX_0 : decode cX0_greatestX 0 = .ok (.aload_n 0, 1) := by decide +kernel
theorem dX0_greatestX_1 : decode cX0_greatestX 1 = .ok (.iload_n 1, 1) := by decide +kernel
theorem dX0_greatestX_2 : decode cX0_greatestX 2 = .ok (.invokevirtual 79, 3) := by decide +kernel
theorem dX0_greatestX_5 : decode cX0_greatestX 5 = .ok (.istore_n 2, 1) := by decide +kernel
theorem dX0_greatestX_6 : decode cX0_greatestX 6 = .ok (.bipush 31, 2) := by decide +kernel
theorem dX0_greatestX_8 : decode cX0_greatestX 8 = .ok (.istore_n 3, 1) := by decide +kernel
theorem dX0_greatestX_9 : decode cX0_greatestX 9 = .ok (.iload_n 3, 1) := by decide +kernel
theorem dX0_greatestX_10 : decode cX0_greatestX 10 = .ok (.ifCond .lt 20, 3) := by decide +kernel
theorem dX0_greatestX_13 : decode cX0_greatestX 13 = .ok (.iload_n 2, 1) := by decide +kernel
theorem dX0_greatestX_14 : decode cX0_greatestX 14 = .ok (.iload_n 3, 1) := by decide +kernel
theorem dX0_greatestX_15 : decode cX0_greatestX 15 = .ok (.invokestatic 82, 3) := by decide +kernel
theorem dX0_greatestX_18 : decode cX0_greatestX 18 = .ok (.iand, 1) := by decide +kernel
theorem dX0_greatestX_19 : decode cX0_greatestX 19 = .ok (.ifCond .eq 5, 3) := by decide +kernel
theorem dX0_greatestX_22 : decode cX0_greatestX 22 = .ok (.iload_n 3, 1) := by decide +kernel
theorem dX0_greatestX_23 : decode cX0_greatestX 23 = .ok (.ireturn, 1) := by decide +kernel
theorem dX0_greatestX_24 : decode cX0_greatestX 24 = .ok (.iinc 3 (-1), 3) := by decide +kernel
theorem dX0_greatestX_27 : decode cX0_greatestX 27 = .ok (.goto (-18), 3) := by decide +kernel
theorem dX0_greatestX_30 : decode cX0_greatestX 30 = .ok (.iconst (-1), 1) := by decide +kernel
theorem dX0_greatestX_31 : decode cX0_greatestX 31 = .ok (.ireturn, 1) := by decide +kernel
theorem dX0_leastY_0 : decode cX0_leastY 0 = .ok (.iconst 0, 1) := by decide +kernel
theorem dX0_leastY_1 : decode cX0_leastY 1 = .ok (.istore_n 2, 1) := by decide +kernel
theorem dX0_leastY_2 : decode cX0_leastY 2 = .ok (.iload_n 2, 1) := by decide +kernel
theorem dX0_leastY_3 : decode cX0_leastY 3 = .ok (.bipush 24, 2) := by decide +kernel
theorem dX0_leastY_5 : decode cX0_leastY 5 = .ok (.if_icmp .ge 23, 3) := by decide +kernel
theorem dX0_leastY_8 : decode cX0_leastY 8 = .ok (.aload_n 0, 1) := by decide +kernel
theorem dX0_leastY_9 : decode cX0_leastY 9 = .ok (.getfield 15, 3) := by decide +kernel
theorem dX0_leastY_12 : decode cX0_leastY 12 = .ok (.iload_n 1, 1) := by decide +kernel
theorem dX0_leastY_13 : decode cX0_leastY 13 = .ok (.iload_n 2, 1) := by decide +kernel
theorem dX0_leastY_14 : decode cX0_leastY 14 = .ok (.invokevirtual 54, 3) := by decide +kernel
theorem dX0_leastY_17 : decode cX0_leastY 17 = .ok (.ifCond .eq 5, 3) := by decide +kernel
theorem dX0_leastY_20 : decode cX0_leastY 20 = .ok (.iload_n 2, 1) := by decide +kernel
theorem dX0_leastY_21 : decode cX0_leastY 21 = .ok (.ireturn, 1) := by decide +kernel
theorem dX0_leastY_22 : decode cX0_leastY 22 = .ok (.iinc 2 1, 3) := by decide +kernel
theorem dX0_leastY_25 : decode cX0_leastY 25 = .ok (.goto (-23), 3) := by decide +kernel
theorem dX0_leastY_28 : decode cX0_leastY 28 = .ok (.iconst (-1), 1) := by decide +kernel
theorem dX0_leastY_29 : decode cX0_leastY 29 = .ok (.ireturn, 1) := by decide +kernel
theorem dX0_greatestY_0 : decode cX0_greatestY 0 = .ok (.bipush 23, 2) := by decide +kernel
theorem dX0_greatestY_2 : decode cX0_greatestY 2 = .ok (.istore_n 2, 1) := by decide +kernel
theorem dX0_greatestY_3 : decode cX0_greatestY 3 = .ok (.iload_n 2, 1) := by decide +kernel
theorem dX0_greatestY_4 : decode cX0_greatestY 4 = .ok (.ifCond .lt 23, 3) := by decide +kernel
theorem dX0_greatestY_7 : decode cX0_greatestY 7 = .ok (.aload_n 0, 1) := by decide +kernel
theorem dX0_greatestY_8 : decode cX0_greatestY 8 = .ok (.getfield 15, 3) := by decide +kernel
theorem dX0_greatestY_11 : decode cX0_greatestY 11 = .ok (.iload_n 1, 1) := by decide +kernel
theorem dX0_greatestY_12 : decode cX0_greatestY 12 = .ok (.iload_n 2, 1) := by decide +kernel
theorem dX0_greatestY_13 : decode cX0_greatestY 13 = .ok (.invokevirtual 54, 3) := by decide +kernel
theorem dX0_greatestY_16 : decode cX0_greatestY 16 = .ok (.ifCond .eq 5, 3) := by decide +kernel
theorem dX0_greatestY_19 : decode cX0_greatestY 19 = .ok (.iload_n 2, 1) := by decide +kernel
theorem dX0_greatestY_20 : decode cX0_greatestY 20 = .ok (.ireturn, 1) := by decide +kernel
theorem dX0_greatestY_21 : decode cX0_greatestY 21 = .ok (.iinc 2 (-1), 3) := by decide +kernel
theorem dX0_greatestY_24 : decode cX0_greatestY 24 = .ok (.goto (-21), 3) := by decide +kernel
theorem dX0_greatestY_27 : decode cX0_greatestY 27 = .ok (.iconst (-1), 1) := by decide +kernel
theorem dX0_greatestY_28 : decode cX0_greatestY 28 = .ok (.ireturn, 1) := by decide +kernel
theorem dX0_openDots_0 : decode cX0_openDots 0 = .ok (.iconst 0, 1) := by decide +kernel
theorem dX0_openDots_1 : decode cX0_openDots 1 = .ok (.istore_n 1, 1) := by decide +kernel
theorem dX0_openDots_2 : decode cX0_openDots 2 = .ok (.iconst 0, 1) := by decide +kernel
theorem dX0_openDots_3 : decode cX0_openDots 3 = .ok (.istore_n 2, 1) := by decide +kernel
theorem dX0_openDots_4 : decode cX0_openDots 4 = .ok (.iload_n 2, 1) := by decide +kernel
theorem dX0_openDots_5 : decode cX0_openDots 5 = .ok (.bipush 24, 2) := by decide +kernel
theorem dX0_openDots_7 : decode cX0_openDots 7 = .ok (.if_icmp .ge 23, 3) := by decide +kernel
theorem dX0_openDots_10 : decode cX0_openDots 10 = .ok (.iload_n 1, 1) := by decide +kernel
theorem dX0_openDots_11 : decode cX0_openDots 11 = .ok (.aload_n 0, 1) := by decide +kernel
theorem dX0_openDots_12 : decode cX0_openDots 12 = .ok (.getfield 15, 3) := by decide +kernel
theorem dX0_openDots_15 : decode cX0_openDots 15 = .ok (.iload_n 2, 1) := by decide +kernel
theorem dX0_openDots_16 : decode cX0_openDots 16 = .ok (.invokevirtual 85, 3) := by decide +kernel
theorem dX0_openDots_19 : decode cX0_openDots 19 = .ok (.invokestatic 59, 3) := by decide +kernel
theorem dX0_openDots_22 : decode cX0_openDots 22 = .ok (.iadd, 1) := by decide +kernel
theorem dX0_openDots_23 : decode cX0_openDots 23 = .ok (.istore_n 1, 1) := by decide +kernel
theorem dX0_openDots_24 : decode cX0_openDots 24 = .ok (.iinc 2 1, 3) := by decide +kernel
theorem dX0_openDots_27 : decode cX0_openDots 27 = .ok (.goto (-23), 3) := by decide +kernel
theorem dX0_openDots_30 : decode cX0_openDots 30 = .ok (.iload_n 1, 1) := by decide +kernel
theorem dX0_openDots_31 : decode cX0_openDots 31 = .ok (.ireturn, 1) := by decide +kernel
theorem dX1_init_0 : decode cX1_init 0 = .ok (.aload_n 0, 1) := by decide +kernel
theorem dX1_init_1 : decode cX1_init 1 = .ok (.invokespecial 3, 3) := by decide +kernel
theorem dX1_init_4 : decode cX1_init 4 = .ok (.aload_n 0, 1) := by decide +kernel
theorem dX1_init_5 : decode cX1_init 5 = .ok (.bipush 9, 2) := by decide +kernel
theorem dX1_init_7 : decode cX1_init 7 = .ok (.newarray .int, 2) := by decide +kernel
theorem dX1_init_9 : decode cX1_init 9 = .ok (.putfield 11, 3) := by decide +kernel
theorem dX1_init_12 : decode cX1_init 12 = .ok (.aload_n 0, 1) := by decide +kernel
theorem dX1_init_13 : decode cX1_init 13 = .ok (.ldc 15, 2) := by decide +kernel
theorem dX1_init_15 : decode cX1_init 15 = .ok (.putfield 17, 3) := by decide +kernel
theorem dX1_init_18 : decode cX1_init 18 = .ok (.return_, 1) := by decide +kernel
theorem dX1_begins_0 : decode cX1_begins 0 = .ok (.aload_n 0, 1) := by decide +kernel
theorem dX1_begins_1 : decode cX1_begins 1 = .ok (.iload_n 1, 1) := by decide +kernel
theorem dX1_begins_2 : decode cX1_begins 2 = .ok (.putfield 21, 3) := by decide +kernel
theorem dX1_begins_5 : decode cX1_begins 5 = .ok (.aload_n 0, 1) := by decide +kernel
theorem dX1_begins_6 : decode cX1_begins 6 = .ok (.iload_n 1, 1) := by decide +kernel
theorem dX1_begins_7 : decode cX1_begins 7 = .ok (.invokestatic 25, 3) := by decide +kernel
theorem dX1_begins_10 : decode cX1_begins 10 = .ok (.putfield 17, 3) := by decide +kernel
theorem dX1_begins_13 : decode cX1_begins 13 = .ok (.aload_n 0, 1) := by decide +kernel
theorem dX1_begins_14 : decode cX1_begins 14 = .ok (.iconst 0, 1) := by decide +kernel
theorem dX1_begins_15 : decode cX1_begins 15 = .ok (.putfield 29, 3) := by decide +kernel
theorem dX1_begins_18 : decode cX1_begins 18 = .ok (.aload_n 0, 1) := by decide +kernel
theorem dX1_begins_19 : decode cX1_begins 19 = .ok (.iconst 1, 1) := by decide +kernel
theorem dX1_begins_20 : decode cX1_begins 20 = .ok (.putfield 32, 3) := by decide +kernel
theorem dX1_begins_23 : decode cX1_begins 23 = .ok (.return_, 1) := by decide +kernel
theorem dX1_with_0 : decode cX1_with 0 = .ok (.aload_n 0, 1) := by decide +kernel
theorem dX1_with_1 : decode cX1_with 1 = .ok (.getfield 29, 3) := by decide +kernel
theorem dX1_with_4 : decode cX1_with 4 = .ok (.aload_n 0, 1) := by decide +kernel
theorem dX1_with_5 : decode cX1_with 5 = .ok (.getfield 17, 3) := by decide +kernel
theorem dX1_with_8 : decode cX1_with 8 = .ok (.invokevirtual 36, 3) := by decide +kernel
theorem dX1_with_11 : decode cX1_with 11 = .ok (.if_icmp .ge 66, 3) := by decide +kernel
theorem dX1_with_14 : decode cX1_with 14 = .ok (.aload_n 0, 1) := by decide +kernel
theorem dX1_with_15 : decode cX1_with 15 = .ok (.getfield 29, 3) := by decide +kernel
theorem dX1_with_18 : decode cX1_with 18 = .ok (.bipush 9, 2) := by decide +kernel
theorem dX1_with_20 : decode cX1_with 20 = .ok (.if_icmp .ge 57, 3) := by decide +kernel
theorem dX1_with_23 : decode cX1_with 23 = .ok (.aload_n 0, 1) := by decide +kernel
theorem dX1_with_24 : decode cX1_with 24 = .ok (.aload_n 0, 1) := by decide +kernel
theorem dX1_with_25 : decode cX1_with 25 = .ok (.getfield 32, 3) := by decide +kernel
theorem dX1_with_28 : decode cX1_with 28 = .ok (.ifCond .eq 25, 3) := by decide +kernel
theorem dX1_with_31 : decode cX1_with 31 = .ok (.iload_n 1, 1) := by decide +kernel
theorem dX1_with_32 : decode cX1_with 32 = .ok (.aload_n 0, 1) := by decide +kernel
theorem dX1_with_33 : decode cX1_with 33 = .ok (.getfield 17, 3) := by decide +kernel
theorem dX1_with_36 : decode cX1_with 36 = .ok (.aload_n 0, 1) := by decide +kernel
theorem dX1_with_37 : decode cX1_with 37 = .ok (.getfield 29, 3) := by decide +kernel
theorem dX1_with_40 : decode cX1_with 40 = .ok (.invokevirtual 42, 3) := by decide +kernel
theorem dX1_with_43 : decode cX1_with 43 = .ok (.invokestatic 46, 3) := by decide +kernel
theorem dX1_with_46 : decode cX1_with 46 = .ok (.ifCond .eq 7, 3) := by decide +kernel
theorem dX1_with_49 : decode cX1_with 49 = .ok (.iconst 1, 1) := by decide +kernel
theorem dX1_with_50 : decode cX1_with 50 = .ok (.goto 4, 3) := by decide +kernel
theorem dX1_with_53 : decode cX1_with 53 = .ok (.iconst 0, 1) := by decide +kernel
theorem dX1_with_54 : decode cX1_with 54 = .ok (.putfield 32, 3) := by decide +kernel
theorem dX1_with_57 : decode cX1_with 57 = .ok (.aload_n 0, 1) := by decide +kernel
theorem dX1_with_58 : decode cX1_with 58 = .ok (.getfield 11, 3) := by decide +kernel
theorem dX1_with_61 : decode cX1_with 61 = .ok (.aload_n 0, 1) := by decide +kernel
theorem dX1_with_62 : decode cX1_with 62 = .ok (.getfield 29, 3) := by decide +kernel
theorem dX1_with_65 : decode cX1_with 65 = .ok (.iload_n 1, 1) := by decide +kernel
theorem dX1_with_66 : decode cX1_with 66 = .ok (.iastore, 1) := by decide +kernel
theorem dX1_with_67 : decode cX1_with 67 = .ok (.aload_n 0, 1) := by decide +kernel
theorem dX1_with_68 : decode cX1_with 68 = .ok (.dup, 1) := by decide +kernel
theorem dX1_with_69 : decode cX1_with 69 = .ok (.getfield 29, 3) := by decide +kernel
theorem dX1_with_72 : decode cX1_with 72 = .ok (.iconst 1, 1) := by decide +kernel
theorem dX1_with_73 : decode cX1_with 73 = .ok (.iadd, 1) := by decide +kernel
theorem dX1_with_74 : decode cX1_with 74 = .ok (.putfield 29, 3) := by decide +kernel
theorem dX1_with_77 : decode cX1_with 77 = .ok (.aload_n 0, 1) := by decide +kernel
theorem dX1_with_78 : decode cX1_with 78 = .ok (.areturn, 1) := by decide +kernel
theorem dX1_isAsTold_0 : decode cX1_isAsTold 0 = .ok (.aload_n 0, 1) := by decide +kernel
theorem dX1_isAsTold_1 : decode cX1_isAsTold 1 = .ok (.getfield 32, 3) := by decide +kernel
theorem dX1_isAsTold_4 : decode cX1_isAsTold 4 = .ok (.ifCond .eq 21, 3) := by decide +kernel
theorem dX1_isAsTold_7 : decode cX1_isAsTold 7 = .ok (.aload_n 0, 1) := by decide +kernel
theorem dX1_isAsTold_8 : decode cX1_isAsTold 8 = .ok (.getfield 29, 3) := by decide +kernel
theorem dX1_isAsTold_11 : decode cX1_isAsTold 11 = .ok (.aload_n 0, 1) := by decide +kernel
theorem dX1_isAsTold_12 : decode cX1_isAsTold 12 = .ok (.getfield 17, 3) := by decide +kernel
theorem dX1_isAsTold_15 : decode cX1_isAsTold 15 = .ok (.invokevirtual 36, 3) := by decide +kernel
theorem dX1_isAsTold_18 : decode cX1_isAsTold 18 = .ok (.if_icmp .ne 7, 3) := by decide +kernel
theorem dX1_isAsTold_21 : decode cX1_isAsTold 21 = .ok (.iconst 1, 1) := by decide +kernel
theorem dX1_isAsTold_22 : decode cX1_isAsTold 22 = .ok (.goto 4, 3) := by decide +kernel
theorem dX1_isAsTold_25 : decode cX1_isAsTold 25 = .ok (.iconst 0, 1) := by decide +kernel
theorem dX1_isAsTold_26 : decode cX1_isAsTold 26 = .ok (.ireturn, 1) := by decide +kernel
theorem dX1_numberAt_0 : decode cX1_numberAt 0 = .ok (.iload_n 1, 1) := by decide +kernel
theorem dX1_numberAt_1 : decode cX1_numberAt 1 = .ok (.iconst 0, 1) := by decide +kernel
theorem dX1_numberAt_2 : decode cX1_numberAt 2 = .ok (.aload_n 0, 1) := by decide +kernel
theorem dX1_numberAt_3 : decode cX1_numberAt 3 = .ok (.getfield 29, 3) := by decide +kernel
theorem dX1_numberAt_6 : decode cX1_numberAt 6 = .ok (.iconst 1, 1) := by decide +kernel
theorem dX1_numberAt_7 : decode cX1_numberAt 7 = .ok (.isub, 1) := by decide +kernel
theorem dX1_numberAt_8 : decode cX1_numberAt 8 = .ok (.invokestatic 50, 3) := by decide +kernel
theorem dX1_numberAt_11 : decode cX1_numberAt 11 = .ok (.ifCond .eq 12, 3) := by decide +kernel
theorem dX1_numberAt_14 : decode cX1_numberAt 14 = .ok (.aload_n 0, 1) := by decide +kernel
theorem dX1_numberAt_15 : decode cX1_numberAt 15 = .ok (.getfield 11, 3) := by decide +kernel
theorem dX1_numberAt_18 : decode cX1_numberAt 18 = .ok (.iload_n 1, 1) := by decide +kernel
theorem dX1_numberAt_19 : decode cX1_numberAt 19 = .ok (.iaload, 1) := by decide +kernel
theorem dX1_numberAt_20 : decode cX1_numberAt 20 = .ok (.goto 4, 3) := by decide +kernel
theorem dX1_numberAt_23 : decode cX1_numberAt 23 = .ok (.iconst 0, 1) := by decide +kernel
theorem dX1_numberAt_24 : decode cX1_numberAt 24 = .ok (.ireturn, 1) := by decide +kernel
theorem dX1_isSign_0 : decode cX1_isSign 0 = .ok (.iload_n 0, 1) := by decide +kernel
theorem dX1_isSign_1 : decode cX1_isSign 1 = .ok (.bipush 107, 2) := by decide +kernel
theorem dX1_isSign_3 : decode cX1_isSign 3 = .ok (.if_icmp .eq 13, 3) := by decide +kernel
theorem dX1_isSign_6 : decode cX1_isSign 6 = .ok (.iload_n 0, 1) := by decide +kernel
theorem dX1_isSign_7 : decode cX1_isSign 7 = .ok (.invokestatic 25, 3) := by decide +kernel
theorem dX1_isSign_10 : decode cX1_isSign 10 = .ok (.invokevirtual 54, 3) := by decide +kernel
theorem dX1_isSign_13 : decode cX1_isSign 13 = .ok (.ifCond .ne 7, 3) := by decide +kernel
theorem dX1_isSign_16 : decode cX1_isSign 16 = .ok (.iconst 1, 1) := by decide +kernel
theorem dX1_isSign_17 : decode cX1_isSign 17 = .ok (.goto 4, 3) := by decide +kernel
theorem dX1_isSign_20 : decode cX1_isSign 20 = .ok (.iconst 0, 1) := by decide +kernel
theorem dX1_isSign_21 : decode cX1_isSign 21 = .ok (.ireturn, 1) := by decide +kernel
theorem dX1_kindsOf_0 : decode cX1_kindsOf 0 = .ok (.iload_n 0, 1) := by decide +kernel
theorem dX1_kindsOf_1 : decode cX1_kindsOf 1 = .ok (.tableswitch 97 99 114 #[91, 97, 97, 85, 97, 97, 97, 97, 97, 82, 79, 97, 94, 97, 97, 88], 79) := by decide +kernel
theorem dX1_kindsOf_80 : decode cX1_kindsOf 80 = .ok (.ldc 58, 2) := by decide +kernel
theorem dX1_kindsOf_82 : decode cX1_kindsOf 82 = .ok (.areturn, 1) := by decide +kernel
theorem dX1_kindsOf_83 : decode cX1_kindsOf 83 = .ok (.ldc 60, 2) := by decide +kernel
theorem dX1_kindsOf_85 : decode cX1_kindsOf 85 = .ok (.areturn, 1) := by decide +kernel
theorem dX1_kindsOf_86 : decode cX1_kindsOf 86 = .ok (.ldc 62, 2) := by decide +kernel
theorem dX1_kindsOf_88 : decode cX1_kindsOf 88 = .ok (.areturn, 1) := by decide +kernel
theorem dX1_kindsOf_89 : decode cX1_kindsOf 89 = .ok (.ldc 64, 2) := by decide +kernel
theorem dX1_kindsOf_91 : decode cX1_kindsOf 91 = .ok (.areturn, 1) := by decide +kernel
theorem dX1_kindsOf_92 : decode cX1_kindsOf 92 = .ok (.ldc 66, 2) := by decide +kernel
theorem dX1_kindsOf_94 : decode cX1_kindsOf 94 = .ok (.areturn, 1) := by decide +kernel
theorem dX1_kindsOf_95 : decode cX1_kindsOf 95 = .ok (.ldc 68, 2) := by decide +kernel
theorem dX1_kindsOf_97 : decode cX1_kindsOf 97 = .ok (.areturn, 1) := by decide +kernel
theorem dX1_kindsOf_98 : decode cX1_kindsOf 98 = .ok (.ldc 15, 2) := by decide +kernel
theorem dX1_kindsOf_100 : decode cX1_kindsOf 100 = .ok (.areturn, 1) := by decide +kernel
theorem dX1_isOfKind_0 : decode cX1_isOfKind 0 = .ok (.iload_n 1, 1) := by decide +kernel
theorem dX1_isOfKind_1 : decode cX1_isOfKind 1 = .ok (.lookupswitch 66 #[(110, 58), (112, 43), (119, 53), (120, 48)], 43) := by decide +kernel
theorem dX1_isOfKind_44 : decode cX1_isOfKind 44 = .ok (.iload_n 0, 1) := by decide +kernel
theorem dX1_isOfKind_45 : decode cX1_isOfKind 45 = .ok (.invokestatic 70, 3) := by decide +kernel
theorem dX1_isOfKind_48 : decode cX1_isOfKind 48 = .ok (.ireturn, 1) := by decide +kernel
theorem dX1_isOfKind_49 : decode cX1_isOfKind 49 = .ok (.iload_n 0, 1) := by decide +kernel
theorem dX1_isOfKind_50 : decode cX1_isOfKind 50 = .ok (.invokestatic 74, 3) := by decide +kernel
theorem dX1_isOfKind_53 : decode cX1_isOfKind 53 = .ok (.ireturn, 1) := by decide +kernel
theorem dX1_isOfKind_54 : decode cX1_isOfKind 54 = .ok (.iload_n 0, 1) := by decide +kernel
theorem dX1_isOfKind_55 : decode cX1_isOfKind 55 = .ok (.invokestatic 77, 3) := by decide +kernel
theorem dX1_isOfKind_58 : decode cX1_isOfKind 58 = .ok (.ireturn, 1) := by decide +kernel
theorem dX1_isOfKind_59 : decode cX1_isOfKind 59 = .ok (.iload_n 0, 1) := by decide +kernel
theorem dX1_isOfKind_60 : decode cX1_isOfKind 60 = .ok (.iconst 0, 1) := by decide +kernel
theorem dX1_isOfKind_61 : decode cX1_isOfKind 61 = .ok (.bipush 15, 2) := by decide +kernel
theorem dX1_isOfKind_63 : decode cX1_isOfKind 63 = .ok (.invokestatic 50, 3) := by decide +kernel
theorem dX1_isOfKind_66 : decode cX1_isOfKind 66 = .ok (.ireturn, 1) := by decide +kernel
theorem dX1_isOfKind_67 : decode cX1_isOfKind 67 = .ok (.iload_n 0, 1) := by decide +kernel
theorem dX1_isOfKind_68 : decode cX1_isOfKind 68 = .ok (.iconst 0, 1) := by decide +kernel
theorem dX1_isOfKind_69 : decode cX1_isOfKind 69 = .ok (.sipush 255, 3) := by decide +kernel
theorem dX1_isOfKind_72 : decode cX1_isOfKind 72 = .ok (.invokestatic 50, 3) := by decide +kernel
theorem dX1_isOfKind_75 : decode cX1_isOfKind 75 = .ok (.ireturn, 1) := by decide +kernel
theorem dX2_init_0 : decode cX2_init 0 = .ok (.aload_n 0, 1) := by decide +kernel
theorem dX2_init_1 : decode cX2_init 1 = .ok (.invokespecial 3, 3) := by decide +kernel
theorem dX2_init_4 : decode cX2_init 4 = .ok (.aload_n 0, 1) := by decide +kernel
theorem dX2_init_5 : decode cX2_init 5 = .ok (.bipush 120, 2) := by decide +kernel
theorem dX2_init_7 : decode cX2_init 7 = .ok (.newarray .byte, 2) := by decide +kernel
theorem dX2_init_9 : decode cX2_init 9 = .ok (.putfield 9, 3) := by decide +kernel
theorem dX2_init_12 : decode cX2_init 12 = .ok (.return_, 1) := by decide +kernel
theorem dX2_takes_0 : decode cX2_takes 0 = .ok (.aload_n 0, 1) := by decide +kernel
theorem dX2_takes_1 : decode cX2_takes 1 = .ok (.getfield 15, 3) := by decide +kernel
theorem dX2_takes_4 : decode cX2_takes 4 = .ok (.bipush 120, 2) := by decide +kernel
theorem dX2_takes_6 : decode cX2_takes 6 = .ok (.if_icmp .ge 24, 3) := by decide +kernel
theorem dX2_takes_9 : decode cX2_takes 9 = .ok (.aload_n 0, 1) := by decide +kernel
theorem dX2_takes_10 : decode cX2_takes 10 = .ok (.getfield 9, 3) := by decide +kernel
theorem dX2_takes_13 : decode cX2_takes 13 = .ok (.aload_n 0, 1) := by decide +kernel
theorem dX2_takes_14 : decode cX2_takes 14 = .ok (.getfield 15, 3) := by decide +kernel
theorem dX2_takes_17 : decode cX2_takes 17 = .ok (.iload_n 1, 1) := by decide +kernel
theorem dX2_takes_18 : decode cX2_takes 18 = .ok (.i2b, 1) := by decide +kernel
theorem dX2_takes_19 : decode cX2_takes 19 = .ok (.bastore, 1) := by decide +kernel
theorem dX2_takes_20 : decode cX2_takes 20 = .ok (.aload_n 0, 1) := by decide +kernel
theorem dX2_takes_21 : decode cX2_takes 21 = .ok (.dup, 1) := by decide +kernel
theorem dX2_takes_22 : decode cX2_takes 22 = .ok (.getfield 15, 3) := by decide +kernel
theorem dX2_takes_25 : decode cX2_takes 25 = .ok (.iconst 1, 1) := by decide +kernel
theorem dX2_takes_26 : decode cX2_takes 26 = .ok (.iadd, 1) := by decide +kernel
theorem dX2_takes_27 : decode cX2_takes 27 = .ok (.putfield 15, 3) := by decide +kernel
theorem dX2_takes_30 : decode cX2_takes 30 = .ok (.return_, 1) := by decide +kernel
theorem dX2_restarts_0 : decode cX2_restarts 0 = .ok (.aload_n 0, 1) := by decide +kernel
theorem dX2_restarts_1 : decode cX2_restarts 1 = .ok (.iconst 0, 1) := by decide +kernel
theorem dX2_restarts_2 : decode cX2_restarts 2 = .ok (.putfield 19, 3) := by decide +kernel
theorem dX2_restarts_5 : decode cX2_restarts 5 = .ok (.return_, 1) := by decide +kernel
theorem dX2_isAtEnd_0 : decode cX2_isAtEnd 0 = .ok (.aload_n 0, 1) := by decide +kernel
theorem dX2_isAtEnd_1 : decode cX2_isAtEnd 1 = .ok (.invokevirtual 22, 3) := by decide +kernel
theorem dX2_isAtEnd_4 : decode cX2_isAtEnd 4 = .ok (.aload_n 0, 1) := by decide +kernel
theorem dX2_isAtEnd_5 : decode cX2_isAtEnd 5 = .ok (.getfield 19, 3) := by decide +kernel
theorem dX2_isAtEnd_8 : decode cX2_isAtEnd 8 = .ok (.aload_n 0, 1) := by decide +kernel
theorem dX2_isAtEnd_9 : decode cX2_isAtEnd 9 = .ok (.getfield 15, 3) := by decide +kernel
theorem dX2_isAtEnd_12 : decode cX2_isAtEnd 12 = .ok (.if_icmp .lt 7, 3) := by decide +kernel
theorem dX2_isAtEnd_15 : decode cX2_isAtEnd 15 = .ok (.iconst 1, 1) := by decide +kernel
theorem dX2_isAtEnd_16 : decode cX2_isAtEnd 16 = .ok (.goto 4, 3) := by decide +kernel
theorem dX2_isAtEnd_19 : decode cX2_isAtEnd 19 = .ok (.iconst 0, 1) := by decide +kernel
theorem dX2_isAtEnd_20 : decode cX2_isAtEnd 20 = .ok (.ireturn, 1) := by decide +kernel
theorem dX2_faultIn_0 : decode cX2_faultIn 0 = .ok (.aload_n 0, 1) := by decide +kernel
theorem dX2_faultIn_1 : decode cX2_faultIn 1 = .ok (.invokevirtual 25, 3) := by decide +kernel
theorem dX2_faultIn_4 : decode cX2_faultIn 4 = .ok (.aload_n 0, 1) := by decide +kernel
theorem dX2_faultIn_5 : decode cX2_faultIn 5 = .ok (.invokevirtual 28, 3) := by decide +kernel
theorem dX2_faultIn_8 : decode cX2_faultIn 8 = .ok (.ifCond .eq 8, 3) := by decide +kernel
theorem dX2_faultIn_11 : decode cX2_faultIn 11 = .ok (.aload_n 0, 1) := by decide +kernel
theorem dX2_faultIn_12 : decode cX2_faultIn 12 = .ok (.getfield 15, 3) := by decide +kernel
theorem dX2_faultIn_15 : decode cX2_faultIn 15 = .ok (.ireturn, 1) := by decide +kernel
theorem dX2_faultIn_16 : decode cX2_faultIn 16 = .ok (.iload_n 2, 1) := by decide +kernel
theorem dX2_faultIn_17 : decode cX2_faultIn 17 = .ok (.istore_n 3, 1) := by decide +kernel
theorem dX2_faultIn_18 : decode cX2_faultIn 18 = .ok (.iconst 0, 1) := by decide +kernel
theorem dX2_faultIn_19 : decode cX2_faultIn 19 = .ok (.istore 4, 2) := by decide +kernel
theorem dX2_faultIn_21 : decode cX2_faultIn 21 = .ok (.iload 4, 2) := by decide +kernel
theorem dX2_faultIn_23 : decode cX2_faultIn 23 = .ok (.bipush 120, 2) := by decide +kernel
theorem dX2_faultIn_25 : decode cX2_faultIn 25 = .ok (.if_icmp .ge 57, 3) := by decide +kernel
theorem dX2_faultIn_28 : decode cX2_faultIn 28 = .ok (.aload_n 0, 1) := by decide +kernel
theorem dX2_faultIn_29 : decode cX2_faultIn 29 = .ok (.invokevirtual 28, 3) := by decide +kernel
theorem dX2_faultIn_32 : decode cX2_faultIn 32 = .ok (.ifCond .ne 50, 3) := by decide +kernel
theorem dX2_faultIn_35 : decode cX2_faultIn 35 = .ok (.aload_n 0, 1) := by decide +kernel
theorem dX2_faultIn_36 : decode cX2_faultIn 36 = .ok (.invokevirtual 32, 3) := by decide +kernel
theorem dX2_faultIn_39 : decode cX2_faultIn 39 = .ok (.bipush 111, 2) := by decide +kernel
theorem dX2_faultIn_41 : decode cX2_faultIn 41 = .ok (.if_icmp .ne 13, 3) := by decide +kernel
theorem dX2_faultIn_44 : decode cX2_faultIn 44 = .ok (.iload_n 3, 1) := by decide +kernel
theorem dX2_faultIn_45 : decode cX2_faultIn 45 = .ok (.iconst 4, 1) := by decide +kernel
theorem dX2_faultIn_46 : decode cX2_faultIn 46 = .ok (.if_icmp .lt 8, 3) := by decide +kernel
theorem dX2_faultIn_49 : decode cX2_faultIn 49 = .ok (.aload_n 0, 1) := by decide +kernel
theorem dX2_faultIn_50 : decode cX2_faultIn 50 = .ok (.getfield 19, 3) := by decide +kernel
theorem dX2_faultIn_53 : decode cX2_faultIn 53 = .ok (.ireturn, 1) := by decide +kernel
theorem dX2_faultIn_54 : decode cX2_faultIn 54 = .ok (.aload_n 0, 1) := by decide +kernel
theorem dX2_faultIn_55 : decode cX2_faultIn 55 = .ok (.aload_n 1, 1) := by decide +kernel
theorem dX2_faultIn_56 : decode cX2_faultIn 56 = .ok (.invokevirtual 38, 3) := by decide +kernel
theorem dX2_faultIn_59 : decode cX2_faultIn 59 = .ok (.istore 5, 2) := by decide +kernel
theorem dX2_faultIn_61 : decode cX2_faultIn 61 = .ok (.iload 5, 2) := by decide +kernel
theorem dX2_faultIn_63 : decode cX2_faultIn 63 = .ok (.iconst (-1), 1) := by decide +kernel
theorem dX2_faultIn_64 : decode cX2_faultIn 64 = .ok (.if_icmp .eq 6, 3) := by decide +kernel
theorem dX2_faultIn_67 : decode cX2_faultIn 67 = .ok (.iload 5, 2) := by decide +kernel
theorem dX2_faultIn_69 : decode cX2_faultIn 69 = .ok (.ireturn, 1) := by decide +kernel
theorem dX2_faultIn_70 : decode cX2_faultIn 70 = .ok (.aload_n 1, 1) := by decide +kernel
theorem dX2_faultIn_71 : decode cX2_faultIn 71 = .ok (.iload_n 3, 1) := by decide +kernel
theorem dX2_faultIn_72 : decode cX2_faultIn 72 = .ok (.invokestatic 42, 3) := by decide +kernel
theorem dX2_faultIn_75 : decode cX2_faultIn 75 = .ok (.istore_n 3, 1) := by decide +kernel
theorem dX2_faultIn_76 : decode cX2_faultIn 76 = .ok (.iinc 4 1, 3) := by decide +kernel
theorem dX2_faultIn_79 : decode cX2_faultIn 79 = .ok (.goto (-58), 3) := by decide +kernel
theorem dX2_faultIn_82 : decode cX2_faultIn 82 = .ok (.iconst (-1), 1) := by decide +kernel
theorem dX2_faultIn_83 : decode cX2_faultIn 83 = .ok (.ireturn, 1) := by decide +kernel
theorem dX2_reads_0 : decode cX2_reads 0 = .ok (.aload_n 0, 1) := by decide +kernel
theorem dX2_reads_1 : decode cX2_reads 1 = .ok (.invokevirtual 22, 3) := by decide +kernel
theorem dX2_reads_4 : decode cX2_reads 4 = .ok (.aload_n 0, 1) := by decide +kernel
theorem dX2_reads_5 : decode cX2_reads 5 = .ok (.invokevirtual 32, 3) := by decide +kernel
theorem dX2_reads_8 : decode cX2_reads 8 = .ok (.istore_n 2, 1) := by decide +kernel
theorem dX2_reads_9 : decode cX2_reads 9 = .ok (.iload_n 2, 1) := by decide +kernel
theorem dX2_reads_10 : decode cX2_reads 10 = .ok (.invokestatic 46, 3) := by decide +kernel
theorem dX2_reads_13 : decode cX2_reads 13 = .ok (.ifCond .ne 8, 3) := by decide +kernel
theorem dX2_reads_16 : decode cX2_reads 16 = .ok (.aload_n 0, 1) := by decide +kernel
theorem dX2_reads_17 : decode cX2_reads 17 = .ok (.getfield 19, 3) := by decide +kernel
theorem dX2_reads_20 : decode cX2_reads 20 = .ok (.ireturn, 1) := by decide +kernel
theorem dX2_reads_21 : decode cX2_reads 21 = .ok (.aload_n 1, 1) := by decide +kernel
theorem dX2_reads_22 : decode cX2_reads 22 = .ok (.iload_n 2, 1) := by decide +kernel
theorem dX2_reads_23 : decode cX2_reads 23 = .ok (.invokevirtual 50, 3) := by decide +kernel
theorem dX2_reads_26 : decode cX2_reads 26 = .ok (.aload_n 0, 1) := by decide +kernel
theorem dX2_reads_27 : decode cX2_reads 27 = .ok (.dup, 1) := by decide +kernel
theorem dX2_reads_28 : decode cX2_reads 28 = .ok (.getfield 19, 3) := by decide +kernel
theorem dX2_reads_31 : decode cX2_reads 31 = .ok (.iconst 1, 1) := by decide +kernel
theorem dX2_reads_32 : decode cX2_reads 32 = .ok (.iadd, 1) := by decide +kernel
theorem dX2_reads_33 : decode cX2_reads 33 = .ok (.putfield 19, 3) := by decide +kernel
theorem dX2_reads_36 : decode cX2_reads 36 = .ok (.iconst 0, 1) := by decide +kernel
theorem dX2_reads_37 : decode cX2_reads 37 = .ok (.istore_n 3, 1) := by decide +kernel
theorem dX2_reads_38 : decode cX2_reads 38 = .ok (.iload_n 3, 1) := by decide +kernel
theorem dX2_reads_39 : decode cX2_reads 39 = .ok (.aload_n 1, 1) := by decide +kernel
theorem dX2_reads_40 : decode cX2_reads 40 = .ok (.getfield 54, 3) := by decide +kernel
theorem dX2_reads_43 : decode cX2_reads 43 = .ok (.invokevirtual 58, 3) := by decide +kernel
theorem dX2_reads_46 : decode cX2_reads 46 = .ok (.if_icmp .ge 43, 3) := by decide +kernel
theorem dX2_reads_49 : decode cX2_reads 49 = .ok (.aload_n 0, 1) := by decide +kernel
theorem dX2_reads_50 : decode cX2_reads 50 = .ok (.invokevirtual 22, 3) := by decide +kernel
theorem dX2_reads_53 : decode cX2_reads 53 = .ok (.aload_n 0, 1) := by decide +kernel
theorem dX2_reads_54 : decode cX2_reads 54 = .ok (.getfield 19, 3) := by decide +kernel
theorem dX2_reads_57 : decode cX2_reads 57 = .ok (.istore 4, 2) := by decide +kernel
theorem dX2_reads_59 : decode cX2_reads 59 = .ok (.aload_n 0, 1) := by decide +kernel
theorem dX2_reads_60 : decode cX2_reads 60 = .ok (.invokevirtual 62, 3) := by decide +kernel
theorem dX2_reads_63 : decode cX2_reads 63 = .ok (.ifCond .eq 17, 3) := by decide +kernel
theorem dX2_reads_66 : decode cX2_reads 66 = .ok (.aload_n 1, 1) := by decide +kernel
theorem dX2_reads_67 : decode cX2_reads 67 = .ok (.aload_n 0, 1) := by decide +kernel
theorem dX2_reads_68 : decode cX2_reads 68 = .ok (.getfield 65, 3) := by decide +kernel
theorem dX2_reads_71 : decode cX2_reads 71 = .ok (.invokevirtual 68, 3) := by decide +kernel
theorem dX2_reads_74 : decode cX2_reads 74 = .ok (.getfield 72, 3) := by decide +kernel
theorem dX2_reads_77 : decode cX2_reads 77 = .ok (.ifCond .ne 6, 3) := by decide +kernel
theorem dX2_reads_80 : decode cX2_reads 80 = .ok (.iload 4, 2) := by decide +kernel
theorem dX2_reads_82 : decode cX2_reads 82 = .ok (.ireturn, 1) := by decide +kernel
theorem dX2_reads_83 : decode cX2_reads 83 = .ok (.iinc 3 1, 3) := by decide +kernel
theorem dX2_reads_86 : decode cX2_reads 86 = .ok (.goto (-48), 3) := by decide +kernel
theorem dX2_reads_89 : decode cX2_reads 89 = .ok (.aload_n 0, 1) := by decide +kernel
theorem dX2_reads_90 : decode cX2_reads 90 = .ok (.invokevirtual 22, 3) := by decide +kernel
theorem dX2_reads_93 : decode cX2_reads 93 = .ok (.aload_n 0, 1) := by decide +kernel
theorem dX2_reads_94 : decode cX2_reads 94 = .ok (.invokevirtual 32, 3) := by decide +kernel
theorem dX2_reads_97 : decode cX2_reads 97 = .ok (.bipush 59, 2) := by decide +kernel
theorem dX2_reads_99 : decode cX2_reads 99 = .ok (.if_icmp .eq 8, 3) := by decide +kernel
theorem dX2_reads_102 : decode cX2_reads 102 = .ok (.aload_n 0, 1) := by decide +kernel
theorem dX2_reads_103 : decode cX2_reads 103 = .ok (.getfield 19, 3) := by decide +kernel
theorem dX2_reads_106 : decode cX2_reads 106 = .ok (.ireturn, 1) := by decide +kernel
theorem dX2_reads_107 : decode cX2_reads 107 = .ok (.aload_n 0, 1) := by decide +kernel
theorem dX2_reads_108 : decode cX2_reads 108 = .ok (.dup, 1) := by decide +kernel
theorem dX2_reads_109 : decode cX2_reads 109 = .ok (.getfield 19, 3) := by decide +kernel
theorem dX2_reads_112 : decode cX2_reads 112 = .ok (.iconst 1, 1) := by decide +kernel
theorem dX2_reads_113 : decode cX2_reads 113 = .ok (.iadd, 1) := by decide +kernel
theorem dX2_reads_114 : decode cX2_reads 114 = .ok (.putfield 19, 3) := by decide +kernel
theorem dX2_reads_117 : decode cX2_reads 117 = .ok (.iconst (-1), 1) := by decide +kernel
theorem dX2_reads_118 : decode cX2_reads 118 = .ok (.ireturn, 1) := by decide +kernel
theorem dX2_readsNumber_0 : decode cX2_readsNumber 0 = .ok (.aload_n 0, 1) := by decide +kernel
theorem dX2_readsNumber_1 : decode cX2_readsNumber 1 = .ok (.invokevirtual 32, 3) := by decide +kernel
theorem dX2_readsNumber_4 : decode cX2_readsNumber 4 = .ok (.bipush 45, 2) := by decide +kernel
theorem dX2_readsNumber_6 : decode cX2_readsNumber 6 = .ok (.if_icmp .ne 7, 3) := by decide +kernel
theorem dX2_readsNumber_9 : decode cX2_readsNumber 9 = .ok (.iconst 1, 1) := by decide +kernel
theorem dX2_readsNumber_10 : decode cX2_readsNumber 10 = .ok (.goto 4, 3) := by decide +kernel
theorem dX2_readsNumber_13 : decode cX2_readsNumber 13 = .ok (.iconst 0, 1) := by decide +kernel
theorem dX2_readsNumber_14 : decode cX2_readsNumber 14 = .ok (.istore_n 1, 1) := by decide +kernel
theorem dX2_readsNumber_15 : decode cX2_readsNumber 15 = .ok (.iload_n 1, 1) := by decide +kernel
theorem dX2_readsNumber_16 : decode cX2_readsNumber 16 = .ok (.ifCond .eq 13, 3) := by decide +kernel
theorem dX2_readsNumber_19 : decode cX2_readsNumber 19 = .ok (.aload_n 0, 1) := by decide +kernel
theorem dX2_readsNumber_20 : decode cX2_readsNumber 20 = .ok (.dup, 1) := by decide +kernel
theorem dX2_readsNumber_21 : decode cX2_readsNumber 21 = .ok (.getfield 19, 3) := by decide +kernel
theorem dX2_readsNumber_24 : decode cX2_readsNumber 24 = .ok (.iconst 1, 1) := by decide +kernel
theorem dX2_readsNumber_25 : decode cX2_readsNumber 25 = .ok (.iadd, 1) := by decide +kernel
theorem dX2_readsNumber_26 : decode cX2_readsNumber 26 = .ok (.putfield 19, 3) := by decide +kernel
theorem dX2_readsNumber_29 : decode cX2_readsNumber 29 = .ok (.iconst 0, 1) := by decide +kernel
theorem dX2_readsNumber_30 : decode cX2_readsNumber 30 = .ok (.istore_n 2, 1) := by decide +kernel
theorem dX2_readsNumber_31 : decode cX2_readsNumber 31 = .ok (.iconst 0, 1) := by decide +kernel
theorem dX2_readsNumber_32 : decode cX2_readsNumber 32 = .ok (.istore_n 3, 1) := by decide +kernel
theorem dX2_readsNumber_33 : decode cX2_readsNumber 33 = .ok (.iload_n 3, 1) := by decide +kernel
theorem dX2_readsNumber_34 : decode cX2_readsNumber 34 = .ok (.iconst 3, 1) := by decide +kernel
theorem dX2_readsNumber_35 : decode cX2_readsNumber 35 = .ok (.if_icmp .gt 46, 3) := by decide +kernel
theorem dX2_readsNumber_38 : decode cX2_readsNumber 38 = .ok (.aload_n 0, 1) := by decide +kernel
theorem dX2_readsNumber_39 : decode cX2_readsNumber 39 = .ok (.invokevirtual 32, 3) := by decide +kernel
theorem dX2_readsNumber_42 : decode cX2_readsNumber 42 = .ok (.bipush 48, 2) := by decide +kernel
theorem dX2_readsNumber_44 : decode cX2_readsNumber 44 = .ok (.bipush 57, 2) := by decide +kernel
theorem dX2_readsNumber_46 : decode cX2_readsNumber 46 = .ok (.invokestatic 76, 3) := by decide +kernel
theorem dX2_readsNumber_49 : decode cX2_readsNumber 49 = .ok (.ifCond .eq 32, 3) := by decide +kernel
theorem dX2_readsNumber_52 : decode cX2_readsNumber 52 = .ok (.bipush 10, 2) := by decide +kernel
theorem dX2_readsNumber_54 : decode cX2_readsNumber 54 = .ok (.iload_n 2, 1) := by decide +kernel
theorem dX2_readsNumber_55 : decode cX2_readsNumber 55 = .ok (.imul, 1) := by decide +kernel
theorem dX2_readsNumber_56 : decode cX2_readsNumber 56 = .ok (.aload_n 0, 1) := by decide +kernel
theorem dX2_readsNumber_57 : decode cX2_readsNumber 57 = .ok (.invokevirtual 32, 3) := by decide +kernel
theorem dX2_readsNumber_60 : decode cX2_readsNumber 60 = .ok (.iadd, 1) := by decide +kernel
theorem dX2_readsNumber_61 : decode cX2_readsNumber 61 = .ok (.bipush 48, 2) := by decide +kernel
theorem dX2_readsNumber_63 : decode cX2_readsNumber 63 = .ok (.isub, 1) := by decide +kernel
theorem dX2_readsNumber_64 : decode cX2_readsNumber 64 = .ok (.istore_n 2, 1) := by decide +kernel
theorem dX2_readsNumber_65 : decode cX2_readsNumber 65 = .ok (.iinc 3 1, 3) := by decide +kernel
theorem dX2_readsNumber_68 : decode cX2_readsNumber 68 = .ok (.aload_n 0, 1) := by decide +kernel
theorem dX2_readsNumber_69 : decode cX2_readsNumber 69 = .ok (.dup, 1) := by decide +kernel
theorem dX2_readsNumber_70 : decode cX2_readsNumber 70 = .ok (.getfield 19, 3) := by decide +kernel
theorem dX2_readsNumber_73 : decode cX2_readsNumber 73 = .ok (.iconst 1, 1) := by decide +kernel
theorem dX2_readsNumber_74 : decode cX2_readsNumber 74 = .ok (.iadd, 1) := by decide +kernel
theorem dX2_readsNumber_75 : decode cX2_readsNumber 75 = .ok (.putfield 19, 3) := by decide +kernel
theorem dX2_readsNumber_78 : decode cX2_readsNumber 78 = .ok (.goto (-45), 3) := by decide +kernel
theorem dX2_readsNumber_81 : decode cX2_readsNumber 81 = .ok (.aload_n 0, 1) := by decide +kernel
theorem dX2_readsNumber_82 : decode cX2_readsNumber 82 = .ok (.iload_n 1, 1) := by decide +kernel
theorem dX2_readsNumber_83 : decode cX2_readsNumber 83 = .ok (.ifCond .eq 8, 3) := by decide +kernel
theorem dX2_readsNumber_86 : decode cX2_readsNumber 86 = .ok (.iload_n 2, 1) := by decide +kernel
theorem dX2_readsNumber_87 : decode cX2_readsNumber 87 = .ok (.ineg, 1) := by decide +kernel
theorem dX2_readsNumber_88 : decode cX2_readsNumber 88 = .ok (.goto 4, 3) := by decide +kernel
theorem dX2_readsNumber_91 : decode cX2_readsNumber 91 = .ok (.iload_n 2, 1) := by decide +kernel
theorem dX2_readsNumber_92 : decode cX2_readsNumber 92 = .ok (.putfield 65, 3) := by decide +kernel
theorem dX2_readsNumber_95 : decode cX2_readsNumber 95 = .ok (.iload_n 3, 1) := by decide +kernel
theorem dX2_readsNumber_96 : decode cX2_readsNumber 96 = .ok (.iconst 1, 1) := by decide +kernel
theorem dX2_readsNumber_97 : decode cX2_readsNumber 97 = .ok (.iconst 3, 1) := by decide +kernel
theorem dX2_readsNumber_98 : decode cX2_readsNumber 98 = .ok (.invokestatic 76, 3) := by decide +kernel
theorem dX2_readsNumber_101 : decode cX2_readsNumber 101 = .ok (.ireturn, 1) := by decide +kernel
theorem dX2_skipsBlanks_0 : decode cX2_skipsBlanks 0 = .ok (.aload_n 0, 1) := by decide +kernel
theorem dX2_skipsBlanks_1 : decode cX2_skipsBlanks 1 = .ok (.getfield 19, 3) := by decide +kernel
theorem dX2_skipsBlanks_4 : decode cX2_skipsBlanks 4 = .ok (.aload_n 0, 1) := by decide +kernel
theorem dX2_skipsBlanks_5 : decode cX2_skipsBlanks 5 = .ok (.getfield 15, 3) := by decide +kernel
theorem dX2_skipsBlanks_8 : decode cX2_skipsBlanks 8 = .ok (.if_icmp .ge 25, 3) := by decide +kernel
theorem dX2_skipsBlanks_11 : decode cX2_skipsBlanks 11 = .ok (.aload_n 0, 1) := by decide +kernel
theorem dX2_skipsBlanks_12 : decode cX2_skipsBlanks 12 = .ok (.invokevirtual 32, 3) := by decide +kernel
theorem dX2_skipsBlanks_15 : decode cX2_skipsBlanks 15 = .ok (.bipush 32, 2) := by decide +kernel
theorem dX2_skipsBlanks_17 : decode cX2_skipsBlanks 17 = .ok (.if_icmp .ne 16, 3) := by decide +kernel
theorem dX2_skipsBlanks_20 : decode cX2_skipsBlanks 20 = .ok (.aload_n 0, 1) := by decide +kernel
theorem dX2_skipsBlanks_21 : decode cX2_skipsBlanks 21 = .ok (.dup, 1) := by decide +kernel
theorem dX2_skipsBlanks_22 : decode cX2_skipsBlanks 22 = .ok (.getfield 19, 3) := by decide +kernel
theorem dX2_skipsBlanks_25 : decode cX2_skipsBlanks 25 = .ok (.iconst 1, 1) := by decide +kernel
theorem dX2_skipsBlanks_26 : decode cX2_skipsBlanks 26 = .ok (.iadd, 1) := by decide +kernel
theorem dX2_skipsBlanks_27 : decode cX2_skipsBlanks 27 = .ok (.putfield 19, 3) := by decide +kernel
theorem dX2_skipsBlanks_30 : decode cX2_skipsBlanks 30 = .ok (.goto (-30), 3) := by decide +kernel
theorem dX2_skipsBlanks_33 : decode cX2_skipsBlanks 33 = .ok (.return_, 1) := by decide +kernel
theorem dX2_byteHere_0 : decode cX2_byteHere 0 = .ok (.aload_n 0, 1) := by decide +kernel
theorem dX2_byteHere_1 : decode cX2_byteHere 1 = .ok (.getfield 19, 3) := by decide +kernel
theorem dX2_byteHere_4 : decode cX2_byteHere 4 = .ok (.iconst 0, 1) := by decide +kernel
theorem dX2_byteHere_5 : decode cX2_byteHere 5 = .ok (.aload_n 0, 1) := by decide +kernel
theorem dX2_byteHere_6 : decode cX2_byteHere 6 = .ok (.getfield 15, 3) := by decide +kernel
theorem dX2_byteHere_9 : decode cX2_byteHere 9 = .ok (.iconst 1, 1) := by decide +kernel
theorem dX2_byteHere_10 : decode cX2_byteHere 10 = .ok (.isub, 1) := by decide +kernel
theorem dX2_byteHere_11 : decode cX2_byteHere 11 = .ok (.invokestatic 76, 3) := by decide +kernel
theorem dX2_byteHere_14 : decode cX2_byteHere 14 = .ok (.ifCond .eq 15, 3) := by decide +kernel
theorem dX2_byteHere_17 : decode cX2_byteHere 17 = .ok (.aload_n 0, 1) := by decide +kernel
theorem dX2_byteHere_18 : decode cX2_byteHere 18 = .ok (.getfield 9, 3) := by decide +kernel
theorem dX2_byteHere_21 : decode cX2_byteHere 21 = .ok (.aload_n 0, 1) := by decide +kernel
theorem dX2_byteHere_22 : decode cX2_byteHere 22 = .ok (.getfield 19, 3) := by decide +kernel
theorem dX2_byteHere_25 : decode cX2_byteHere 25 = .ok (.baload, 1) := by decide +kernel
theorem dX2_byteHere_26 : decode cX2_byteHere 26 = .ok (.goto 4, 3) := by decide +kernel
theorem dX2_byteHere_29 : decode cX2_byteHere 29 = .ok (.iconst (-1), 1) := by decide +kernel
theorem dX2_byteHere_30 : decode cX2_byteHere 30 = .ok (.ireturn, 1) := by decide +kernel
theorem dX2_openingsAfter_0 : decode cX2_openingsAfter 0 = .ok (.aload_n 0, 1) := by decide +kernel
theorem dX2_openingsAfter_1 : decode cX2_openingsAfter 1 = .ok (.getfield 80, 3) := by decide +kernel
theorem dX2_openingsAfter_4 : decode cX2_openingsAfter 4 = .ok (.lookupswitch 34 #[(107, 32), (111, 28)], 28) := by decide +kernel
theorem dX2_openingsAfter_32 : decode cX2_openingsAfter 32 = .ok (.iload_n 1, 1) := by decide +kernel
theorem dX2_openingsAfter_33 : decode cX2_openingsAfter 33 = .ok (.iconst 1, 1) := by decide +kernel
theorem dX2_openingsAfter_34 : decode cX2_openingsAfter 34 = .ok (.iadd, 1) := by decide +kernel
theorem dX2_openingsAfter_35 : decode cX2_openingsAfter 35 = .ok (.ireturn, 1) := by decide +kernel
theorem dX2_openingsAfter_36 : decode cX2_openingsAfter 36 = .ok (.iconst 0, 1) := by decide +kernel
theorem dX2_openingsAfter_37 : decode cX2_openingsAfter 37 = .ok (.ireturn, 1) := by decide +kernel
theorem dX2_openingsAfter_38 : decode cX2_openingsAfter 38 = .ok (.iload_n 1, 1) := by decide +kernel
theorem dX2_openingsAfter_39 : decode cX2_openingsAfter 39 = .ok (.ireturn, 1) := by decide +kernel
theorem dX3_init_0 : decode cX3_init 0 = .ok (.aload_n 0, 1) := by decide +kernel
theorem dX3_init_1 : decode cX3_init 1 = .ok (.invokespecial 3, 3) := by decide +kernel
theorem dX3_init_4 : decode cX3_init 4 = .ok (.aload_n 0, 1) := by decide +kernel
theorem dX3_init_5 : decode cX3_init 5 = .ok (.bipush 24, 2) := by decide +kernel
theorem dX3_init_7 : decode cX3_init 7 = .ok (.newarray .int, 2) := by decide +kernel
theorem dX3_init_9 : decode cX3_init 9 = .ok (.putfield 9, 3) := by decide +kernel
theorem dX3_init_12 : decode cX3_init 12 = .ok (.aload_n 0, 1) := by decide +kernel
theorem dX3_init_13 : decode cX3_init 13 = .ok (.bipush 24, 2) := by decide +kernel
theorem dX3_init_15 : decode cX3_init 15 = .ok (.newarray .int, 2) := by decide +kernel
theorem dX3_init_17 : decode cX3_init 17 = .ok (.putfield 15, 3) := by decide +kernel
theorem dX3_init_20 : decode cX3_init 20 = .ok (.aload_n 0, 1) := by decide +kernel
theorem dX3_init_21 : decode cX3_init 21 = .ok (.aload_n 1, 1) := by decide +kernel
theorem dX3_init_22 : decode cX3_init 22 = .ok (.putfield 18, 3) := by decide +kernel
theorem dX3_init_25 : decode cX3_init 25 = .ok (.aload_n 0, 1) := by decide +kernel
theorem dX3_init_26 : decode cX3_init 26 = .ok (.aload_n 2, 1) := by decide +kernel
theorem dX3_init_27 : decode cX3_init 27 = .ok (.putfield 22, 3) := by decide +kernel
theorem dX3_init_30 : decode cX3_init 30 = .ok (.return_, 1) := by decide +kernel
theorem dX3_performs_0 : decode cX3_performs 0 = .ok (.aload_n 1, 1) := by decide +kernel
theorem dX3_performs_1 : decode cX3_performs 1 = .ok (.getfield 26, 3) := by decide +kernel
theorem dX3_performs_4 : decode cX3_performs 4 = .ok (.tableswitch 163 99 114 #[118, 163, 163, 92, 163, 163, 163, 163, 153, 86, 80, 163, 124, 163, 163, 112], 80) := by decide +kernel
theorem dX3_performs_84 : decode cX3_performs 84 = .ok (.aload_n 0, 1) := by decide +kernel
theorem dX3_performs_85 : decode cX3_performs 85 = .ok (.aload_n 1, 1) := by decide +kernel
theorem dX3_performs_86 : decode cX3_performs 86 = .ok (.invokevirtual 32, 3) := by decide +kernel
theorem dX3_performs_89 : decode cX3_performs 89 = .ok (.ireturn, 1) := by decide +kernel
theorem dX3_performs_90 : decode cX3_performs 90 = .ok (.aload_n 0, 1) := by decide +kernel
theorem dX3_performs_91 : decode cX3_performs 91 = .ok (.aload_n 1, 1) := by decide +kernel
theorem dX3_performs_92 : decode cX3_performs 92 = .ok (.invokevirtual 36, 3) := by decide +kernel
theorem dX3_performs_95 : decode cX3_performs 95 = .ok (.ireturn, 1) := by decide +kernel
theorem dX3_performs_96 : decode cX3_performs 96 = .ok (.aload_n 0, 1) := by decide +kernel
theorem dX3_performs_97 : decode cX3_performs 97 = .ok (.aload_n 1, 1) := by decide +kernel
theorem dX3_performs_98 : decode cX3_performs 98 = .ok (.iconst 0, 1) := by decide +kernel
theorem dX3_performs_99 : decode cX3_performs 99 = .ok (.invokevirtual 39, 3) := by decide +kernel
theorem dX3_performs_102 : decode cX3_performs 102 = .ok (.aload_n 1, 1) := by decide +kernel
theorem dX3_performs_103 : decode cX3_performs 103 = .ok (.iconst 1, 1) := by decide +kernel
theorem dX3_performs_104 : decode cX3_performs 104 = .ok (.invokevirtual 39, 3) := by decide +kernel
theorem dX3_performs_107 : decode cX3_performs 107 = .ok (.aload_n 1, 1) := by decide +kernel
theorem dX3_performs_108 : decode cX3_performs 108 = .ok (.iconst 2, 1) := by decide +kernel
theorem dX3_performs_109 : decode cX3_performs 109 = .ok (.invokevirtual 39, 3) := by decide +kernel
theorem dX3_performs_112 : decode cX3_performs 112 = .ok (.invokevirtual 43, 3) := by decide +kernel
theorem dX3_performs_115 : decode cX3_performs 115 = .ok (.ireturn, 1) := by decide +kernel
theorem dX3_performs_116 : decode cX3_performs 116 = .ok (.aload_n 0, 1) := by decide +kernel
theorem dX3_performs_117 : decode cX3_performs 117 = .ok (.aload_n 1, 1) := by decide +kernel
theorem dX3_performs_118 : decode cX3_performs 118 = .ok (.invokevirtual 47, 3) := by decide +kernel
theorem dX3_performs_121 : decode cX3_performs 121 = .ok (.ireturn, 1) := by decide +kernel
theorem dX3_performs_122 : decode cX3_performs 122 = .ok (.aload_n 0, 1) := by decide +kernel
theorem dX3_performs_123 : decode cX3_performs 123 = .ok (.aload_n 1, 1) := by decide +kernel
theorem dX3_performs_124 : decode cX3_performs 124 = .ok (.invokevirtual 50, 3) := by decide +kernel
theorem dX3_performs_127 : decode cX3_performs 127 = .ok (.ireturn, 1) := by decide +kernel
theorem dX3_performs_128 : decode cX3_performs 128 = .ok (.aload_n 0, 1) := by decide +kernel
theorem dX3_performs_129 : decode cX3_performs 129 = .ok (.getfield 18, 3) := by decide +kernel
theorem dX3_performs_132 : decode cX3_performs 132 = .ok (.aload_n 1, 1) := by decide +kernel
theorem dX3_performs_133 : decode cX3_performs 133 = .ok (.iconst 0, 1) := by decide +kernel
theorem dX3_performs_134 : decode cX3_performs 134 = .ok (.invokevirtual 39, 3) := by decide +kernel
theorem dX3_performs_137 : decode cX3_performs 137 = .ok (.aload_n 1, 1) := by decide +kernel
theorem dX3_performs_138 : decode cX3_performs 138 = .ok (.iconst 1, 1) := by decide +kernel
theorem dX3_performs_139 : decode cX3_performs 139 = .ok (.invokevirtual 39, 3) := by decide +kernel
theorem dX3_performs_142 : decode cX3_performs 142 = .ok (.aload_n 1, 1) := by decide +kernel
theorem dX3_performs_143 : decode cX3_performs 143 = .ok (.iconst 2, 1) := by decide +kernel
theorem dX3_performs_144 : decode cX3_performs 144 = .ok (.invokevirtual 39, 3) := by decide +kernel
theorem dX3_performs_147 : decode cX3_performs 147 = .ok (.aload_n 1, 1) := by decide +kernel
theorem dX3_performs_148 : decode cX3_performs 148 = .ok (.iconst 3, 1) := by decide +kernel
theorem dX3_performs_149 : decode cX3_performs 149 = .ok (.invokevirtual 39, 3) := by decide +kernel
theorem dX3_performs_152 : decode cX3_performs 152 = .ok (.invokevirtual 53, 3) := by decide +kernel
theorem dX3_performs_155 : decode cX3_performs 155 = .ok (.iconst 0, 1) := by decide +kernel
theorem dX3_performs_156 : decode cX3_performs 156 = .ok (.ireturn, 1) := by decide +kernel
theorem dX3_performs_157 : decode cX3_performs 157 = .ok (.aload_n 0, 1) := by decide +kernel
theorem dX3_performs_158 : decode cX3_performs 158 = .ok (.getfield 18, 3) := by decide +kernel
theorem dX3_performs_161 : decode cX3_performs 161 = .ok (.iconst 0, 1) := by decide +kernel
theorem dX3_performs_162 : decode cX3_performs 162 = .ok (.putfield 59, 3) := by decide +kernel
theorem dX3_performs_165 : decode cX3_performs 165 = .ok (.iconst 0, 1) := by decide +kernel
theorem dX3_performs_166 : decode cX3_performs 166 = .ok (.ireturn, 1) := by decide +kernel
theorem dX3_performs_167 : decode cX3_performs 167 = .ok (.iconst 0, 1) := by decide +kernel
theorem dX3_performs_168 : decode cX3_performs 168 = .ok (.ireturn, 1) := by decide +kernel
theorem dX3_movesBlock_0 : decode cX3_movesBlock 0 = .ok (.aload_n 0, 1) := by decide +kernel
theorem dX3_movesBlock_1 : decode cX3_movesBlock 1 = .ok (.aload_n 1, 1) := by decide +kernel
theorem dX3_movesBlock_2 : decode cX3_movesBlock 2 = .ok (.iconst 0, 1) := by decide +kernel
theorem dX3_movesBlock_3 : decode cX3_movesBlock 3 = .ok (.invokevirtual 39, 3) := by decide +kernel
theorem dX3_movesBlock_6 : decode cX3_movesBlock 6 = .ok (.invokevirtual 62, 3) := by decide +kernel
theorem dX3_movesBlock_9 : decode cX3_movesBlock 9 = .ok (.aload_n 1, 1) := by decide +kernel
theorem dX3_movesBlock_10 : decode cX3_movesBlock 10 = .ok (.iconst 1, 1) := by decide +kernel
theorem dX3_movesBlock_11 : decode cX3_movesBlock 11 = .ok (.invokevirtual 39, 3) := by decide +kernel
theorem dX3_movesBlock_14 : decode cX3_movesBlock 14 = .ok (.istore_n 2, 1) := by decide +kernel
theorem dX3_movesBlock_15 : decode cX3_movesBlock 15 = .ok (.aload_n 1, 1) := by decide +kernel
theorem dX3_movesBlock_16 : decode cX3_movesBlock 16 = .ok (.iconst 2, 1) := by decide +kernel
theorem dX3_movesBlock_17 : decode cX3_movesBlock 17 = .ok (.invokevirtual 39, 3) := by decide +kernel
theorem dX3_movesBlock_20 : decode cX3_movesBlock 20 = .ok (.istore_n 3, 1) := by decide +kernel
theorem dX3_movesBlock_21 : decode cX3_movesBlock 21 = .ok (.aload_n 1, 1) := by decide +kernel
theorem dX3_movesBlock_22 : decode cX3_movesBlock 22 = .ok (.iconst 4, 1) := by decide +kernel
theorem dX3_movesBlock_23 : decode cX3_movesBlock 23 = .ok (.invokevirtual 39, 3) := by decide +kernel
theorem dX3_movesBlock_26 : decode cX3_movesBlock 26 = .ok (.istore 4, 2) := by decide +kernel
theorem dX3_movesBlock_28 : decode cX3_movesBlock 28 = .ok (.aload_n 1, 1) := by decide +kernel
theorem dX3_movesBlock_29 : decode cX3_movesBlock 29 = .ok (.iconst 5, 1) := by decide +kernel
theorem dX3_movesBlock_30 : decode cX3_movesBlock 30 = .ok (.invokevirtual 39, 3) := by decide +kernel
theorem dX3_movesBlock_33 : decode cX3_movesBlock 33 = .ok (.istore 5, 2) := by decide +kernel
theorem dX3_movesBlock_35 : decode cX3_movesBlock 35 = .ok (.aload_n 1, 1) := by decide +kernel
theorem dX3_movesBlock_36 : decode cX3_movesBlock 36 = .ok (.bipush 6, 2) := by decide +kernel
theorem dX3_movesBlock_38 : decode cX3_movesBlock 38 = .ok (.invokevirtual 39, 3) := by decide +kernel
theorem dX3_movesBlock_41 : decode cX3_movesBlock 41 = .ok (.istore 6, 2) := by decide +kernel
theorem dX3_movesBlock_43 : decode cX3_movesBlock 43 = .ok (.aload_n 1, 1) := by decide +kernel
theorem dX3_movesBlock_44 : decode cX3_movesBlock 44 = .ok (.bipush 7, 2) := by decide +kernel
theorem dX3_movesBlock_46 : decode cX3_movesBlock 46 = .ok (.invokevirtual 39, 3) := by decide +kernel
theorem dX3_movesBlock_49 : decode cX3_movesBlock 49 = .ok (.istore 7, 2) := by decide +kernel
theorem dX3_movesBlock_51 : decode cX3_movesBlock 51 = .ok (.iload 6, 2) := by decide +kernel
theorem dX3_movesBlock_53 : decode cX3_movesBlock 53 = .ok (.aload_n 1, 1) := by decide +kernel
theorem dX3_movesBlock_54 : decode cX3_movesBlock 54 = .ok (.iconst 3, 1) := by decide +kernel
theorem dX3_movesBlock_55 : decode cX3_movesBlock 55 = .ok (.invokevirtual 39, 3) := by decide +kernel
theorem dX3_movesBlock_58 : decode cX3_movesBlock 58 = .ok (.invokestatic 66, 3) := by decide +kernel
theorem dX3_movesBlock_61 : decode cX3_movesBlock 61 = .ok (.istore 8, 2) := by decide +kernel
theorem dX3_movesBlock_63 : decode cX3_movesBlock 63 = .ok (.iconst 0, 1) := by decide +kernel
theorem dX3_movesBlock_64 : decode cX3_movesBlock 64 = .ok (.istore 9, 2) := by decide +kernel
theorem dX3_movesBlock_66 : decode cX3_movesBlock 66 = .ok (.iconst 0, 1) := by decide +kernel
theorem dX3_movesBlock_67 : decode cX3_movesBlock 67 = .ok (.istore 10, 2) := by decide +kernel
theorem dX3_movesBlock_69 : decode cX3_movesBlock 69 = .ok (.iload 10, 2) := by decide +kernel
theorem dX3_movesBlock_71 : decode cX3_movesBlock 71 = .ok (.iload 4, 2) := by decide +kernel
theorem dX3_movesBlock_73 : decode cX3_movesBlock 73 = .ok (.if_icmp .ge 62, 3) := by decide +kernel
theorem dX3_movesBlock_76 : decode cX3_movesBlock 76 = .ok (.iload 10, 2) := by decide +kernel
theorem dX3_movesBlock_78 : decode cX3_movesBlock 78 = .ok (.bipush 64, 2) := by decide +kernel
theorem dX3_movesBlock_80 : decode cX3_movesBlock 80 = .ok (.if_icmp .ge 55, 3) := by decide +kernel
theorem dX3_movesBlock_83 : decode cX3_movesBlock 83 = .ok (.aload_n 0, 1) := by decide +kernel
theorem dX3_movesBlock_84 : decode cX3_movesBlock 84 = .ok (.iload_n 3, 1) := by decide +kernel
theorem dX3_movesBlock_85 : decode cX3_movesBlock 85 = .ok (.iload 10, 2) := by decide +kernel
theorem dX3_movesBlock_87 : decode cX3_movesBlock 87 = .ok (.iadd, 1) := by decide +kernel
theorem dX3_movesBlock_88 : decode cX3_movesBlock 88 = .ok (.invokevirtual 70, 3) := by decide +kernel
theorem dX3_movesBlock_91 : decode cX3_movesBlock 91 = .ok (.iload 6, 2) := by decide +kernel
theorem dX3_movesBlock_93 : decode cX3_movesBlock 93 = .ok (.iload_n 2, 1) := by decide +kernel
theorem dX3_movesBlock_94 : decode cX3_movesBlock 94 = .ok (.isub, 1) := by decide +kernel
theorem dX3_movesBlock_95 : decode cX3_movesBlock 95 = .ok (.invokestatic 73, 3) := by decide +kernel
theorem dX3_movesBlock_98 : decode cX3_movesBlock 98 = .ok (.istore 11, 2) := by decide +kernel
theorem dX3_movesBlock_100 : decode cX3_movesBlock 100 = .ok (.iload 9, 2) := by decide +kernel
theorem dX3_movesBlock_102 : decode cX3_movesBlock 102 = .ok (.aload_n 0, 1) := by decide +kernel
theorem dX3_movesBlock_103 : decode cX3_movesBlock 103 = .ok (.getfield 18, 3) := by decide +kernel
theorem dX3_movesBlock_106 : decode cX3_movesBlock 106 = .ok (.iload 5, 2) := by decide +kernel
theorem dX3_movesBlock_108 : decode cX3_movesBlock 108 = .ok (.iload 7, 2) := by decide +kernel
theorem dX3_movesBlock_110 : decode cX3_movesBlock 110 = .ok (.iload 10, 2) := by decide +kernel
theorem dX3_movesBlock_112 : decode cX3_movesBlock 112 = .ok (.iadd, 1) := by decide +kernel
theorem dX3_movesBlock_113 : decode cX3_movesBlock 113 = .ok (.iload 8, 2) := by decide +kernel
theorem dX3_movesBlock_115 : decode cX3_movesBlock 115 = .ok (.iload 11, 2) := by decide +kernel
theorem dX3_movesBlock_117 : decode cX3_movesBlock 117 = .ok (.aload_n 1, 1) := by decide +kernel
theorem dX3_movesBlock_118 : decode cX3_movesBlock 118 = .ok (.bipush 8, 2) := by decide +kernel
theorem dX3_movesBlock_120 : decode cX3_movesBlock 120 = .ok (.invokevirtual 39, 3) := by decide +kernel
theorem dX3_movesBlock_123 : decode cX3_movesBlock 123 = .ok (.invokevirtual 76, 3) := by decide +kernel
theorem dX3_movesBlock_126 : decode cX3_movesBlock 126 = .ok (.iadd, 1) := by decide +kernel
theorem dX3_movesBlock_127 : decode cX3_movesBlock 127 = .ok (.istore 9, 2) := by decide +kernel
theorem dX3_movesBlock_129 : decode cX3_movesBlock 129 = .ok (.iinc 10 1, 3) := by decide +kernel
theorem dX3_movesBlock_132 : decode cX3_movesBlock 132 = .ok (.goto (-63), 3) := by decide +kernel
theorem dX3_movesBlock_135 : decode cX3_movesBlock 135 = .ok (.iload 9, 2) := by decide +kernel
theorem dX3_movesBlock_137 : decode cX3_movesBlock 137 = .ok (.ireturn, 1) := by decide +kernel
theorem dX3_keepsSource_0 : decode cX3_keepsSource 0 = .ok (.iconst 0, 1) := by decide +kernel
theorem dX3_keepsSource_1 : decode cX3_keepsSource 1 = .ok (.istore_n 2, 1) := by decide +kernel
theorem dX3_keepsSource_2 : decode cX3_keepsSource 2 = .ok (.iload_n 2, 1) := by decide +kernel
theorem dX3_keepsSource_3 : decode cX3_keepsSource 3 = .ok (.bipush 24, 2) := by decide +kernel
theorem dX3_keepsSource_5 : decode cX3_keepsSource 5 = .ok (.if_icmp .ge 24, 3) := by decide +kernel
theorem dX3_keepsSource_8 : decode cX3_keepsSource 8 = .ok (.aload_n 0, 1) := by decide +kernel
theorem dX3_keepsSource_9 : decode cX3_keepsSource 9 = .ok (.getfield 9, 3) := by decide +kernel
theorem dX3_keepsSource_12 : decode cX3_keepsSource 12 = .ok (.iload_n 2, 1) := by decide +kernel
theorem dX3_keepsSource_13 : decode cX3_keepsSource 13 = .ok (.aload_n 0, 1) := by decide +kernel
theorem dX3_keepsSource_14 : decode cX3_keepsSource 14 = .ok (.getfield 18, 3) := by decide +kernel
theorem dX3_keepsSource_17 : decode cX3_keepsSource 17 = .ok (.iload_n 1, 1) := by decide +kernel
theorem dX3_keepsSource_18 : decode cX3_keepsSource 18 = .ok (.iload_n 2, 1) := by decide +kernel
theorem dX3_keepsSource_19 : decode cX3_keepsSource 19 = .ok (.invokevirtual 80, 3) := by decide +kernel
theorem dX3_keepsSource_22 : decode cX3_keepsSource 22 = .ok (.iastore, 1) := by decide +kernel
theorem dX3_keepsSource_23 : decode cX3_keepsSource 23 = .ok (.iinc 2 1, 3) := by decide +kernel
theorem dX3_keepsSource_26 : decode cX3_keepsSource 26 = .ok (.goto (-24), 3) := by decide +kernel
theorem dX3_keepsSource_29 : decode cX3_keepsSource 29 = .ok (.return_, 1) := by decide +kernel
theorem dX3_sourceAt_0 : decode cX3_sourceAt 0 = .ok (.iload_n 1, 1) := by decide +kernel
theorem dX3_sourceAt_1 : decode cX3_sourceAt 1 = .ok (.iconst 0, 1) := by decide +kernel
theorem dX3_sourceAt_2 : decode cX3_sourceAt 2 = .ok (.bipush 23, 2) := by decide +kernel
theorem dX3_sourceAt_4 : decode cX3_sourceAt 4 = .ok (.invokestatic 83, 3) := by decide +kernel
theorem dX3_sourceAt_7 : decode cX3_sourceAt 7 = .ok (.ifCond .eq 12, 3) := by decide +kernel
theorem dX3_sourceAt_10 : decode cX3_sourceAt 10 = .ok (.aload_n 0, 1) := by decide +kernel
theorem dX3_sourceAt_11 : decode cX3_sourceAt 11 = .ok (.getfield 9, 3) := by decide +kernel
theorem dX3_sourceAt_14 : decode cX3_sourceAt 14 = .ok (.iload_n 1, 1) := by decide +kernel
theorem dX3_sourceAt_15 : decode cX3_sourceAt 15 = .ok (.iaload, 1) := by decide +kernel
theorem dX3_sourceAt_16 : decode cX3_sourceAt 16 = .ok (.goto 4, 3) := by decide +kernel
theorem dX3_sourceAt_19 : decode cX3_sourceAt 19 = .ok (.iconst 0, 1) := by decide +kernel
theorem dX3_sourceAt_20 : decode cX3_sourceAt 20 = .ok (.ireturn, 1) := by decide +kernel
theorem dX3_drawsLine_0 : decode cX3_drawsLine 0 = .ok (.aload_n 1, 1) := by decide +kernel
theorem dX3_drawsLine_1 : decode cX3_drawsLine 1 = .ok (.iconst 1, 1) := by decide +kernel
theorem dX3_drawsLine_2 : decode cX3_drawsLine 2 = .ok (.invokevirtual 39, 3) := by decide +kernel
theorem dX3_drawsLine_5 : decode cX3_drawsLine 5 = .ok (.istore_n 2, 1) := by decide +kernel
theorem dX3_drawsLine_6 : decode cX3_drawsLine 6 = .ok (.aload_n 1, 1) := by decide +kernel
theorem dX3_drawsLine_7 : decode cX3_drawsLine 7 = .ok (.iconst 2, 1) := by decide +kernel
theorem dX3_drawsLine_8 : decode cX3_drawsLine 8 = .ok (.invokevirtual 39, 3) := by decide +kernel
theorem dX3_drawsLine_11 : decode cX3_drawsLine 11 = .ok (.istore_n 3, 1) := by decide +kernel
theorem dX3_drawsLine_12 : decode cX3_drawsLine 12 = .ok (.aload_n 1, 1) := by decide +kernel
theorem dX3_drawsLine_13 : decode cX3_drawsLine 13 = .ok (.iconst 3, 1) := by decide +kernel
theorem dX3_drawsLine_14 : decode cX3_drawsLine 14 = .ok (.invokevirtual 39, 3) := by decide +kernel
theorem dX3_drawsLine_17 : decode cX3_drawsLine 17 = .ok (.istore 4, 2) := by decide +kernel
theorem dX3_drawsLine_19 : decode cX3_drawsLine 19 = .ok (.aload_n 1, 1) := by decide +kernel
theorem dX3_drawsLine_20 : decode cX3_drawsLine 20 = .ok (.iconst 4, 1) := by decide +kernel
theorem dX3_drawsLine_21 : decode cX3_drawsLine 21 = .ok (.invokevirtual 39, 3) := by decide +kernel
theorem dX3_drawsLine_24 : decode cX3_drawsLine 24 = .ok (.istore 5, 2) := by decide +kernel
theorem dX3_drawsLine_26 : decode cX3_drawsLine 26 = .ok (.iload 4, 2) := by decide +kernel
theorem dX3_drawsLine_28 : decode cX3_drawsLine 28 = .ok (.iload_n 2, 1) := by decide +kernel
theorem dX3_drawsLine_29 : decode cX3_drawsLine 29 = .ok (.isub, 1) := by decide +kernel
theorem dX3_drawsLine_30 : decode cX3_drawsLine 30 = .ok (.invokestatic 87, 3) := by decide +kernel
theorem dX3_drawsLine_33 : decode cX3_drawsLine 33 = .ok (.iload 5, 2) := by decide +kernel
theorem dX3_drawsLine_35 : decode cX3_drawsLine 35 = .ok (.iload_n 3, 1) := by decide +kernel
theorem dX3_drawsLine_36 : decode cX3_drawsLine 36 = .ok (.isub, 1) := by decide +kernel
theorem dX3_drawsLine_37 : decode cX3_drawsLine 37 = .ok (.invokestatic 87, 3) := by decide +kernel
theorem dX3_drawsLine_40 : decode cX3_drawsLine 40 = .ok (.invokestatic 92, 3) := by decide +kernel
theorem dX3_drawsLine_43 : decode cX3_drawsLine 43 = .ok (.istore 6, 2) := by decide +kernel
theorem dX3_drawsLine_45 : decode cX3_drawsLine 45 = .ok (.iconst 0, 1) := by decide +kernel
theorem dX3_drawsLine_46 : decode cX3_drawsLine 46 = .ok (.istore 7, 2) := by decide +kernel
theorem dX3_drawsLine_48 : decode cX3_drawsLine 48 = .ok (.iconst 0, 1) := by decide +kernel
theorem dX3_drawsLine_49 : decode cX3_drawsLine 49 = .ok (.istore 8, 2) := by decide +kernel
theorem dX3_drawsLine_51 : decode cX3_drawsLine 51 = .ok (.iload 8, 2) := by decide +kernel
theorem dX3_drawsLine_53 : decode cX3_drawsLine 53 = .ok (.iload 6, 2) := by decide +kernel
theorem dX3_drawsLine_55 : decode cX3_drawsLine 55 = .ok (.if_icmp .gt 71, 3) := by decide +kernel
theorem dX3_drawsLine_58 : decode cX3_drawsLine 58 = .ok (.iload 8, 2) := by decide +kernel
theorem dX3_drawsLine_60 : decode cX3_drawsLine 60 = .ok (.bipush 127, 2) := by decide +kernel
theorem dX3_drawsLine_62 : decode cX3_drawsLine 62 = .ok (.if_icmp .gt 64, 3) := by decide +kernel
theorem dX3_drawsLine_65 : decode cX3_drawsLine 65 = .ok (.iload_n 2, 1) := by decide +kernel
theorem dX3_drawsLine_66 : decode cX3_drawsLine 66 = .ok (.iload 4, 2) := by decide +kernel
theorem dX3_drawsLine_68 : decode cX3_drawsLine 68 = .ok (.iload 8, 2) := by decide +kernel
theorem dX3_drawsLine_70 : decode cX3_drawsLine 70 = .ok (.iload 6, 2) := by decide +kernel
theorem dX3_drawsLine_72 : decode cX3_drawsLine 72 = .ok (.invokestatic 95, 3) := by decide +kernel
theorem dX3_drawsLine_75 : decode cX3_drawsLine 75 = .ok (.iconst 1, 1) := by decide +kernel
theorem dX3_drawsLine_76 : decode cX3_drawsLine 76 = .ok (.invokestatic 66, 3) := by decide +kernel
theorem dX3_drawsLine_79 : decode cX3_drawsLine 79 = .ok (.istore 9, 2) := by decide +kernel
theorem dX3_drawsLine_81 : decode cX3_drawsLine 81 = .ok (.iload_n 3, 1) := by decide +kernel
theorem dX3_drawsLine_82 : decode cX3_drawsLine 82 = .ok (.iload 5, 2) := by decide +kernel
theorem dX3_drawsLine_84 : decode cX3_drawsLine 84 = .ok (.iload 8, 2) := by decide +kernel
theorem dX3_drawsLine_86 : decode cX3_drawsLine 86 = .ok (.iload 6, 2) := by decide +kernel
theorem dX3_drawsLine_88 : decode cX3_drawsLine 88 = .ok (.invokestatic 95, 3) := by decide +kernel
theorem dX3_drawsLine_91 : decode cX3_drawsLine 91 = .ok (.istore 10, 2) := by decide +kernel
theorem dX3_drawsLine_93 : decode cX3_drawsLine 93 = .ok (.iload 7, 2) := by decide +kernel
theorem dX3_drawsLine_95 : decode cX3_drawsLine 95 = .ok (.aload_n 0, 1) := by decide +kernel
theorem dX3_drawsLine_96 : decode cX3_drawsLine 96 = .ok (.getfield 18, 3) := by decide +kernel
theorem dX3_drawsLine_99 : decode cX3_drawsLine 99 = .ok (.aload_n 1, 1) := by decide +kernel
theorem dX3_drawsLine_100 : decode cX3_drawsLine 100 = .ok (.iconst 0, 1) := by decide +kernel
theorem dX3_drawsLine_101 : decode cX3_drawsLine 101 = .ok (.invokevirtual 39, 3) := by decide +kernel
theorem dX3_drawsLine_104 : decode cX3_drawsLine 104 = .ok (.iload 10, 2) := by decide +kernel
theorem dX3_drawsLine_106 : decode cX3_drawsLine 106 = .ok (.iload 9, 2) := by decide +kernel
theorem dX3_drawsLine_108 : decode cX3_drawsLine 108 = .ok (.iconst (-1), 1) := by decide +kernel
theorem dX3_drawsLine_109 : decode cX3_drawsLine 109 = .ok (.aload_n 1, 1) := by decide +kernel
theorem dX3_drawsLine_110 : decode cX3_drawsLine 110 = .ok (.iconst 5, 1) := by decide +kernel
theorem dX3_drawsLine_111 : decode cX3_drawsLine 111 = .ok (.invokevirtual 39, 3) := by decide +kernel
theorem dX3_drawsLine_114 : decode cX3_drawsLine 114 = .ok (.invokevirtual 76, 3) := by decide +kernel
theorem dX3_drawsLine_117 : decode cX3_drawsLine 117 = .ok (.iadd, 1) := by decide +kernel
theorem dX3_drawsLine_118 : decode cX3_drawsLine 118 = .ok (.istore 7, 2) := by decide +kernel
theorem dX3_drawsLine_120 : decode cX3_drawsLine 120 = .ok (.iinc 8 1, 3) := by decide +kernel
theorem dX3_drawsLine_123 : decode cX3_drawsLine 123 = .ok (.goto (-72), 3) := by decide +kernel
theorem dX3_drawsLine_126 : decode cX3_drawsLine 126 = .ok (.iload 7, 2) := by decide +kernel
theorem dX3_drawsLine_128 : decode cX3_drawsLine 128 = .ok (.ireturn, 1) := by decide +kernel
theorem dX3_between_0 : decode cX3_between 0 = .ok (.iload_n 3, 1) := by decide +kernel
theorem dX3_between_1 : decode cX3_between 1 = .ok (.ifCond .gt 7, 3) := by decide +kernel
theorem dX3_between_4 : decode cX3_between 4 = .ok (.iload_n 0, 1) := by decide +kernel
theorem dX3_between_5 : decode cX3_between 5 = .ok (.goto 20, 3) := by decide +kernel
theorem dX3_between_8 : decode cX3_between 8 = .ok (.iload_n 0, 1) := by decide +kernel
theorem dX3_between_9 : decode cX3_between 9 = .ok (.iload_n 1, 1) := by decide +kernel
theorem dX3_between_10 : decode cX3_between 10 = .ok (.iload_n 0, 1) := by decide +kernel
theorem dX3_between_11 : decode cX3_between 11 = .ok (.isub, 1) := by decide +kernel
theorem dX3_between_12 : decode cX3_between 12 = .ok (.iconst 2, 1) := by decide +kernel
theorem dX3_between_13 : decode cX3_between 13 = .ok (.imul, 1) := by decide +kernel
theorem dX3_between_14 : decode cX3_between 14 = .ok (.iload_n 2, 1) := by decide +kernel
theorem dX3_between_15 : decode cX3_between 15 = .ok (.imul, 1) := by decide +kernel
theorem dX3_between_16 : decode cX3_between 16 = .ok (.iload_n 3, 1) := by decide +kernel
theorem dX3_between_17 : decode cX3_between 17 = .ok (.iadd, 1) := by decide +kernel
theorem dX3_between_18 : decode cX3_between 18 = .ok (.iconst 2, 1) := by decide +kernel
theorem dX3_between_19 : decode cX3_between 19 = .ok (.iload_n 3, 1) := by decide +kernel
theorem dX3_between_20 : decode cX3_between 20 = .ok (.imul, 1) := by decide +kernel
theorem dX3_between_21 : decode cX3_between 21 = .ok (.invokestatic 99, 3) := by decide +kernel
theorem dX3_between_24 : decode cX3_between 24 = .ok (.iadd, 1) := by decide +kernel
theorem dX3_between_25 : decode cX3_between 25 = .ok (.ireturn, 1) := by decide +kernel
theorem dX3_floods_0 : decode cX3_floods 0 = .ok (.aload_n 0, 1) := by decide +kernel
theorem dX3_floods_1 : decode cX3_floods 1 = .ok (.getfield 18, 3) := by decide +kernel
theorem dX3_floods_4 : decode cX3_floods 4 = .ok (.iload_n 2, 1) := by decide +kernel
theorem dX3_floods_5 : decode cX3_floods 5 = .ok (.iload_n 3, 1) := by decide +kernel
theorem dX3_floods_6 : decode cX3_floods 6 = .ok (.invokevirtual 102, 3) := by decide +kernel
theorem dX3_floods_9 : decode cX3_floods 9 = .ok (.ifCond .ne 5, 3) := by decide +kernel
theorem dX3_floods_12 : decode cX3_floods 12 = .ok (.iconst 0, 1) := by decide +kernel
theorem dX3_floods_13 : decode cX3_floods 13 = .ok (.ireturn, 1) := by decide +kernel
theorem dX3_floods_14 : decode cX3_floods 14 = .ok (.aload_n 0, 1) := by decide +kernel
theorem dX3_floods_15 : decode cX3_floods 15 = .ok (.getfield 18, 3) := by decide +kernel
theorem dX3_floods_18 : decode cX3_floods 18 = .ok (.iload_n 1, 1) := by decide +kernel
theorem dX3_floods_19 : decode cX3_floods 19 = .ok (.iload_n 2, 1) := by decide +kernel
theorem dX3_floods_20 : decode cX3_floods 20 = .ok (.iload_n 3, 1) := by decide +kernel
theorem dX3_floods_21 : decode cX3_floods 21 = .ok (.invokevirtual 106, 3) := by decide +kernel
theorem dX3_floods_24 : decode cX3_floods 24 = .ok (.iconst 1, 1) := by decide +kernel
theorem dX3_floods_25 : decode cX3_floods 25 = .ok (.if_icmp .ne 7, 3) := by decide +kernel
theorem dX3_floods_28 : decode cX3_floods 28 = .ok (.iconst 0, 1) := by decide +kernel
theorem dX3_floods_29 : decode cX3_floods 29 = .ok (.goto 4, 3) := by decide +kernel
theorem dX3_floods_32 : decode cX3_floods 32 = .ok (.iconst (-1), 1) := by decide +kernel
theorem dX3_floods_33 : decode cX3_floods 33 = .ok (.istore 4, 2) := by decide +kernel
theorem dX3_floods_35 : decode cX3_floods 35 = .ok (.iconst 0, 1) := by decide +kernel
theorem dX3_floods_36 : decode cX3_floods 36 = .ok (.istore 5, 2) := by decide +kernel
theorem dX3_floods_38 : decode cX3_floods 38 = .ok (.iload 5, 2) := by decide +kernel
theorem dX3_floods_40 : decode cX3_floods 40 = .ok (.bipush 24, 2) := by decide +kernel
theorem dX3_floods_42 : decode cX3_floods 42 = .ok (.if_icmp .ge 56, 3) := by decide +kernel
theorem dX3_floods_45 : decode cX3_floods 45 = .ok (.aload_n 0, 1) := by decide +kernel
theorem dX3_floods_46 : decode cX3_floods 46 = .ok (.getfield 15, 3) := by decide +kernel
theorem dX3_floods_49 : decode cX3_floods 49 = .ok (.iload 5, 2) := by decide +kernel
theorem dX3_floods_51 : decode cX3_floods 51 = .ok (.aload_n 0, 1) := by decide +kernel
theorem dX3_floods_52 : decode cX3_floods 52 = .ok (.getfield 18, 3) := by decide +kernel
theorem dX3_floods_55 : decode cX3_floods 55 = .ok (.iload_n 1, 1) := by decide +kernel
theorem dX3_floods_56 : decode cX3_floods 56 = .ok (.iload 5, 2) := by decide +kernel
theorem dX3_floods_58 : decode cX3_floods 58 = .ok (.invokevirtual 80, 3) := by decide +kernel
theorem dX3_floods_61 : decode cX3_floods 61 = .ok (.iload 4, 2) := by decide +kernel
theorem dX3_floods_63 : decode cX3_floods 63 = .ok (.ixor, 1) := by decide +kernel
theorem dX3_floods_64 : decode cX3_floods 64 = .ok (.aload_n 0, 1) := by decide +kernel
theorem dX3_floods_65 : decode cX3_floods 65 = .ok (.getfield 18, 3) := by decide +kernel
theorem dX3_floods_68 : decode cX3_floods 68 = .ok (.iload 5, 2) := by decide +kernel
theorem dX3_floods_70 : decode cX3_floods 70 = .ok (.invokevirtual 109, 3) := by decide +kernel
theorem dX3_floods_73 : decode cX3_floods 73 = .ok (.iand, 1) := by decide +kernel
theorem dX3_floods_74 : decode cX3_floods 74 = .ok (.iastore, 1) := by decide +kernel
theorem dX3_floods_75 : decode cX3_floods 75 = .ok (.aload_n 0, 1) := by decide +kernel
theorem dX3_floods_76 : decode cX3_floods 76 = .ok (.getfield 22, 3) := by decide +kernel
theorem dX3_floods_79 : decode cX3_floods 79 = .ok (.getfield 112, 3) := by decide +kernel
theorem dX3_floods_82 : decode cX3_floods 82 = .ok (.iload 5, 2) := by decide +kernel
theorem dX3_floods_84 : decode cX3_floods 84 = .ok (.aload_n 0, 1) := by decide +kernel
theorem dX3_floods_85 : decode cX3_floods 85 = .ok (.getfield 15, 3) := by decide +kernel
theorem dX3_floods_88 : decode cX3_floods 88 = .ok (.iload 5, 2) := by decide +kernel
theorem dX3_floods_90 : decode cX3_floods 90 = .ok (.iaload, 1) := by decide +kernel
theorem dX3_floods_91 : decode cX3_floods 91 = .ok (.iastore, 1) := by decide +kernel
theorem dX3_floods_92 : decode cX3_floods 92 = .ok (.iinc 5 1, 3) := by decide +kernel
theorem dX3_floods_95 : decode cX3_floods 95 = .ok (.goto (-57), 3) := by decide +kernel
theorem dX3_floods_98 : decode cX3_floods 98 = .ok (.aload_n 0, 1) := by decide +kernel
theorem dX3_floods_99 : decode cX3_floods 99 = .ok (.getfield 22, 3) := by decide +kernel
theorem dX3_floods_102 : decode cX3_floods 102 = .ok (.iload_n 3, 1) := by decide +kernel
theorem dX3_floods_103 : decode cX3_floods 103 = .ok (.iload_n 2, 1) := by decide +kernel
theorem dX3_floods_104 : decode cX3_floods 104 = .ok (.invokestatic 117, 3) := by decide +kernel
theorem dX3_floods_107 : decode cX3_floods 107 = .ok (.invokevirtual 120, 3) := by decide +kernel
theorem dX3_floods_110 : decode cX3_floods 110 = .ok (.iconst 0, 1) := by decide +kernel
theorem dX3_floods_111 : decode cX3_floods 111 = .ok (.istore 5, 2) := by decide +kernel
theorem dX3_floods_113 : decode cX3_floods 113 = .ok (.iconst 0, 1) := by decide +kernel
theorem dX3_floods_114 : decode cX3_floods 114 = .ok (.istore 6, 2) := by decide +kernel
theorem dX3_floods_116 : decode cX3_floods 116 = .ok (.iload 6, 2) := by decide +kernel
theorem dX3_floods_118 : decode cX3_floods 118 = .ok (.bipush 24, 2) := by decide +kernel
theorem dX3_floods_120 : decode cX3_floods 120 = .ok (.if_icmp .ge 44, 3) := by decide +kernel
theorem dX3_floods_123 : decode cX3_floods 123 = .ok (.iload 5, 2) := by decide +kernel
theorem dX3_floods_125 : decode cX3_floods 125 = .ok (.aload_n 0, 1) := by decide +kernel
theorem dX3_floods_126 : decode cX3_floods 126 = .ok (.getfield 18, 3) := by decide +kernel
theorem dX3_floods_129 : decode cX3_floods 129 = .ok (.iload_n 1, 1) := by decide +kernel
theorem dX3_floods_130 : decode cX3_floods 130 = .ok (.iload 6, 2) := by decide +kernel
theorem dX3_floods_132 : decode cX3_floods 132 = .ok (.aload_n 0, 1) := by decide +kernel
theorem dX3_floods_133 : decode cX3_floods 133 = .ok (.getfield 15, 3) := by decide +kernel
theorem dX3_floods_136 : decode cX3_floods 136 = .ok (.iload 6, 2) := by decide +kernel
theorem dX3_floods_138 : decode cX3_floods 138 = .ok (.iaload, 1) := by decide +kernel
theorem dX3_floods_139 : decode cX3_floods 139 = .ok (.aload_n 0, 1) := by decide +kernel
theorem dX3_floods_140 : decode cX3_floods 140 = .ok (.getfield 22, 3) := by decide +kernel
theorem dX3_floods_143 : decode cX3_floods 143 = .ok (.getfield 112, 3) := by decide +kernel
theorem dX3_floods_146 : decode cX3_floods 146 = .ok (.iload 6, 2) := by decide +kernel
theorem dX3_floods_148 : decode cX3_floods 148 = .ok (.iaload, 1) := by decide +kernel
theorem dX3_floods_149 : decode cX3_floods 149 = .ok (.iconst (-1), 1) := by decide +kernel
theorem dX3_floods_150 : decode cX3_floods 150 = .ok (.ixor, 1) := by decide +kernel
theorem dX3_floods_151 : decode cX3_floods 151 = .ok (.iand, 1) := by decide +kernel
theorem dX3_floods_152 : decode cX3_floods 152 = .ok (.invokevirtual 124, 3) := by decide +kernel
theorem dX3_floods_155 : decode cX3_floods 155 = .ok (.iadd, 1) := by decide +kernel
theorem dX3_floods_156 : decode cX3_floods 156 = .ok (.istore 5, 2) := by decide +kernel
theorem dX3_floods_158 : decode cX3_floods 158 = .ok (.iinc 6 1, 3) := by decide +kernel
theorem dX3_floods_161 : decode cX3_floods 161 = .ok (.goto (-45), 3) := by decide +kernel
theorem dX3_floods_164 : decode cX3_floods 164 = .ok (.iload 5, 2) := by decide +kernel
theorem dX3_floods_166 : decode cX3_floods 166 = .ok (.ireturn, 1) := by decide +kernel
theorem dX3_fillsRectangle_0 : decode cX3_fillsRectangle 0 = .ok (.aload_n 1, 1) := by decide +kernel
theorem dX3_fillsRectangle_1 : decode cX3_fillsRectangle 1 = .ok (.iconst 0, 1) := by decide +kernel
theorem dX3_fillsRectangle_2 : decode cX3_fillsRectangle 2 = .ok (.invokevirtual 39, 3) := by decide +kernel
theorem dX3_fillsRectangle_5 : decode cX3_fillsRectangle 5 = .ok (.istore_n 2, 1) := by decide +kernel
theorem dX3_fillsRectangle_6 : decode cX3_fillsRectangle 6 = .ok (.aload_n 1, 1) := by decide +kernel
theorem dX3_fillsRectangle_7 : decode cX3_fillsRectangle 7 = .ok (.iconst 2, 1) := by decide +kernel
theorem dX3_fillsRectangle_8 : decode cX3_fillsRectangle 8 = .ok (.invokevirtual 39, 3) := by decide +kernel
theorem dX3_fillsRectangle_11 : decode cX3_fillsRectangle 11 = .ok (.istore_n 3, 1) := by decide +kernel
theorem dX3_fillsRectangle_12 : decode cX3_fillsRectangle 12 = .ok (.aload_n 1, 1) := by decide +kernel
theorem dX3_fillsRectangle_13 : decode cX3_fillsRectangle 13 = .ok (.iconst 4, 1) := by decide +kernel
theorem dX3_fillsRectangle_14 : decode cX3_fillsRectangle 14 = .ok (.invokevirtual 39, 3) := by decide +kernel
theorem dX3_fillsRectangle_17 : decode cX3_fillsRectangle 17 = .ok (.istore 4, 2) := by decide +kernel
theorem dX3_fillsRectangle_19 : decode cX3_fillsRectangle 19 = .ok (.aload_n 1, 1) := by decide +kernel
theorem dX3_fillsRectangle_20 : decode cX3_fillsRectangle 20 = .ok (.iconst 1, 1) := by decide +kernel
theorem dX3_fillsRectangle_21 : decode cX3_fillsRectangle 21 = .ok (.invokevirtual 39, 3) := by decide +kernel
theorem dX3_fillsRectangle_24 : decode cX3_fillsRectangle 24 = .ok (.aload_n 1, 1) := by decide +kernel
theorem dX3_fillsRectangle_25 : decode cX3_fillsRectangle 25 = .ok (.iconst 3, 1) := by decide +kernel
theorem dX3_fillsRectangle_26 : decode cX3_fillsRectangle 26 = .ok (.invokevirtual 39, 3) := by decide +kernel
theorem dX3_fillsRectangle_29 : decode cX3_fillsRectangle 29 = .ok (.invokestatic 66, 3) := by decide +kernel
theorem dX3_fillsRectangle_32 : decode cX3_fillsRectangle 32 = .ok (.istore 5, 2) := by decide +kernel
theorem dX3_fillsRectangle_34 : decode cX3_fillsRectangle 34 = .ok (.iconst 0, 1) := by decide +kernel
theorem dX3_fillsRectangle_35 : decode cX3_fillsRectangle 35 = .ok (.istore 6, 2) := by decide +kernel
theorem dX3_fillsRectangle_37 : decode cX3_fillsRectangle 37 = .ok (.iconst 0, 1) := by decide +kernel
theorem dX3_fillsRectangle_38 : decode cX3_fillsRectangle 38 = .ok (.istore 7, 2) := by decide +kernel
theorem dX3_fillsRectangle_40 : decode cX3_fillsRectangle 40 = .ok (.iload 7, 2) := by decide +kernel
theorem dX3_fillsRectangle_42 : decode cX3_fillsRectangle 42 = .ok (.iload 4, 2) := by decide +kernel
theorem dX3_fillsRectangle_44 : decode cX3_fillsRectangle 44 = .ok (.if_icmp .ge 41, 3) := by decide +kernel
theorem dX3_fillsRectangle_47 : decode cX3_fillsRectangle 47 = .ok (.iload 7, 2) := by decide +kernel
theorem dX3_fillsRectangle_49 : decode cX3_fillsRectangle 49 = .ok (.bipush 64, 2) := by decide +kernel
theorem dX3_fillsRectangle_51 : decode cX3_fillsRectangle 51 = .ok (.if_icmp .ge 34, 3) := by decide +kernel
theorem dX3_fillsRectangle_54 : decode cX3_fillsRectangle 54 = .ok (.iload 6, 2) := by decide +kernel
theorem dX3_fillsRectangle_56 : decode cX3_fillsRectangle 56 = .ok (.aload_n 0, 1) := by decide +kernel
theorem dX3_fillsRectangle_57 : decode cX3_fillsRectangle 57 = .ok (.getfield 18, 3) := by decide +kernel
theorem dX3_fillsRectangle_60 : decode cX3_fillsRectangle 60 = .ok (.iload_n 2, 1) := by decide +kernel
theorem dX3_fillsRectangle_61 : decode cX3_fillsRectangle 61 = .ok (.iload_n 3, 1) := by decide +kernel
theorem dX3_fillsRectangle_62 : decode cX3_fillsRectangle 62 = .ok (.iload 7, 2) := by decide +kernel
theorem dX3_fillsRectangle_64 : decode cX3_fillsRectangle 64 = .ok (.iadd, 1) := by decide +kernel
theorem dX3_fillsRectangle_65 : decode cX3_fillsRectangle 65 = .ok (.iload 5, 2) := by decide +kernel
theorem dX3_fillsRectangle_67 : decode cX3_fillsRectangle 67 = .ok (.iconst (-1), 1) := by decide +kernel
theorem dX3_fillsRectangle_68 : decode cX3_fillsRectangle 68 = .ok (.aload_n 1, 1) := by decide +kernel
theorem dX3_fillsRectangle_69 : decode cX3_fillsRectangle 69 = .ok (.iconst 5, 1) := by decide +kernel
theorem dX3_fillsRectangle_70 : decode cX3_fillsRectangle 70 = .ok (.invokevirtual 39, 3) := by decide +kernel
theorem dX3_fillsRectangle_73 : decode cX3_fillsRectangle 73 = .ok (.invokevirtual 76, 3) := by decide +kernel
theorem dX3_fillsRectangle_76 : decode cX3_fillsRectangle 76 = .ok (.iadd, 1) := by decide +kernel
theorem dX3_fillsRectangle_77 : decode cX3_fillsRectangle 77 = .ok (.istore 6, 2) := by decide +kernel
theorem dX3_fillsRectangle_79 : decode cX3_fillsRectangle 79 = .ok (.iinc 7 1, 3) := by decide +kernel
theorem dX3_fillsRectangle_82 : decode cX3_fillsRectangle 82 = .ok (.goto (-42), 3) := by decide +kernel
theorem dX3_fillsRectangle_85 : decode cX3_fillsRectangle 85 = .ok (.iload 6, 2) := by decide +kernel
theorem dX3_fillsRectangle_87 : decode cX3_fillsRectangle 87 = .ok (.ireturn, 1) := by decide +kernel
theorem dX3_writesLetter_0 : decode cX3_writesLetter 0 = .ok (.aload_n 1, 1) := by decide +kernel
theorem dX3_writesLetter_1 : decode cX3_writesLetter 1 = .ok (.iconst 1, 1) := by decide +kernel
theorem dX3_writesLetter_2 : decode cX3_writesLetter 2 = .ok (.invokevirtual 39, 3) := by decide +kernel
theorem dX3_writesLetter_5 : decode cX3_writesLetter 5 = .ok (.istore_n 2, 1) := by decide +kernel
theorem dX3_writesLetter_6 : decode cX3_writesLetter 6 = .ok (.aload_n 1, 1) := by decide +kernel
theorem dX3_writesLetter_7 : decode cX3_writesLetter 7 = .ok (.iconst 2, 1) := by decide +kernel
theorem dX3_writesLetter_8 : decode cX3_writesLetter 8 = .ok (.invokevirtual 39, 3) := by decide +kernel
theorem dX3_writesLetter_11 : decode cX3_writesLetter 11 = .ok (.istore_n 3, 1) := by decide +kernel
theorem dX3_writesLetter_12 : decode cX3_writesLetter 12 = .ok (.aload_n 1, 1) := by decide +kernel
theorem dX3_writesLetter_13 : decode cX3_writesLetter 13 = .ok (.iconst 3, 1) := by decide +kernel
theorem dX3_writesLetter_14 : decode cX3_writesLetter 14 = .ok (.invokevirtual 39, 3) := by decide +kernel
theorem dX3_writesLetter_17 : decode cX3_writesLetter 17 = .ok (.istore 4, 2) := by decide +kernel
theorem dX3_writesLetter_19 : decode cX3_writesLetter 19 = .ok (.iload_n 3, 1) := by decide +kernel
theorem dX3_writesLetter_20 : decode cX3_writesLetter 20 = .ok (.iconst 4, 1) := by decide +kernel
theorem dX3_writesLetter_21 : decode cX3_writesLetter 21 = .ok (.invokestatic 66, 3) := by decide +kernel
theorem dX3_writesLetter_24 : decode cX3_writesLetter 24 = .ok (.istore 5, 2) := by decide +kernel
theorem dX3_writesLetter_26 : decode cX3_writesLetter 26 = .ok (.iconst 0, 1) := by decide +kernel
theorem dX3_writesLetter_27 : decode cX3_writesLetter 27 = .ok (.istore 6, 2) := by decide +kernel
theorem dX3_writesLetter_29 : decode cX3_writesLetter 29 = .ok (.iconst 0, 1) := by decide +kernel
theorem dX3_writesLetter_30 : decode cX3_writesLetter 30 = .ok (.istore 7, 2) := by decide +kernel
theorem dX3_writesLetter_32 : decode cX3_writesLetter 32 = .ok (.iload 7, 2) := by decide +kernel
theorem dX3_writesLetter_34 : decode cX3_writesLetter 34 = .ok (.iconst 4, 1) := by decide +kernel
theorem dX3_writesLetter_35 : decode cX3_writesLetter 35 = .ok (.if_icmp .ge 52, 3) := by decide +kernel
theorem dX3_writesLetter_38 : decode cX3_writesLetter 38 = .ok (.iload_n 2, 1) := by decide +kernel
theorem dX3_writesLetter_39 : decode cX3_writesLetter 39 = .ok (.iload 7, 2) := by decide +kernel
theorem dX3_writesLetter_41 : decode cX3_writesLetter 41 = .ok (.invokestatic 127, 3) := by decide +kernel
theorem dX3_writesLetter_44 : decode cX3_writesLetter 44 = .ok (.iload_n 3, 1) := by decide +kernel
theorem dX3_writesLetter_45 : decode cX3_writesLetter 45 = .ok (.invokestatic 73, 3) := by decide +kernel
theorem dX3_writesLetter_48 : decode cX3_writesLetter 48 = .ok (.istore 8, 2) := by decide +kernel
theorem dX3_writesLetter_50 : decode cX3_writesLetter 50 = .ok (.iload 6, 2) := by decide +kernel
theorem dX3_writesLetter_52 : decode cX3_writesLetter 52 = .ok (.aload_n 0, 1) := by decide +kernel
theorem dX3_writesLetter_53 : decode cX3_writesLetter 53 = .ok (.getfield 18, 3) := by decide +kernel
theorem dX3_writesLetter_56 : decode cX3_writesLetter 56 = .ok (.aload_n 1, 1) := by decide +kernel
theorem dX3_writesLetter_57 : decode cX3_writesLetter 57 = .ok (.iconst 0, 1) := by decide +kernel
theorem dX3_writesLetter_58 : decode cX3_writesLetter 58 = .ok (.invokevirtual 39, 3) := by decide +kernel
theorem dX3_writesLetter_61 : decode cX3_writesLetter 61 = .ok (.iload 4, 2) := by decide +kernel
theorem dX3_writesLetter_63 : decode cX3_writesLetter 63 = .ok (.iload 7, 2) := by decide +kernel
theorem dX3_writesLetter_65 : decode cX3_writesLetter 65 = .ok (.iadd, 1) := by decide +kernel
theorem dX3_writesLetter_66 : decode cX3_writesLetter 66 = .ok (.iload 5, 2) := by decide +kernel
theorem dX3_writesLetter_68 : decode cX3_writesLetter 68 = .ok (.iload 8, 2) := by decide +kernel
theorem dX3_writesLetter_70 : decode cX3_writesLetter 70 = .ok (.aload_n 1, 1) := by decide +kernel
theorem dX3_writesLetter_71 : decode cX3_writesLetter 71 = .ok (.iconst 4, 1) := by decide +kernel
theorem dX3_writesLetter_72 : decode cX3_writesLetter 72 = .ok (.invokevirtual 39, 3) := by decide +kernel
theorem dX3_writesLetter_75 : decode cX3_writesLetter 75 = .ok (.invokevirtual 76, 3) := by decide +kernel
theorem dX3_writesLetter_78 : decode cX3_writesLetter 78 = .ok (.iadd, 1) := by decide +kernel
theorem dX3_writesLetter_79 : decode cX3_writesLetter 79 = .ok (.istore 6, 2) := by decide +kernel
theorem dX3_writesLetter_81 : decode cX3_writesLetter 81 = .ok (.iinc 7 1, 3) := by decide +kernel
theorem dX3_writesLetter_84 : decode cX3_writesLetter 84 = .ok (.goto (-52), 3) := by decide +kernel
theorem dX3_writesLetter_87 : decode cX3_writesLetter 87 = .ok (.iload 6, 2) := by decide +kernel
theorem dX3_writesLetter_89 : decode cX3_writesLetter 89 = .ok (.ireturn, 1) := by decide +kernel
theorem dX3_letterRow_0 : decode cX3_letterRow 0 = .ok (.iload_n 0, 1) := by decide +kernel
theorem dX3_letterRow_1 : decode cX3_letterRow 1 = .ok (.iconst 5, 1) := by decide +kernel
theorem dX3_letterRow_2 : decode cX3_letterRow 2 = .ok (.imul, 1) := by decide +kernel
theorem dX3_letterRow_3 : decode cX3_letterRow 3 = .ok (.iconst 3, 1) := by decide +kernel
theorem dX3_letterRow_4 : decode cX3_letterRow 4 = .ok (.iload_n 1, 1) := by decide +kernel
theorem dX3_letterRow_5 : decode cX3_letterRow 5 = .ok (.imul, 1) := by decide +kernel
theorem dX3_letterRow_6 : decode cX3_letterRow 6 = .ok (.iadd, 1) := by decide +kernel
theorem dX3_letterRow_7 : decode cX3_letterRow 7 = .ok (.iload_n 0, 1) := by decide +kernel
theorem dX3_letterRow_8 : decode cX3_letterRow 8 = .ok (.iconst 3, 1) := by decide +kernel
theorem dX3_letterRow_9 : decode cX3_letterRow 9 = .ok (.idiv, 1) := by decide +kernel
theorem dX3_letterRow_10 : decode cX3_letterRow 10 = .ok (.iadd, 1) := by decide +kernel
theorem dX3_letterRow_11 : decode cX3_letterRow 11 = .ok (.bipush 16, 2) := by decide +kernel
theorem dX3_letterRow_13 : decode cX3_letterRow 13 = .ok (.irem, 1) := by decide +kernel
theorem dX3_letterRow_14 : decode cX3_letterRow 14 = .ok (.bipush 28, 2) := by decide +kernel
theorem dX3_letterRow_16 : decode cX3_letterRow 16 = .ok (.ishl, 1) := by decide +kernel
theorem dX3_letterRow_17 : decode cX3_letterRow 17 = .ok (.ireturn, 1) := by decide +kernel
theorem dX4_init_0 : decode cX4_init 0 = .ok (.aload_n 0, 1) := by decide +kernel
theorem dX4_init_1 : decode cX4_init 1 = .ok (.invokespecial 3, 3) := by decide +kernel
theorem dX4_init_4 : decode cX4_init 4 = .ok (.aload_n 0, 1) := by decide +kernel
theorem dX4_init_5 : decode cX4_init 5 = .ok (.bipush 24, 2) := by decide +kernel
theorem dX4_init_7 : decode cX4_init 7 = .ok (.newarray .int, 2) := by decide +kernel
theorem dX4_init_9 : decode cX4_init 9 = .ok (.putfield 9, 3) := by decide +kernel
theorem dX4_init_12 : decode cX4_init 12 = .ok (.aload_n 0, 1) := by decide +kernel
theorem dX4_init_13 : decode cX4_init 13 = .ok (.sipush 384, 3) := by decide +kernel
theorem dX4_init_16 : decode cX4_init 16 = .ok (.newarray .int, 2) := by decide +kernel
theorem dX4_init_18 : decode cX4_init 18 = .ok (.putfield 15, 3) := by decide +kernel
theorem dX4_init_21 : decode cX4_init 21 = .ok (.aload_n 0, 1) := by decide +kernel
theorem dX4_init_22 : decode cX4_init 22 = .ok (.sipush 384, 3) := by decide +kernel
theorem dX4_init_25 : decode cX4_init 25 = .ok (.newarray .int, 2) := by decide +kernel
theorem dX4_init_27 : decode cX4_init 27 = .ok (.putfield 18, 3) := by decide +kernel
theorem dX4_init_30 : decode cX4_init 30 = .ok (.return_, 1) := by decide +kernel
theorem dX4_takesOut_0 : decode cX4_takesOut 0 = .ok (.aload_n 0, 1) := by decide +kernel
theorem dX4_takesOut_1 : decode cX4_takesOut 1 = .ok (.iconst 0, 1) := by decide +kernel
theorem dX4_takesOut_2 : decode cX4_takesOut 2 = .ok (.putfield 21, 3) := by decide +kernel
theorem dX4_takesOut_5 : decode cX4_takesOut 5 = .ok (.aload_n 0, 1) := by decide +kernel
theorem dX4_takesOut_6 : decode cX4_takesOut 6 = .ok (.iload_n 1, 1) := by decide +kernel
theorem dX4_takesOut_7 : decode cX4_takesOut 7 = .ok (.iload_n 2, 1) := by decide +kernel
theorem dX4_takesOut_8 : decode cX4_takesOut 8 = .ok (.invokevirtual 25, 3) := by decide +kernel
theorem dX4_takesOut_11 : decode cX4_takesOut 11 = .ok (.iconst 0, 1) := by decide +kernel
theorem dX4_takesOut_12 : decode cX4_takesOut 12 = .ok (.istore_n 3, 1) := by decide +kernel
theorem dX4_takesOut_13 : decode cX4_takesOut 13 = .ok (.iload_n 3, 1) := by decide +kernel
theorem dX4_takesOut_14 : decode cX4_takesOut 14 = .ok (.sipush 384, 3) := by decide +kernel
theorem dX4_takesOut_17 : decode cX4_takesOut 17 = .ok (.if_icmp .ge 68, 3) := by decide +kernel
theorem dX4_takesOut_20 : decode cX4_takesOut 20 = .ok (.aload_n 0, 1) := by decide +kernel
theorem dX4_takesOut_21 : decode cX4_takesOut 21 = .ok (.getfield 21, 3) := by decide +kernel
theorem dX4_takesOut_24 : decode cX4_takesOut 24 = .ok (.ifCond .le 61, 3) := by decide +kernel
theorem dX4_takesOut_27 : decode cX4_takesOut 27 = .ok (.aload_n 0, 1) := by decide +kernel
theorem dX4_takesOut_28 : decode cX4_takesOut 28 = .ok (.dup, 1) := by decide +kernel
theorem dX4_takesOut_29 : decode cX4_takesOut 29 = .ok (.getfield 21, 3) := by decide +kernel
theorem dX4_takesOut_32 : decode cX4_takesOut 32 = .ok (.iconst 1, 1) := by decide +kernel
theorem dX4_takesOut_33 : decode cX4_takesOut 33 = .ok (.isub, 1) := by decide +kernel
theorem dX4_takesOut_34 : decode cX4_takesOut 34 = .ok (.putfield 21, 3) := by decide +kernel
theorem dX4_takesOut_37 : decode cX4_takesOut 37 = .ok (.aload_n 0, 1) := by decide +kernel
theorem dX4_takesOut_38 : decode cX4_takesOut 38 = .ok (.getfield 15, 3) := by decide +kernel
theorem dX4_takesOut_41 : decode cX4_takesOut 41 = .ok (.aload_n 0, 1) := by decide +kernel
theorem dX4_takesOut_42 : decode cX4_takesOut 42 = .ok (.getfield 21, 3) := by decide +kernel
theorem dX4_takesOut_45 : decode cX4_takesOut 45 = .ok (.iaload, 1) := by decide +kernel
theorem dX4_takesOut_46 : decode cX4_takesOut 46 = .ok (.istore 4, 2) := by decide +kernel
theorem dX4_takesOut_48 : decode cX4_takesOut 48 = .ok (.aload_n 0, 1) := by decide +kernel
theorem dX4_takesOut_49 : decode cX4_takesOut 49 = .ok (.getfield 18, 3) := by decide +kernel
theorem dX4_takesOut_52 : decode cX4_takesOut 52 = .ok (.aload_n 0, 1) := by decide +kernel
theorem dX4_takesOut_53 : decode cX4_takesOut 53 = .ok (.getfield 21, 3) := by decide +kernel
theorem dX4_takesOut_56 : decode cX4_takesOut 56 = .ok (.iaload, 1) := by decide +kernel
theorem dX4_takesOut_57 : decode cX4_takesOut 57 = .ok (.istore 5, 2) := by decide +kernel
theorem dX4_takesOut_59 : decode cX4_takesOut 59 = .ok (.aload_n 0, 1) := by decide +kernel
theorem dX4_takesOut_60 : decode cX4_takesOut 60 = .ok (.iload 4, 2) := by decide +kernel
theorem dX4_takesOut_62 : decode cX4_takesOut 62 = .ok (.iconst 1, 1) := by decide +kernel
theorem dX4_takesOut_63 : decode cX4_takesOut 63 = .ok (.isub, 1) := by decide +kernel
theorem dX4_takesOut_64 : decode cX4_takesOut 64 = .ok (.iload 5, 2) := by decide +kernel
theorem dX4_takesOut_66 : decode cX4_takesOut 66 = .ok (.invokevirtual 25, 3) := by decide +kernel
theorem dX4_takesOut_69 : decode cX4_takesOut 69 = .ok (.aload_n 0, 1) := by decide +kernel
theorem dX4_takesOut_70 : decode cX4_takesOut 70 = .ok (.iload 4, 2) := by decide +kernel
theorem dX4_takesOut_72 : decode cX4_takesOut 72 = .ok (.iconst 1, 1) := by decide +kernel
theorem dX4_takesOut_73 : decode cX4_takesOut 73 = .ok (.iadd, 1) := by decide +kernel
theorem dX4_takesOut_74 : decode cX4_takesOut 74 = .ok (.iload 5, 2) := by decide +kernel
theorem dX4_takesOut_76 : decode cX4_takesOut 76 = .ok (.invokevirtual 25, 3) := by decide +kernel
theorem dX4_takesOut_79 : decode cX4_takesOut 79 = .ok (.iinc 3 1, 3) := by decide +kernel
theorem dX4_takesOut_82 : decode cX4_takesOut 82 = .ok (.goto (-69), 3) := by decide +kernel
theorem dX4_takesOut_85 : decode cX4_takesOut 85 = .ok (.return_, 1) := by decide +kernel
theorem dX4_numberOfParts_0 : decode cX4_numberOfParts 0 = .ok (.iconst 0, 1) := by decide +kernel
theorem dX4_numberOfParts_1 : decode cX4_numberOfParts 1 = .ok (.istore_n 1, 1) := by decide +kernel
theorem dX4_numberOfParts_2 : decode cX4_numberOfParts 2 = .ok (.iconst 0, 1) := by decide +kernel
theorem dX4_numberOfParts_3 : decode cX4_numberOfParts 3 = .ok (.istore_n 2, 1) := by decide +kernel
theorem dX4_numberOfParts_4 : decode cX4_numberOfParts 4 = .ok (.iload_n 2, 1) := by decide +kernel
theorem dX4_numberOfParts_5 : decode cX4_numberOfParts 5 = .ok (.bipush 24, 2) := by decide +kernel
theorem dX4_numberOfParts_7 : decode cX4_numberOfParts 7 = .ok (.if_icmp .ge 54, 3) := by decide +kernel
theorem dX4_numberOfParts_10 : decode cX4_numberOfParts 10 = .ok (.iconst 0, 1) := by decide +kernel
theorem dX4_numberOfParts_11 : decode cX4_numberOfParts 11 = .ok (.istore_n 3, 1) := by decide +kernel
theorem dX4_numberOfParts_12 : decode cX4_numberOfParts 12 = .ok (.iload_n 3, 1) := by decide +kernel
theorem dX4_numberOfParts_13 : decode cX4_numberOfParts 13 = .ok (.bipush 32, 2) := by decide +kernel
theorem dX4_numberOfParts_15 : decode cX4_numberOfParts 15 = .ok (.if_icmp .ge 40, 3) := by decide +kernel
theorem dX4_numberOfParts_18 : decode cX4_numberOfParts 18 = .ok (.aload_n 0, 1) := by decide +kernel
theorem dX4_numberOfParts_19 : decode cX4_numberOfParts 19 = .ok (.getfield 9, 3) := by decide +kernel
theorem dX4_numberOfParts_22 : decode cX4_numberOfParts 22 = .ok (.iload_n 2, 1) := by decide +kernel
theorem dX4_numberOfParts_23 : decode cX4_numberOfParts 23 = .ok (.iaload, 1) := by decide +kernel
theorem dX4_numberOfParts_24 : decode cX4_numberOfParts 24 = .ok (.ifCond .eq 31, 3) := by decide +kernel
theorem dX4_numberOfParts_27 : decode cX4_numberOfParts 27 = .ok (.aload_n 0, 1) := by decide +kernel
theorem dX4_numberOfParts_28 : decode cX4_numberOfParts 28 = .ok (.iload_n 2, 1) := by decide +kernel
theorem dX4_numberOfParts_29 : decode cX4_numberOfParts 29 = .ok (.aload_n 0, 1) := by decide +kernel
theorem dX4_numberOfParts_30 : decode cX4_numberOfParts 30 = .ok (.getfield 9, 3) := by decide +kernel
theorem dX4_numberOfParts_33 : decode cX4_numberOfParts 33 = .ok (.iload_n 2, 1) := by decide +kernel
theorem dX4_numberOfParts_34 : decode cX4_numberOfParts 34 = .ok (.iaload, 1) := by decide +kernel
theorem dX4_numberOfParts_35 : decode cX4_numberOfParts 35 = .ok (.aload_n 0, 1) := by decide +kernel
theorem dX4_numberOfParts_36 : decode cX4_numberOfParts 36 = .ok (.getfield 9, 3) := by decide +kernel
theorem dX4_numberOfParts_39 : decode cX4_numberOfParts 39 = .ok (.iload_n 2, 1) := by decide +kernel
theorem dX4_numberOfParts_40 : decode cX4_numberOfParts 40 = .ok (.iaload, 1) := by decide +kernel
theorem dX4_numberOfParts_41 : decode cX4_numberOfParts 41 = .ok (.ineg, 1) := by decide +kernel
theorem dX4_numberOfParts_42 : decode cX4_numberOfParts 42 = .ok (.iand, 1) := by decide +kernel
theorem dX4_numberOfParts_43 : decode cX4_numberOfParts 43 = .ok (.invokevirtual 29, 3) := by decide +kernel
theorem dX4_numberOfParts_46 : decode cX4_numberOfParts 46 = .ok (.iinc 1 1, 3) := by decide +kernel
theorem dX4_numberOfParts_49 : decode cX4_numberOfParts 49 = .ok (.iinc 3 1, 3) := by decide +kernel
theorem dX4_numberOfParts_52 : decode cX4_numberOfParts 52 = .ok (.goto (-40), 3) := by decide +kernel
theorem dX4_numberOfParts_55 : decode cX4_numberOfParts 55 = .ok (.iinc 2 1, 3) := by decide +kernel
theorem dX4_numberOfParts_58 : decode cX4_numberOfParts 58 = .ok (.goto (-54), 3) := by decide +kernel
theorem dX4_numberOfParts_61 : decode cX4_numberOfParts 61 = .ok (.iload_n 1, 1) := by decide +kernel
theorem dX4_numberOfParts_62 : decode cX4_numberOfParts 62 = .ok (.ireturn, 1) := by decide +kernel
theorem dX4_reaches_0 : decode cX4_reaches 0 = .ok (.iload_n 1, 1) := by decide +kernel
theorem dX4_reaches_1 : decode cX4_reaches 1 = .ok (.iconst 0, 1) := by decide +kernel
theorem dX4_reaches_2 : decode cX4_reaches 2 = .ok (.bipush 23, 2) := by decide +kernel
theorem dX4_reaches_4 : decode cX4_reaches 4 = .ok (.invokestatic 32, 3) := by decide +kernel
theorem dX4_reaches_7 : decode cX4_reaches 7 = .ok (.ifCond .eq 13, 3) := by decide +kernel
theorem dX4_reaches_10 : decode cX4_reaches 10 = .ok (.aload_n 0, 1) := by decide +kernel
theorem dX4_reaches_11 : decode cX4_reaches 11 = .ok (.getfield 21, 3) := by decide +kernel
theorem dX4_reaches_14 : decode cX4_reaches 14 = .ok (.sipush 384, 3) := by decide +kernel
theorem dX4_reaches_17 : decode cX4_reaches 17 = .ok (.if_icmp .lt 4, 3) := by decide +kernel
theorem dX4_reaches_20 : decode cX4_reaches 20 = .ok (.return_, 1) := by decide +kernel
theorem dX4_reaches_21 : decode cX4_reaches 21 = .ok (.aload_n 0, 1) := by decide +kernel
theorem dX4_reaches_22 : decode cX4_reaches 22 = .ok (.getfield 9, 3) := by decide +kernel
theorem dX4_reaches_25 : decode cX4_reaches 25 = .ok (.iload_n 1, 1) := by decide +kernel
theorem dX4_reaches_26 : decode cX4_reaches 26 = .ok (.iaload, 1) := by decide +kernel
theorem dX4_reaches_27 : decode cX4_reaches 27 = .ok (.aload_n 0, 1) := by decide +kernel
theorem dX4_reaches_28 : decode cX4_reaches 28 = .ok (.getfield 9, 3) := by decide +kernel
theorem dX4_reaches_31 : decode cX4_reaches 31 = .ok (.iload_n 1, 1) := by decide +kernel
theorem dX4_reaches_32 : decode cX4_reaches 32 = .ok (.iaload, 1) := by decide +kernel
theorem dX4_reaches_33 : decode cX4_reaches 33 = .ok (.iload_n 2, 1) := by decide +kernel
theorem dX4_reaches_34 : decode cX4_reaches 34 = .ok (.iand, 1) := by decide +kernel
theorem dX4_reaches_35 : decode cX4_reaches 35 = .ok (.invokestatic 36, 3) := by decide +kernel
theorem dX4_reaches_38 : decode cX4_reaches 38 = .ok (.istore_n 3, 1) := by decide +kernel
theorem dX4_reaches_39 : decode cX4_reaches 39 = .ok (.iload_n 3, 1) := by decide +kernel
theorem dX4_reaches_40 : decode cX4_reaches 40 = .ok (.ifCond .eq 45, 3) := by decide +kernel
theorem dX4_reaches_43 : decode cX4_reaches 43 = .ok (.aload_n 0, 1) := by decide +kernel
theorem dX4_reaches_44 : decode cX4_reaches 44 = .ok (.getfield 9, 3) := by decide +kernel
theorem dX4_reaches_47 : decode cX4_reaches 47 = .ok (.iload_n 1, 1) := by decide +kernel
theorem dX4_reaches_48 : decode cX4_reaches 48 = .ok (.dup2, 1) := by decide +kernel
theorem dX4_reaches_49 : decode cX4_reaches 49 = .ok (.iaload, 1) := by decide +kernel
theorem dX4_reaches_50 : decode cX4_reaches 50 = .ok (.iload_n 3, 1) := by decide +kernel
theorem dX4_reaches_51 : decode cX4_reaches 51 = .ok (.iconst (-1), 1) := by decide +kernel
theorem dX4_reaches_52 : decode cX4_reaches 52 = .ok (.ixor, 1) := by decide +kernel
theorem dX4_reaches_53 : decode cX4_reaches 53 = .ok (.iand, 1) := by decide +kernel
theorem dX4_reaches_54 : decode cX4_reaches 54 = .ok (.iastore, 1) := by decide +kernel
theorem dX4_reaches_55 : decode cX4_reaches 55 = .ok (.aload_n 0, 1) := by decide +kernel
theorem dX4_reaches_56 : decode cX4_reaches 56 = .ok (.getfield 15, 3) := by decide +kernel
theorem dX4_reaches_59 : decode cX4_reaches 59 = .ok (.aload_n 0, 1) := by decide +kernel
theorem dX4_reaches_60 : decode cX4_reaches 60 = .ok (.getfield 21, 3) := by decide +kernel
theorem dX4_reaches_63 : decode cX4_reaches 63 = .ok (.iload_n 1, 1) := by decide +kernel
theorem dX4_reaches_64 : decode cX4_reaches 64 = .ok (.iastore, 1) := by decide +kernel
theorem dX4_reaches_65 : decode cX4_reaches 65 = .ok (.aload_n 0, 1) := by decide +kernel
theorem dX4_reaches_66 : decode cX4_reaches 66 = .ok (.getfield 18, 3) := by decide +kernel
theorem dX4_reaches_69 : decode cX4_reaches 69 = .ok (.aload_n 0, 1) := by decide +kernel
theorem dX4_reaches_70 : decode cX4_reaches 70 = .ok (.getfield 21, 3) := by decide +kernel
theorem dX4_reaches_73 : decode cX4_reaches 73 = .ok (.iload_n 3, 1) := by decide +kernel
theorem dX4_reaches_74 : decode cX4_reaches 74 = .ok (.iastore, 1) := by decide +kernel
theorem dX4_reaches_75 : decode cX4_reaches 75 = .ok (.aload_n 0, 1) := by decide +kernel
theorem dX4_reaches_76 : decode cX4_reaches 76 = .ok (.dup, 1) := by decide +kernel
theorem dX4_reaches_77 : decode cX4_reaches 77 = .ok (.getfield 21, 3) := by decide +kernel
theorem dX4_reaches_80 : decode cX4_reaches 80 = .ok (.iconst 1, 1) := by decide +kernel
theorem dX4_reaches_81 : decode cX4_reaches 81 = .ok (.iadd, 1) := by decide +kernel
theorem dX4_reaches_82 : decode cX4_reaches 82 = .ok (.putfield 21, 3) := by decide +kernel
theorem dX4_reaches_85 : decode cX4_reaches 85 = .ok (.return_, 1) := by decide +kernel
theorem dX4_runsThrough_0 : decode cX4_runsThrough 0 = .ok (.iload_n 1, 1) := by decide +kernel
theorem dX4_runsThrough_1 : decode cX4_runsThrough 1 = .ok (.istore_n 2, 1) := by decide +kernel
theorem dX4_runsThrough_2 : decode cX4_runsThrough 2 = .ok (.iload_n 1, 1) := by decide +kernel
theorem dX4_runsThrough_3 : decode cX4_runsThrough 3 = .ok (.istore_n 3, 1) := by decide +kernel
theorem dX4_runsThrough_4 : decode cX4_runsThrough 4 = .ok (.iload_n 0, 1) := by decide +kernel
theorem dX4_runsThrough_5 : decode cX4_runsThrough 5 = .ok (.istore 4, 2) := by decide +kernel
theorem dX4_runsThrough_7 : decode cX4_runsThrough 7 = .ok (.iload_n 0, 1) := by decide +kernel
theorem dX4_runsThrough_8 : decode cX4_runsThrough 8 = .ok (.istore 5, 2) := by decide +kernel
theorem dX4_runsThrough_10 : decode cX4_runsThrough 10 = .ok (.iconst 1, 1) := by decide +kernel
theorem dX4_runsThrough_11 : decode cX4_runsThrough 11 = .ok (.istore 6, 2) := by decide +kernel
theorem dX4_runsThrough_13 : decode cX4_runsThrough 13 = .ok (.iload 6, 2) := by decide +kernel
theorem dX4_runsThrough_15 : decode cX4_runsThrough 15 = .ok (.bipush 32, 2) := by decide +kernel
theorem dX4_runsThrough_17 : decode cX4_runsThrough 17 = .ok (.if_icmp .ge 52, 3) := by decide +kernel
theorem dX4_runsThrough_20 : decode cX4_runsThrough 20 = .ok (.iload_n 2, 1) := by decide +kernel
theorem dX4_runsThrough_21 : decode cX4_runsThrough 21 = .ok (.iload 4, 2) := by decide +kernel
theorem dX4_runsThrough_23 : decode cX4_runsThrough 23 = .ok (.iload_n 2, 1) := by decide +kernel
theorem dX4_runsThrough_24 : decode cX4_runsThrough 24 = .ok (.iload 6, 2) := by decide +kernel
theorem dX4_runsThrough_26 : decode cX4_runsThrough 26 = .ok (.ishl, 1) := by decide +kernel
theorem dX4_runsThrough_27 : decode cX4_runsThrough 27 = .ok (.iand, 1) := by decide +kernel
theorem dX4_runsThrough_28 : decode cX4_runsThrough 28 = .ok (.ior, 1) := by decide +kernel
theorem dX4_runsThrough_29 : decode cX4_runsThrough 29 = .ok (.istore_n 2, 1) := by decide +kernel
theorem dX4_runsThrough_30 : decode cX4_runsThrough 30 = .ok (.iload 4, 2) := by decide +kernel
theorem dX4_runsThrough_32 : decode cX4_runsThrough 32 = .ok (.iload 4, 2) := by decide +kernel
theorem dX4_runsThrough_34 : decode cX4_runsThrough 34 = .ok (.iload 6, 2) := by decide +kernel
theorem dX4_runsThrough_36 : decode cX4_runsThrough 36 = .ok (.ishl, 1) := by decide +kernel
theorem dX4_runsThrough_37 : decode cX4_runsThrough 37 = .ok (.iand, 1) := by decide +kernel
theorem dX4_runsThrough_38 : decode cX4_runsThrough 38 = .ok (.istore 4, 2) := by decide +kernel
theorem dX4_runsThrough_40 : decode cX4_runsThrough 40 = .ok (.iload_n 3, 1) := by decide +kernel
theorem dX4_runsThrough_41 : decode cX4_runsThrough 41 = .ok (.iload 5, 2) := by decide +kernel
theorem dX4_runsThrough_43 : decode cX4_runsThrough 43 = .ok (.iload_n 3, 1) := by decide +kernel
theorem dX4_runsThrough_44 : decode cX4_runsThrough 44 = .ok (.iload 6, 2) := by decide +kernel
theorem dX4_runsThrough_46 : decode cX4_runsThrough 46 = .ok (.iushr, 1) := by decide +kernel
theorem dX4_runsThrough_47 : decode cX4_runsThrough 47 = .ok (.iand, 1) := by decide +kernel
theorem dX4_runsThrough_48 : decode cX4_runsThrough 48 = .ok (.ior, 1) := by decide +kernel
theorem dX4_runsThrough_49 : decode cX4_runsThrough 49 = .ok (.istore_n 3, 1) := by decide +kernel
theorem dX4_runsThrough_50 : decode cX4_runsThrough 50 = .ok (.iload 5, 2) := by decide +kernel
theorem dX4_runsThrough_52 : decode cX4_runsThrough 52 = .ok (.iload 5, 2) := by decide +kernel
theorem dX4_runsThrough_54 : decode cX4_runsThrough 54 = .ok (.iload 6, 2) := by decide +kernel
theorem dX4_runsThrough_56 : decode cX4_runsThrough 56 = .ok (.iushr, 1) := by decide +kernel
theorem dX4_runsThrough_57 : decode cX4_runsThrough 57 = .ok (.iand, 1) := by decide +kernel
theorem dX4_runsThrough_58 : decode cX4_runsThrough 58 = .ok (.istore 5, 2) := by decide +kernel
theorem dX4_runsThrough_60 : decode cX4_runsThrough 60 = .ok (.iload 6, 2) := by decide +kernel
theorem dX4_runsThrough_62 : decode cX4_runsThrough 62 = .ok (.iconst 2, 1) := by decide +kernel
theorem dX4_runsThrough_63 : decode cX4_runsThrough 63 = .ok (.imul, 1) := by decide +kernel
theorem dX4_runsThrough_64 : decode cX4_runsThrough 64 = .ok (.istore 6, 2) := by decide +kernel
theorem dX4_runsThrough_66 : decode cX4_runsThrough 66 = .ok (.goto (-53), 3) := by decide +kernel
theorem dX4_runsThrough_69 : decode cX4_runsThrough 69 = .ok (.iload_n 2, 1) := by decide +kernel
theorem dX4_runsThrough_70 : decode cX4_runsThrough 70 = .ok (.iload_n 3, 1) := by decide +kernel
theorem dX4_runsThrough_71 : decode cX4_runsThrough 71 = .ok (.ior, 1) := by decide +kernel
theorem dX4_runsThrough_72 : decode cX4_runsThrough 72 = .ok (.ireturn, 1) := by decide +kernel
theorem dX5_init_0 : decode cX5_init 0 = .ok (.aload_n 0, 1) := by decide +kernel
theorem dX5_init_1 : decode cX5_init 1 = .ok (.invokespecial 3, 3) := by decide +kernel
theorem dX5_init_4 : decode cX5_init 4 = .ok (.aload_n 0, 1) := by decide +kernel
theorem dX5_init_5 : decode cX5_init 5 = .ok (.bipush 6, 2) := by decide +kernel
theorem dX5_init_7 : decode cX5_init 7 = .ok (.anewarray 9, 3) := by decide +kernel
theorem dX5_init_10 : decode cX5_init 10 = .ok (.putfield 11, 3) := by decide +kernel
theorem dX5_init_13 : decode cX5_init 13 = .ok (.iconst 0, 1) := by decide +kernel
theorem dX5_init_14 : decode cX5_init 14 = .ok (.istore_n 1, 1) := by decide +kernel
theorem dX5_init_15 : decode cX5_init 15 = .ok (.iload_n 1, 1) := by decide +kernel
theorem dX5_init_16 : decode cX5_init 16 = .ok (.bipush 6, 2) := by decide +kernel
theorem dX5_init_18 : decode cX5_init 18 = .ok (.if_icmp .ge 22, 3) := by decide +kernel
theorem dX5_init_21 : decode cX5_init 21 = .ok (.aload_n 0, 1) := by decide +kernel
theorem dX5_init_22 : decode cX5_init 22 = .ok (.getfield 11, 3) := by decide +kernel
theorem dX5_init_25 : decode cX5_init 25 = .ok (.iload_n 1, 1) := by decide +kernel
theorem dX5_init_26 : decode cX5_init 26 = .ok (.new 9, 3) := by decide +kernel
theorem dX5_init_29 : decode cX5_init 29 = .ok (.dup, 1) := by decide +kernel
theorem dX5_init_30 : decode cX5_init 30 = .ok (.invokespecial 17, 3) := by decide +kernel
theorem dX5_init_33 : decode cX5_init 33 = .ok (.aastore, 1) := by decide +kernel
theorem dX5_init_34 : decode cX5_init 34 = .ok (.iinc 1 1, 3) := by decide +kernel
theorem dX5_init_37 : decode cX5_init 37 = .ok (.goto (-22), 3) := by decide +kernel
theorem dX5_init_40 : decode cX5_init 40 = .ok (.return_, 1) := by decide +kernel
theorem dX5_keeps_0 : decode cX5_keeps 0 = .ok (.aload_n 0, 1) := by decide +kernel
theorem dX5_keeps_1 : decode cX5_keeps 1 = .ok (.getfield 11, 3) := by decide +kernel
theorem dX5_keeps_4 : decode cX5_keeps 4 = .ok (.aload_n 0, 1) := by decide +kernel
theorem dX5_keeps_5 : decode cX5_keeps 5 = .ok (.getfield 18, 3) := by decide +kernel
theorem dX5_keeps_8 : decode cX5_keeps 8 = .ok (.aaload, 1) := by decide +kernel
theorem dX5_keeps_9 : decode cX5_keeps 9 = .ok (.aload_n 1, 1) := by decide +kernel
theorem dX5_keeps_10 : decode cX5_keeps 10 = .ok (.invokevirtual 22, 3) := by decide +kernel
theorem dX5_keeps_13 : decode cX5_keeps 13 = .ok (.aload_n 0, 1) := by decide +kernel
theorem dX5_keeps_14 : decode cX5_keeps 14 = .ok (.aload_n 0, 1) := by decide +kernel
theorem dX5_keeps_15 : decode cX5_keeps 15 = .ok (.getfield 18, 3) := by decide +kernel
theorem dX5_keeps_18 : decode cX5_keeps 18 = .ok (.iconst 1, 1) := by decide +kernel
theorem dX5_keeps_19 : decode cX5_keeps 19 = .ok (.iadd, 1) := by decide +kernel
theorem dX5_keeps_20 : decode cX5_keeps 20 = .ok (.bipush 6, 2) := by decide +kernel
theorem dX5_keeps_22 : decode cX5_keeps 22 = .ok (.irem, 1) := by decide +kernel
theorem dX5_keeps_23 : decode cX5_keeps 23 = .ok (.putfield 18, 3) := by decide +kernel
theorem dX5_keeps_26 : decode cX5_keeps 26 = .ok (.aload_n 0, 1) := by decide +kernel
theorem dX5_keeps_27 : decode cX5_keeps 27 = .ok (.aload_n 0, 1) := by decide +kernel
theorem dX5_keeps_28 : decode cX5_keeps 28 = .ok (.getfield 26, 3) := by decide +kernel
theorem dX5_keeps_31 : decode cX5_keeps 31 = .ok (.iconst 1, 1) := by decide +kernel
theorem dX5_keeps_32 : decode cX5_keeps 32 = .ok (.iadd, 1) := by decide +kernel
theorem dX5_keeps_33 : decode cX5_keeps 33 = .ok (.bipush 6, 2) := by decide +kernel
theorem dX5_keeps_35 : decode cX5_keeps 35 = .ok (.invokestatic 29, 3) := by decide +kernel
theorem dX5_keeps_38 : decode cX5_keeps 38 = .ok (.putfield 26, 3) := by decide +kernel
theorem dX5_keeps_41 : decode cX5_keeps 41 = .ok (.return_, 1) := by decide +kernel
theorem dX5_givesBack_0 : decode cX5_givesBack 0 = .ok (.aload_n 0, 1) := by decide +kernel
theorem dX5_givesBack_1 : decode cX5_givesBack 1 = .ok (.getfield 26, 3) := by decide +kernel
theorem dX5_givesBack_4 : decode cX5_givesBack 4 = .ok (.ifCond .ne 4, 3) := by decide +kernel
theorem dX5_givesBack_7 : decode cX5_givesBack 7 = .ok (.return_, 1) := by decide +kernel
theorem dX5_givesBack_8 : decode cX5_givesBack 8 = .ok (.aload_n 0, 1) := by decide +kernel
theorem dX5_givesBack_9 : decode cX5_givesBack 9 = .ok (.aload_n 0, 1) := by decide +kernel
theorem dX5_givesBack_10 : decode cX5_givesBack 10 = .ok (.getfield 18, 3) := by decide +kernel
theorem dX5_givesBack_13 : decode cX5_givesBack 13 = .ok (.bipush 6, 2) := by decide +kernel
theorem dX5_givesBack_15 : decode cX5_givesBack 15 = .ok (.iadd, 1) := by decide +kernel
theorem dX5_givesBack_16 : decode cX5_givesBack 16 = .ok (.iconst 1, 1) := by decide +kernel
theorem dX5_givesBack_17 : decode cX5_givesBack 17 = .ok (.isub, 1) := by decide +kernel
theorem dX5_givesBack_18 : decode cX5_givesBack 18 = .ok (.bipush 6, 2) := by decide +kernel
theorem dX5_givesBack_20 : decode cX5_givesBack 20 = .ok (.irem, 1) := by decide +kernel
theorem dX5_givesBack_21 : decode cX5_givesBack 21 = .ok (.putfield 18, 3) := by decide +kernel
theorem dX5_givesBack_24 : decode cX5_givesBack 24 = .ok (.aload_n 0, 1) := by decide +kernel
theorem dX5_givesBack_25 : decode cX5_givesBack 25 = .ok (.dup, 1) := by decide +kernel
theorem dX5_givesBack_26 : decode cX5_givesBack 26 = .ok (.getfield 26, 3) := by decide +kernel
theorem dX5_givesBack_29 : decode cX5_givesBack 29 = .ok (.iconst 1, 1) := by decide +kernel
theorem dX5_givesBack_30 : decode cX5_givesBack 30 = .ok (.isub, 1) := by decide +kernel
theorem dX5_givesBack_31 : decode cX5_givesBack 31 = .ok (.putfield 26, 3) := by decide +kernel
theorem dX5_givesBack_34 : decode cX5_givesBack 34 = .ok (.aload_n 1, 1) := by decide +kernel
theorem dX5_givesBack_35 : decode cX5_givesBack 35 = .ok (.aload_n 0, 1) := by decide +kernel
theorem dX5_givesBack_36 : decode cX5_givesBack 36 = .ok (.getfield 11, 3) := by decide +kernel
theorem dX5_givesBack_39 : decode cX5_givesBack 39 = .ok (.aload_n 0, 1) := by decide +kernel
theorem dX5_givesBack_40 : decode cX5_givesBack 40 = .ok (.getfield 18, 3) := by decide +kernel
theorem dX5_givesBack_43 : decode cX5_givesBack 43 = .ok (.aaload, 1) := by decide +kernel
theorem dX5_givesBack_44 : decode cX5_givesBack 44 = .ok (.invokevirtual 22, 3) := by decide +kernel
theorem dX5_givesBack_47 : decode cX5_givesBack 47 = .ok (.return_, 1) := by decide +kernel
theorem dX6_init_0 : decode cX6_init 0 = .ok (.aload_n 0, 1) := by decide +kernel
theorem dX6_init_1 : decode cX6_init 1 = .ok (.invokespecial 3, 3) := by decide +kernel
theorem dX6_init_4 : decode cX6_init 4 = .ok (.aload_n 0, 1) := by decide +kernel
theorem dX6_init_5 : decode cX6_init 5 = .ok (.bipush 72, 2) := by decide +kernel
theorem dX6_init_7 : decode cX6_init 7 = .ok (.newarray .int, 2) := by decide +kernel
theorem dX6_init_9 : decode cX6_init 9 = .ok (.putfield 9, 3) := by decide +kernel
theorem dX6_init_12 : decode cX6_init 12 = .ok (.aload_n 0, 1) := by decide +kernel
theorem dX6_init_13 : decode cX6_init 13 = .ok (.bipush 8, 2) := by decide +kernel
theorem dX6_init_15 : decode cX6_init 15 = .ok (.newarray .int, 2) := by decide +kernel
theorem dX6_init_17 : decode cX6_init 17 = .ok (.putfield 15, 3) := by decide +kernel
theorem dX6_init_20 : decode cX6_init 20 = .ok (.aload_n 0, 1) := by decide +kernel
theorem dX6_init_21 : decode cX6_init 21 = .ok (.bipush 16, 2) := by decide +kernel
theorem dX6_init_23 : decode cX6_init 23 = .ok (.newarray .int, 2) := by decide +kernel
theorem dX6_init_25 : decode cX6_init 25 = .ok (.putfield 18, 3) := by decide +kernel
theorem dX6_init_28 : decode cX6_init 28 = .ok (.aload_n 0, 1) := by decide +kernel
theorem dX6_init_29 : decode cX6_init 29 = .ok (.getfield 15, 3) := by decide +kernel
theorem dX6_init_32 : decode cX6_init 32 = .ok (.sipush 255, 3) := by decide +kernel
theorem dX6_init_35 : decode cX6_init 35 = .ok (.invokestatic 21, 3) := by decide +kernel
theorem dX6_init_38 : decode cX6_init 38 = .ok (.return_, 1) := by decide +kernel
theorem dX6_becomes_0 : decode cX6_becomes 0 = .ok (.aload_n 1, 1) := by decide +kernel
theorem dX6_becomes_1 : decode cX6_becomes 1 = .ok (.getfield 9, 3) := by decide +kernel
theorem dX6_becomes_4 : decode cX6_becomes 4 = .ok (.iconst 0, 1) := by decide +kernel
theorem dX6_becomes_5 : decode cX6_becomes 5 = .ok (.aload_n 0, 1) := by decide +kernel
theorem dX6_becomes_6 : decode cX6_becomes 6 = .ok (.getfield 9, 3) := by decide +kernel
theorem dX6_becomes_9 : decode cX6_becomes 9 = .ok (.iconst 0, 1) := by decide +kernel
theorem dX6_becomes_10 : decode cX6_becomes 10 = .ok (.aload_n 0, 1) := by decide +kernel
theorem dX6_becomes_11 : decode cX6_becomes 11 = .ok (.getfield 9, 3) := by decide +kernel
theorem dX6_becomes_14 : decode cX6_becomes 14 = .ok (.arraylength, 1) := by decide +kernel
theorem dX6_becomes_15 : decode cX6_becomes 15 = .ok (.invokestatic 27, 3) := by decide +kernel
theorem dX6_becomes_18 : decode cX6_becomes 18 = .ok (.aload_n 1, 1) := by decide +kernel
theorem dX6_becomes_19 : decode cX6_becomes 19 = .ok (.getfield 15, 3) := by decide +kernel
theorem dX6_becomes_22 : decode cX6_becomes 22 = .ok (.iconst 0, 1) := by decide +kernel
theorem dX6_becomes_23 : decode cX6_becomes 23 = .ok (.aload_n 0, 1) := by decide +kernel
theorem dX6_becomes_24 : decode cX6_becomes 24 = .ok (.getfield 15, 3) := by decide +kernel
theorem dX6_becomes_27 : decode cX6_becomes 27 = .ok (.iconst 0, 1) := by decide +kernel
theorem dX6_becomes_28 : decode cX6_becomes 28 = .ok (.aload_n 0, 1) := by decide +kernel
theorem dX6_becomes_29 : decode cX6_becomes 29 = .ok (.getfield 15, 3) := by decide +kernel
theorem dX6_becomes_32 : decode cX6_becomes 32 = .ok (.arraylength, 1) := by decide +kernel
theorem dX6_becomes_33 : decode cX6_becomes 33 = .ok (.invokestatic 27, 3) := by decide +kernel
theorem dX6_becomes_36 : decode cX6_becomes 36 = .ok (.aload_n 1, 1) := by decide +kernel
theorem dX6_becomes_37 : decode cX6_becomes 37 = .ok (.getfield 18, 3) := by decide +kernel
theorem dX6_becomes_40 : decode cX6_becomes 40 = .ok (.iconst 0, 1) := by decide +kernel
theorem dX6_becomes_41 : decode cX6_becomes 41 = .ok (.aload_n 0, 1) := by decide +kernel
theorem dX6_becomes_42 : decode cX6_becomes 42 = .ok (.getfield 18, 3) := by decide +kernel
theorem dX6_becomes_45 : decode cX6_becomes 45 = .ok (.iconst 0, 1) := by decide +kernel
theorem dX6_becomes_46 : decode cX6_becomes 46 = .ok (.aload_n 0, 1) := by decide +kernel
theorem dX6_becomes_47 : decode cX6_becomes 47 = .ok (.getfield 18, 3) := by decide +kernel
theorem dX6_becomes_50 : decode cX6_becomes 50 = .ok (.arraylength, 1) := by decide +kernel
theorem dX6_becomes_51 : decode cX6_becomes 51 = .ok (.invokestatic 27, 3) := by decide +kernel
theorem dX6_becomes_54 : decode cX6_becomes 54 = .ok (.aload_n 0, 1) := by decide +kernel
theorem dX6_becomes_55 : decode cX6_becomes 55 = .ok (.aload_n 1, 1) := by decide +kernel
theorem dX6_becomes_56 : decode cX6_becomes 56 = .ok (.getfield 33, 3) := by decide +kernel
theorem dX6_becomes_59 : decode cX6_becomes 59 = .ok (.putfield 33, 3) := by decide +kernel
theorem dX6_becomes_62 : decode cX6_becomes 62 = .ok (.return_, 1) := by decide +kernel
theorem dX6_rowAt_0 : decode cX6_rowAt 0 = .ok (.iload_n 1, 1) := by decide +kernel
theorem dX6_rowAt_1 : decode cX6_rowAt 1 = .ok (.invokestatic 37, 3) := by decide +kernel
theorem dX6_rowAt_4 : decode cX6_rowAt 4 = .ok (.ifCond .eq 27, 3) := by decide +kernel
theorem dX6_rowAt_7 : decode cX6_rowAt 7 = .ok (.iload_n 2, 1) := by decide +kernel
theorem dX6_rowAt_8 : decode cX6_rowAt 8 = .ok (.iconst 0, 1) := by decide +kernel
theorem dX6_rowAt_9 : decode cX6_rowAt 9 = .ok (.bipush 23, 2) := by decide +kernel
theorem dX6_rowAt_11 : decode cX6_rowAt 11 = .ok (.invokestatic 41, 3) := by decide +kernel
theorem dX6_rowAt_14 : decode cX6_rowAt 14 = .ok (.ifCond .eq 17, 3) := by decide +kernel
theorem dX6_rowAt_17 : decode cX6_rowAt 17 = .ok (.aload_n 0, 1) := by decide +kernel
theorem dX6_rowAt_18 : decode cX6_rowAt 18 = .ok (.getfield 9, 3) := by decide +kernel
theorem dX6_rowAt_21 : decode cX6_rowAt 21 = .ok (.iload_n 1, 1) := by decide +kernel
theorem dX6_rowAt_22 : decode cX6_rowAt 22 = .ok (.bipush 24, 2) := by decide +kernel
theorem dX6_rowAt_24 : decode cX6_rowAt 24 = .ok (.imul, 1) := by decide +kernel
theorem dX6_rowAt_25 : decode cX6_rowAt 25 = .ok (.iload_n 2, 1) := by decide +kernel
theorem dX6_rowAt_26 : decode cX6_rowAt 26 = .ok (.iadd, 1) := by decide +kernel
theorem dX6_rowAt_27 : decode cX6_rowAt 27 = .ok (.iaload, 1) := by decide +kernel
theorem dX6_rowAt_28 : decode cX6_rowAt 28 = .ok (.goto 4, 3) := by decide +kernel
theorem dX6_rowAt_31 : decode cX6_rowAt 31 = .ok (.iconst 0, 1) := by decide +kernel
theorem dX6_rowAt_32 : decode cX6_rowAt 32 = .ok (.ireturn, 1) := by decide +kernel
theorem dX6_putRow_0 : decode cX6_putRow 0 = .ok (.iload_n 1, 1) := by decide +kernel
theorem dX6_putRow_1 : decode cX6_putRow 1 = .ok (.invokestatic 37, 3) := by decide +kernel
theorem dX6_putRow_4 : decode cX6_putRow 4 = .ok (.ifCond .eq 25, 3) := by decide +kernel
theorem dX6_putRow_7 : decode cX6_putRow 7 = .ok (.iload_n 2, 1) := by decide +kernel
theorem dX6_putRow_8 : decode cX6_putRow 8 = .ok (.iconst 0, 1) := by decide +kernel
theorem dX6_putRow_9 : decode cX6_putRow 9 = .ok (.bipush 23, 2) := by decide +kernel
theorem dX6_putRow_11 : decode cX6_putRow 11 = .ok (.invokestatic 41, 3) := by decide +kernel
theorem dX6_putRow_14 : decode cX6_putRow 14 = .ok (.ifCond .eq 15, 3) := by decide +kernel
theorem dX6_putRow_17 : decode cX6_putRow 17 = .ok (.aload_n 0, 1) := by decide +kernel
theorem dX6_putRow_18 : decode cX6_putRow 18 = .ok (.getfield 9, 3) := by decide +kernel
theorem dX6_putRow_21 : decode cX6_putRow 21 = .ok (.iload_n 1, 1) := by decide +kernel
theorem dX6_putRow_22 : decode cX6_putRow 22 = .ok (.bipush 24, 2) := by decide +kernel
theorem dX6_putRow_24 : decode cX6_putRow 24 = .ok (.imul, 1) := by decide +kernel
theorem dX6_putRow_25 : decode cX6_putRow 25 = .ok (.iload_n 2, 1) := by decide +kernel
theorem dX6_putRow_26 : decode cX6_putRow 26 = .ok (.iadd, 1) := by decide +kernel
theorem dX6_putRow_27 : decode cX6_putRow 27 = .ok (.iload_n 3, 1) := by decide +kernel
theorem dX6_putRow_28 : decode cX6_putRow 28 = .ok (.iastore, 1) := by decide +kernel
theorem dX6_putRow_29 : decode cX6_putRow 29 = .ok (.return_, 1) := by decide +kernel
theorem dX6_dotAt_0 : decode cX6_dotAt 0 = .ok (.iload_n 2, 1) := by decide +kernel
theorem dX6_dotAt_1 : decode cX6_dotAt 1 = .ok (.iload_n 3, 1) := by decide +kernel
theorem dX6_dotAt_2 : decode cX6_dotAt 2 = .ok (.invokestatic 45, 3) := by decide +kernel
theorem dX6_dotAt_5 : decode cX6_dotAt 5 = .ok (.ifCond .eq 21, 3) := by decide +kernel
theorem dX6_dotAt_8 : decode cX6_dotAt 8 = .ok (.aload_n 0, 1) := by decide +kernel
theorem dX6_dotAt_9 : decode cX6_dotAt 9 = .ok (.iload_n 1, 1) := by decide +kernel
theorem dX6_dotAt_10 : decode cX6_dotAt 10 = .ok (.iload_n 3, 1) := by decide +kernel
theorem dX6_dotAt_11 : decode cX6_dotAt 11 = .ok (.invokevirtual 49, 3) := by decide +kernel
theorem dX6_dotAt_14 : decode cX6_dotAt 14 = .ok (.iload_n 2, 1) := by decide +kernel
theorem dX6_dotAt_15 : decode cX6_dotAt 15 = .ok (.invokestatic 53, 3) := by decide +kernel
theorem dX6_dotAt_18 : decode cX6_dotAt 18 = .ok (.iand, 1) := by decide +kernel
theorem dX6_dotAt_19 : decode cX6_dotAt 19 = .ok (.ifCond .eq 7, 3) := by decide +kernel
theorem dX6_dotAt_22 : decode cX6_dotAt 22 = .ok (.iconst 1, 1) := by decide +kernel
theorem dX6_dotAt_23 : decode cX6_dotAt 23 = .ok (.goto 4, 3) := by decide +kernel
theorem dX6_dotAt_26 : decode cX6_dotAt 26 = .ok (.iconst 0, 1) := by decide +kernel
theorem dX6_dotAt_27 : decode cX6_dotAt 27 = .ok (.ireturn, 1) := by decide +kernel
theorem dX6_patternAt_0 : decode cX6_patternAt 0 = .ok (.aload_n 0, 1) := by decide +kernel
theorem dX6_patternAt_1 : decode cX6_patternAt 1 = .ok (.getfield 15, 3) := by decide +kernel
theorem dX6_patternAt_4 : decode cX6_patternAt 4 = .ok (.iload_n 1, 1) := by decide +kernel
theorem dX6_patternAt_5 : decode cX6_patternAt 5 = .ok (.bipush 7, 2) := by decide +kernel
theorem dX6_patternAt_7 : decode cX6_patternAt 7 = .ok (.iand, 1) := by decide +kernel
theorem dX6_patternAt_8 : decode cX6_patternAt 8 = .ok (.iaload, 1) := by decide +kernel
theorem dX6_patternAt_9 : decode cX6_patternAt 9 = .ok (.ldc 57, 2) := by decide +kernel
theorem dX6_patternAt_11 : decode cX6_patternAt 11 = .ok (.imul, 1) := by decide +kernel
theorem dX6_patternAt_12 : decode cX6_patternAt 12 = .ok (.ireturn, 1) := by decide +kernel
theorem dX6_openAt_0 : decode cX6_openAt 0 = .ok (.aload_n 0, 1) := by decide +kernel
theorem dX6_openAt_1 : decode cX6_openAt 1 = .ok (.getfield 33, 3) := by decide +kernel
theorem dX6_openAt_4 : decode cX6_openAt 4 = .ok (.ifCond .ne 5, 3) := by decide +kernel
theorem dX6_openAt_7 : decode cX6_openAt 7 = .ok (.iconst (-1), 1) := by decide +kernel
theorem dX6_openAt_8 : decode cX6_openAt 8 = .ok (.ireturn, 1) := by decide +kernel
theorem dX6_openAt_9 : decode cX6_openAt 9 = .ok (.iconst 0, 1) := by decide +kernel
theorem dX6_openAt_10 : decode cX6_openAt 10 = .ok (.istore_n 2, 1) := by decide +kernel
theorem dX6_openAt_11 : decode cX6_openAt 11 = .ok (.iconst 0, 1) := by decide +kernel
theorem dX6_openAt_12 : decode cX6_openAt 12 = .ok (.istore_n 3, 1) := by decide +kernel
theorem dX6_openAt_13 : decode cX6_openAt 13 = .ok (.iload_n 3, 1) := by decide +kernel
theorem dX6_openAt_14 : decode cX6_openAt 14 = .ok (.aload_n 0, 1) := by decide +kernel
theorem dX6_openAt_15 : decode cX6_openAt 15 = .ok (.getfield 33, 3) := by decide +kernel
theorem dX6_openAt_18 : decode cX6_openAt 18 = .ok (.if_icmp .ge 74, 3) := by decide +kernel
theorem dX6_openAt_21 : decode cX6_openAt 21 = .ok (.iload_n 3, 1) := by decide +kernel
theorem dX6_openAt_22 : decode cX6_openAt 22 = .ok (.iconst 4, 1) := by decide +kernel
theorem dX6_openAt_23 : decode cX6_openAt 23 = .ok (.if_icmp .ge 69, 3) := by decide +kernel
theorem dX6_openAt_26 : decode cX6_openAt 26 = .ok (.iload_n 3, 1) := by decide +kernel
theorem dX6_openAt_27 : decode cX6_openAt 27 = .ok (.iconst 4, 1) := by decide +kernel
theorem dX6_openAt_28 : decode cX6_openAt 28 = .ok (.imul, 1) := by decide +kernel
theorem dX6_openAt_29 : decode cX6_openAt 29 = .ok (.istore 4, 2) := by decide +kernel
theorem dX6_openAt_31 : decode cX6_openAt 31 = .ok (.aload_n 0, 1) := by decide +kernel
theorem dX6_openAt_32 : decode cX6_openAt 32 = .ok (.getfield 18, 3) := by decide +kernel
theorem dX6_openAt_35 : decode cX6_openAt 35 = .ok (.iload 4, 2) := by decide +kernel
theorem dX6_openAt_37 : decode cX6_openAt 37 = .ok (.iconst 1, 1) := by decide +kernel
theorem dX6_openAt_38 : decode cX6_openAt 38 = .ok (.iadd, 1) := by decide +kernel
theorem dX6_openAt_39 : decode cX6_openAt 39 = .ok (.iaload, 1) := by decide +kernel
theorem dX6_openAt_40 : decode cX6_openAt 40 = .ok (.istore 5, 2) := by decide +kernel
theorem dX6_openAt_42 : decode cX6_openAt 42 = .ok (.iload_n 1, 1) := by decide +kernel
theorem dX6_openAt_43 : decode cX6_openAt 43 = .ok (.iload 5, 2) := by decide +kernel
theorem dX6_openAt_45 : decode cX6_openAt 45 = .ok (.if_icmp .lt 41, 3) := by decide +kernel
theorem dX6_openAt_48 : decode cX6_openAt 48 = .ok (.iload_n 1, 1) := by decide +kernel
theorem dX6_openAt_49 : decode cX6_openAt 49 = .ok (.iload 5, 2) := by decide +kernel
theorem dX6_openAt_51 : decode cX6_openAt 51 = .ok (.aload_n 0, 1) := by decide +kernel
theorem dX6_openAt_52 : decode cX6_openAt 52 = .ok (.getfield 18, 3) := by decide +kernel
theorem dX6_openAt_55 : decode cX6_openAt 55 = .ok (.iload 4, 2) := by decide +kernel
theorem dX6_openAt_57 : decode cX6_openAt 57 = .ok (.iconst 3, 1) := by decide +kernel
theorem dX6_openAt_58 : decode cX6_openAt 58 = .ok (.iadd, 1) := by decide +kernel
theorem dX6_openAt_59 : decode cX6_openAt 59 = .ok (.iaload, 1) := by decide +kernel
theorem dX6_openAt_60 : decode cX6_openAt 60 = .ok (.iadd, 1) := by decide +kernel
theorem dX6_openAt_61 : decode cX6_openAt 61 = .ok (.if_icmp .ge 25, 3) := by decide +kernel
theorem dX6_openAt_64 : decode cX6_openAt 64 = .ok (.iload_n 2, 1) := by decide +kernel
theorem dX6_openAt_65 : decode cX6_openAt 65 = .ok (.aload_n 0, 1) := by decide +kernel
theorem dX6_openAt_66 : decode cX6_openAt 66 = .ok (.getfield 18, 3) := by decide +kernel
theorem dX6_openAt_69 : decode cX6_openAt 69 = .ok (.iload 4, 2) := by decide +kernel
theorem dX6_openAt_71 : decode cX6_openAt 71 = .ok (.iaload, 1) := by decide +kernel
theorem dX6_openAt_72 : decode cX6_openAt 72 = .ok (.aload_n 0, 1) := by decide +kernel
theorem dX6_openAt_73 : decode cX6_openAt 73 = .ok (.getfield 18, 3) := by decide +kernel
theorem dX6_openAt_76 : decode cX6_openAt 76 = .ok (.iload 4, 2) := by decide +kernel
theorem dX6_openAt_78 : decode cX6_openAt 78 = .ok (.iconst 2, 1) := by decide +kernel
theorem dX6_openAt_79 : decode cX6_openAt 79 = .ok (.iadd, 1) := by decide +kernel
theorem dX6_openAt_80 : decode cX6_openAt 80 = .ok (.iaload, 1) := by decide +kernel
theorem dX6_openAt_81 : decode cX6_openAt 81 = .ok (.invokestatic 58, 3) := by decide +kernel
theorem dX6_openAt_84 : decode cX6_openAt 84 = .ok (.ior, 1) := by decide +kernel
theorem dX6_openAt_85 : decode cX6_openAt 85 = .ok (.istore_n 2, 1) := by decide +kernel
theorem dX6_openAt_86 : decode cX6_openAt 86 = .ok (.iinc 3 1, 3) := by decide +kernel
theorem dX6_openAt_89 : decode cX6_openAt 89 = .ok (.goto (-76), 3) := by decide +kernel
theorem dX6_openAt_92 : decode cX6_openAt 92 = .ok (.iload_n 2, 1) := by decide +kernel
theorem dX6_openAt_93 : decode cX6_openAt 93 = .ok (.ireturn, 1) := by decide +kernel
theorem dX6_isOpen_0 : decode cX6_isOpen 0 = .ok (.iload_n 1, 1) := by decide +kernel
theorem dX6_isOpen_1 : decode cX6_isOpen 1 = .ok (.iload_n 2, 1) := by decide +kernel
theorem dX6_isOpen_2 : decode cX6_isOpen 2 = .ok (.invokestatic 45, 3) := by decide +kernel
theorem dX6_isOpen_5 : decode cX6_isOpen 5 = .ok (.ifCond .eq 20, 3) := by decide +kernel
theorem dX6_isOpen_8 : decode cX6_isOpen 8 = .ok (.aload_n 0, 1) := by decide +kernel
theorem dX6_isOpen_9 : decode cX6_isOpen 9 = .ok (.iload_n 2, 1) := by decide +kernel
theorem dX6_isOpen_10 : decode cX6_isOpen 10 = .ok (.invokevirtual 61, 3) := by decide +kernel
theorem dX6_isOpen_13 : decode cX6_isOpen 13 = .ok (.iload_n 1, 1) := by decide +kernel
theorem dX6_isOpen_14 : decode cX6_isOpen 14 = .ok (.invokestatic 53, 3) := by decide +kernel
theorem dX6_isOpen_17 : decode cX6_isOpen 17 = .ok (.iand, 1) := by decide +kernel
theorem dX6_isOpen_18 : decode cX6_isOpen 18 = .ok (.ifCond .eq 7, 3) := by decide +kernel
theorem dX6_isOpen_21 : decode cX6_isOpen 21 = .ok (.iconst 1, 1) := by decide +kernel
theorem dX6_isOpen_22 : decode cX6_isOpen 22 = .ok (.goto 4, 3) := by decide +kernel
theorem dX6_isOpen_25 : decode cX6_isOpen 25 = .ok (.iconst 0, 1) := by decide +kernel
theorem dX6_isOpen_26 : decode cX6_isOpen 26 = .ok (.ireturn, 1) := by decide +kernel
theorem dX6_opens_0 : decode cX6_opens 0 = .ok (.aload_n 0, 1) := by decide +kernel
theorem dX6_opens_1 : decode cX6_opens 1 = .ok (.getfield 33, 3) := by decide +kernel
theorem dX6_opens_4 : decode cX6_opens 4 = .ok (.iconst 4, 1) := by decide +kernel
theorem dX6_opens_5 : decode cX6_opens 5 = .ok (.if_icmp .lt 4, 3) := by decide +kernel
theorem dX6_opens_8 : decode cX6_opens 8 = .ok (.return_, 1) := by decide +kernel
theorem dX6_opens_9 : decode cX6_opens 9 = .ok (.aload_n 0, 1) := by decide +kernel
theorem dX6_opens_10 : decode cX6_opens 10 = .ok (.getfield 33, 3) := by decide +kernel
theorem dX6_opens_13 : decode cX6_opens 13 = .ok (.iconst 4, 1) := by decide +kernel
theorem dX6_opens_14 : decode cX6_opens 14 = .ok (.imul, 1) := by decide +kernel
theorem dX6_opens_15 : decode cX6_opens 15 = .ok (.istore 5, 2) := by decide +kernel
theorem dX6_opens_17 : decode cX6_opens 17 = .ok (.aload_n 0, 1) := by decide +kernel
theorem dX6_opens_18 : decode cX6_opens 18 = .ok (.getfield 18, 3) := by decide +kernel
theorem dX6_opens_21 : decode cX6_opens 21 = .ok (.iload 5, 2) := by decide +kernel
theorem dX6_opens_23 : decode cX6_opens 23 = .ok (.iload_n 1, 1) := by decide +kernel
theorem dX6_opens_24 : decode cX6_opens 24 = .ok (.iastore, 1) := by decide +kernel
theorem dX6_opens_25 : decode cX6_opens 25 = .ok (.aload_n 0, 1) := by decide +kernel
theorem dX6_opens_26 : decode cX6_opens 26 = .ok (.getfield 18, 3) := by decide +kernel
theorem dX6_opens_29 : decode cX6_opens 29 = .ok (.iload 5, 2) := by decide +kernel
theorem dX6_opens_31 : decode cX6_opens 31 = .ok (.iconst 1, 1) := by decide +kernel
theorem dX6_opens_32 : decode cX6_opens 32 = .ok (.iadd, 1) := by decide +kernel
theorem dX6_opens_33 : decode cX6_opens 33 = .ok (.iload_n 2, 1) := by decide +kernel
theorem dX6_opens_34 : decode cX6_opens 34 = .ok (.iastore, 1) := by decide +kernel
theorem dX6_opens_35 : decode cX6_opens 35 = .ok (.aload_n 0, 1) := by decide +kernel
theorem dX6_opens_36 : decode cX6_opens 36 = .ok (.getfield 18, 3) := by decide +kernel
theorem dX6_opens_39 : decode cX6_opens 39 = .ok (.iload 5, 2) := by decide +kernel
theorem dX6_opens_41 : decode cX6_opens 41 = .ok (.iconst 2, 1) := by decide +kernel
theorem dX6_opens_42 : decode cX6_opens 42 = .ok (.iadd, 1) := by decide +kernel
theorem dX6_opens_43 : decode cX6_opens 43 = .ok (.iload_n 3, 1) := by decide +kernel
theorem dX6_opens_44 : decode cX6_opens 44 = .ok (.iastore, 1) := by decide +kernel
theorem dX6_opens_45 : decode cX6_opens 45 = .ok (.aload_n 0, 1) := by decide +kernel
theorem dX6_opens_46 : decode cX6_opens 46 = .ok (.getfield 18, 3) := by decide +kernel
theorem dX6_opens_49 : decode cX6_opens 49 = .ok (.iload 5, 2) := by decide +kernel
theorem dX6_opens_51 : decode cX6_opens 51 = .ok (.iconst 3, 1) := by decide +kernel
theorem dX6_opens_52 : decode cX6_opens 52 = .ok (.iadd, 1) := by decide +kernel
theorem dX6_opens_53 : decode cX6_opens 53 = .ok (.iload 4, 2) := by decide +kernel
theorem dX6_opens_55 : decode cX6_opens 55 = .ok (.iastore, 1) := by decide +kernel
theorem dX6_opens_56 : decode cX6_opens 56 = .ok (.aload_n 0, 1) := by decide +kernel
theorem dX6_opens_57 : decode cX6_opens 57 = .ok (.dup, 1) := by decide +kernel
theorem dX6_opens_58 : decode cX6_opens 58 = .ok (.getfield 33, 3) := by decide +kernel
theorem dX6_opens_61 : decode cX6_opens 61 = .ok (.iconst 1, 1) := by decide +kernel
theorem dX6_opens_62 : decode cX6_opens 62 = .ok (.iadd, 1) := by decide +kernel
theorem dX6_opens_63 : decode cX6_opens 63 = .ok (.putfield 33, 3) := by decide +kernel
theorem dX6_opens_66 : decode cX6_opens 66 = .ok (.return_, 1) := by decide +kernel
theorem dX6_joinsRow_0 : decode cX6_joinsRow 0 = .ok (.iload_n 3, 1) := by decide +kernel
theorem dX6_joinsRow_1 : decode cX6_joinsRow 1 = .ok (.aload_n 0, 1) := by decide +kernel
theorem dX6_joinsRow_2 : decode cX6_joinsRow 2 = .ok (.iload_n 2, 1) := by decide +kernel
theorem dX6_joinsRow_3 : decode cX6_joinsRow 3 = .ok (.invokevirtual 61, 3) := by decide +kernel
theorem dX6_joinsRow_6 : decode cX6_joinsRow 6 = .ok (.iand, 1) := by decide +kernel
theorem dX6_joinsRow_7 : decode cX6_joinsRow 7 = .ok (.istore 6, 2) := by decide +kernel
theorem dX6_joinsRow_9 : decode cX6_joinsRow 9 = .ok (.iload 6, 2) := by decide +kernel
theorem dX6_joinsRow_11 : decode cX6_joinsRow 11 = .ok (.ifCond .ne 5, 3) := by decide +kernel
theorem dX6_joinsRow_14 : decode cX6_joinsRow 14 = .ok (.iconst 0, 1) := by decide +kernel
theorem dX6_joinsRow_15 : decode cX6_joinsRow 15 = .ok (.ireturn, 1) := by decide +kernel
theorem dX6_joinsRow_16 : decode cX6_joinsRow 16 = .ok (.aload_n 0, 1) := by decide +kernel
theorem dX6_joinsRow_17 : decode cX6_joinsRow 17 = .ok (.iload_n 1, 1) := by decide +kernel
theorem dX6_joinsRow_18 : decode cX6_joinsRow 18 = .ok (.iload_n 2, 1) := by decide +kernel
theorem dX6_joinsRow_19 : decode cX6_joinsRow 19 = .ok (.invokevirtual 49, 3) := by decide +kernel
theorem dX6_joinsRow_22 : decode cX6_joinsRow 22 = .ok (.istore 7, 2) := by decide +kernel
theorem dX6_joinsRow_24 : decode cX6_joinsRow 24 = .ok (.iload 4, 2) := by decide +kernel
theorem dX6_joinsRow_26 : decode cX6_joinsRow 26 = .ok (.aload_n 0, 1) := by decide +kernel
theorem dX6_joinsRow_27 : decode cX6_joinsRow 27 = .ok (.iload_n 2, 1) := by decide +kernel
theorem dX6_joinsRow_28 : decode cX6_joinsRow 28 = .ok (.invokevirtual 64, 3) := by decide +kernel
theorem dX6_joinsRow_31 : decode cX6_joinsRow 31 = .ok (.iload 7, 2) := by decide +kernel
theorem dX6_joinsRow_33 : decode cX6_joinsRow 33 = .ok (.iload 5, 2) := by decide +kernel
theorem dX6_joinsRow_35 : decode cX6_joinsRow 35 = .ok (.invokestatic 67, 3) := by decide +kernel
theorem dX6_joinsRow_38 : decode cX6_joinsRow 38 = .ok (.istore 8, 2) := by decide +kernel
theorem dX6_joinsRow_40 : decode cX6_joinsRow 40 = .ok (.aload_n 0, 1) := by decide +kernel
theorem dX6_joinsRow_41 : decode cX6_joinsRow 41 = .ok (.iload_n 1, 1) := by decide +kernel
theorem dX6_joinsRow_42 : decode cX6_joinsRow 42 = .ok (.iload_n 2, 1) := by decide +kernel
theorem dX6_joinsRow_43 : decode cX6_joinsRow 43 = .ok (.iload 8, 2) := by decide +kernel
theorem dX6_joinsRow_45 : decode cX6_joinsRow 45 = .ok (.iload 7, 2) := by decide +kernel
theorem dX6_joinsRow_47 : decode cX6_joinsRow 47 = .ok (.ixor, 1) := by decide +kernel
theorem dX6_joinsRow_48 : decode cX6_joinsRow 48 = .ok (.iload 6, 2) := by decide +kernel
theorem dX6_joinsRow_50 : decode cX6_joinsRow 50 = .ok (.iand, 1) := by decide +kernel
theorem dX6_joinsRow_51 : decode cX6_joinsRow 51 = .ok (.invokevirtual 71, 3) := by decide +kernel
theorem dX6_joinsRow_54 : decode cX6_joinsRow 54 = .ok (.ireturn, 1) := by decide +kernel
theorem dX6_turnsDots_0 : decode cX6_turnsDots 0 = .ok (.iload_n 1, 1) := by decide +kernel
theorem dX6_turnsDots_1 : decode cX6_turnsDots 1 = .ok (.invokestatic 37, 3) := by decide +kernel
theorem dX6_turnsDots_4 : decode cX6_turnsDots 4 = .ok (.ifCond .eq 13, 3) := by decide +kernel
theorem dX6_turnsDots_7 : decode cX6_turnsDots 7 = .ok (.iload_n 2, 1) := by decide +kernel
theorem dX6_turnsDots_8 : decode cX6_turnsDots 8 = .ok (.iconst 0, 1) := by decide +kernel
theorem dX6_turnsDots_9 : decode cX6_turnsDots 9 = .ok (.bipush 23, 2) := by decide +kernel
theorem dX6_turnsDots_11 : decode cX6_turnsDots 11 = .ok (.invokestatic 41, 3) := by decide +kernel
theorem dX6_turnsDots_14 : decode cX6_turnsDots 14 = .ok (.ifCond .ne 5, 3) := by decide +kernel
theorem dX6_turnsDots_17 : decode cX6_turnsDots 17 = .ok (.iconst 0, 1) := by decide +kernel
theorem dX6_turnsDots_18 : decode cX6_turnsDots 18 = .ok (.ireturn, 1) := by decide +kernel
theorem dX6_turnsDots_19 : decode cX6_turnsDots 19 = .ok (.aload_n 0, 1) := by decide +kernel
theorem dX6_turnsDots_20 : decode cX6_turnsDots 20 = .ok (.getfield 9, 3) := by decide +kernel
theorem dX6_turnsDots_23 : decode cX6_turnsDots 23 = .ok (.iload_n 1, 1) := by decide +kernel
theorem dX6_turnsDots_24 : decode cX6_turnsDots 24 = .ok (.bipush 24, 2) := by decide +kernel
theorem dX6_turnsDots_26 : decode cX6_turnsDots 26 = .ok (.imul, 1) := by decide +kernel
theorem dX6_turnsDots_27 : decode cX6_turnsDots 27 = .ok (.iload_n 2, 1) := by decide +kernel
theorem dX6_turnsDots_28 : decode cX6_turnsDots 28 = .ok (.iadd, 1) := by decide +kernel
theorem dX6_turnsDots_29 : decode cX6_turnsDots 29 = .ok (.dup2, 1) := by decide +kernel
theorem dX6_turnsDots_30 : decode cX6_turnsDots 30 = .ok (.iaload, 1) := by decide +kernel
theorem dX6_turnsDots_31 : decode cX6_turnsDots 31 = .ok (.iload_n 3, 1) := by decide +kernel
theorem dX6_turnsDots_32 : decode cX6_turnsDots 32 = .ok (.ixor, 1) := by decide +kernel
theorem dX6_turnsDots_33 : decode cX6_turnsDots 33 = .ok (.iastore, 1) := by decide +kernel
theorem dX6_turnsDots_34 : decode cX6_turnsDots 34 = .ok (.iload_n 3, 1) := by decide +kernel
theorem dX6_turnsDots_35 : decode cX6_turnsDots 35 = .ok (.invokestatic 75, 3) := by decide +kernel
theorem dX6_turnsDots_38 : decode cX6_turnsDots 38 = .ok (.ireturn, 1) := by decide +kernel
theorem dX6_mixedInto_0 : decode cX6_mixedInto 0 = .ok (.lload_n 1, 1) := by decide +kernel
theorem dX6_mixedInto_1 : decode cX6_mixedInto 1 = .ok (.lstore_n 3, 1) := by decide +kernel
theorem dX6_mixedInto_2 : decode cX6_mixedInto 2 = .ok (.iconst 0, 1) := by decide +kernel
theorem dX6_mixedInto_3 : decode cX6_mixedInto 3 = .ok (.istore 5, 2) := by decide +kernel
theorem dX6_mixedInto_5 : decode cX6_mixedInto 5 = .ok (.iload 5, 2) := by decide +kernel
theorem dX6_mixedInto_7 : decode cX6_mixedInto 7 = .ok (.aload_n 0, 1) := by decide +kernel
theorem dX6_mixedInto_8 : decode cX6_mixedInto 8 = .ok (.getfield 9, 3) := by decide +kernel
theorem dX6_mixedInto_11 : decode cX6_mixedInto 11 = .ok (.arraylength, 1) := by decide +kernel
theorem dX6_mixedInto_12 : decode cX6_mixedInto 12 = .ok (.if_icmp .ge 24, 3) := by decide +kernel
theorem dX6_mixedInto_15 : decode cX6_mixedInto 15 = .ok (.ldc2_w 80, 3) := by decide +kernel
theorem dX6_mixedInto_18 : decode cX6_mixedInto 18 = .ok (.lload_n 3, 1) := by decide +kernel
theorem dX6_mixedInto_19 : decode cX6_mixedInto 19 = .ok (.lmul, 1) := by decide +kernel
theorem dX6_mixedInto_20 : decode cX6_mixedInto 20 = .ok (.aload_n 0, 1) := by decide +kernel
theorem dX6_mixedInto_21 : decode cX6_mixedInto 21 = .ok (.getfield 9, 3) := by decide +kernel
theorem dX6_mixedInto_24 : decode cX6_mixedInto 24 = .ok (.iload 5, 2) := by decide +kernel
theorem dX6_mixedInto_26 : decode cX6_mixedInto 26 = .ok (.iaload, 1) := by decide +kernel
theorem dX6_mixedInto_27 : decode cX6_mixedInto 27 = .ok (.i2l, 1) := by decide +kernel
theorem dX6_mixedInto_28 : decode cX6_mixedInto 28 = .ok (.ladd, 1) := by decide +kernel
theorem dX6_mixedInto_29 : decode cX6_mixedInto 29 = .ok (.lstore_n 3, 1) := by decide +kernel
theorem dX6_mixedInto_30 : decode cX6_mixedInto 30 = .ok (.iinc 5 1, 3) := by decide +kernel
theorem dX6_mixedInto_33 : decode cX6_mixedInto 33 = .ok (.goto (-28), 3) := by decide +kernel
theorem dX6_mixedInto_36 : decode cX6_mixedInto 36 = .ok (.iconst 0, 1) := by decide +kernel
theorem dX6_mixedInto_37 : decode cX6_mixedInto 37 = .ok (.istore 5, 2) := by decide +kernel
theorem dX6_mixedInto_39 : decode cX6_mixedInto 39 = .ok (.iload 5, 2) := by decide +kernel
theorem dX6_mixedInto_41 : decode cX6_mixedInto 41 = .ok (.bipush 8, 2) := by decide +kernel
theorem dX6_mixedInto_43 : decode cX6_mixedInto 43 = .ok (.if_icmp .ge 24, 3) := by decide +kernel
theorem dX6_mixedInto_46 : decode cX6_mixedInto 46 = .ok (.ldc2_w 80, 3) := by decide +kernel
theorem dX6_mixedInto_49 : decode cX6_mixedInto 49 = .ok (.lload_n 3, 1) := by decide +kernel
theorem dX6_mixedInto_50 : decode cX6_mixedInto 50 = .ok (.lmul, 1) := by decide +kernel
theorem dX6_mixedInto_51 : decode cX6_mixedInto 51 = .ok (.aload_n 0, 1) := by decide +kernel
theorem dX6_mixedInto_52 : decode cX6_mixedInto 52 = .ok (.getfield 15, 3) := by decide +kernel
theorem dX6_mixedInto_55 : decode cX6_mixedInto 55 = .ok (.iload 5, 2) := by decide +kernel
theorem dX6_mixedInto_57 : decode cX6_mixedInto 57 = .ok (.iaload, 1) := by decide +kernel
theorem dX6_mixedInto_58 : decode cX6_mixedInto 58 = .ok (.i2l, 1) := by decide +kernel
theorem dX6_mixedInto_59 : decode cX6_mixedInto 59 = .ok (.ladd, 1) := by decide +kernel
theorem dX6_mixedInto_60 : decode cX6_mixedInto 60 = .ok (.lstore_n 3, 1) := by decide +kernel
theorem dX6_mixedInto_61 : decode cX6_mixedInto 61 = .ok (.iinc 5 1, 3) := by decide +kernel
theorem dX6_mixedInto_64 : decode cX6_mixedInto 64 = .ok (.goto (-25), 3) := by decide +kernel
theorem dX6_mixedInto_67 : decode cX6_mixedInto 67 = .ok (.iconst 0, 1) := by decide +kernel
theorem dX6_mixedInto_68 : decode cX6_mixedInto 68 = .ok (.istore 5, 2) := by decide +kernel
theorem dX6_mixedInto_70 : decode cX6_mixedInto 70 = .ok (.iload 5, 2) := by decide +kernel
theorem dX6_mixedInto_72 : decode cX6_mixedInto 72 = .ok (.aload_n 0, 1) := by decide +kernel
theorem dX6_mixedInto_73 : decode cX6_mixedInto 73 = .ok (.getfield 33, 3) := by decide +kernel
theorem dX6_mixedInto_76 : decode cX6_mixedInto 76 = .ok (.iconst 4, 1) := by decide +kernel
theorem dX6_mixedInto_77 : decode cX6_mixedInto 77 = .ok (.imul, 1) := by decide +kernel
theorem dX6_mixedInto_78 : decode cX6_mixedInto 78 = .ok (.if_icmp .ge 34, 3) := by decide +kernel
theorem dX6_mixedInto_81 : decode cX6_mixedInto 81 = .ok (.iload 5, 2) := by decide +kernel
theorem dX6_mixedInto_83 : decode cX6_mixedInto 83 = .ok (.aload_n 0, 1) := by decide +kernel
theorem dX6_mixedInto_84 : decode cX6_mixedInto 84 = .ok (.getfield 18, 3) := by decide +kernel
theorem dX6_mixedInto_87 : decode cX6_mixedInto 87 = .ok (.arraylength, 1) := by decide +kernel
theorem dX6_mixedInto_88 : decode cX6_mixedInto 88 = .ok (.if_icmp .ge 24, 3) := by decide +kernel
theorem dX6_mixedInto_91 : decode cX6_mixedInto 91 = .ok (.ldc2_w 80, 3) := by decide +kernel
theorem dX6_mixedInto_94 : decode cX6_mixedInto 94 = .ok (.lload_n 3, 1) := by decide +kernel
theorem dX6_mixedInto_95 : decode cX6_mixedInto 95 = .ok (.lmul, 1) := by decide +kernel
theorem dX6_mixedInto_96 : decode cX6_mixedInto 96 = .ok (.aload_n 0, 1) := by decide +kernel
theorem dX6_mixedInto_97 : decode cX6_mixedInto 97 = .ok (.getfield 18, 3) := by decide +kernel
theorem dX6_mixedInto_100 : decode cX6_mixedInto 100 = .ok (.iload 5, 2) := by decide +kernel
theorem dX6_mixedInto_102 : decode cX6_mixedInto 102 = .ok (.iaload, 1) := by decide +kernel
theorem dX6_mixedInto_103 : decode cX6_mixedInto 103 = .ok (.i2l, 1) := by decide +kernel
theorem dX6_mixedInto_104 : decode cX6_mixedInto 104 = .ok (.ladd, 1) := by decide +kernel
theorem dX6_mixedInto_105 : decode cX6_mixedInto 105 = .ok (.lstore_n 3, 1) := by decide +kernel
theorem dX6_mixedInto_106 : decode cX6_mixedInto 106 = .ok (.iinc 5 1, 3) := by decide +kernel
theorem dX6_mixedInto_109 : decode cX6_mixedInto 109 = .ok (.goto (-39), 3) := by decide +kernel
theorem dX6_mixedInto_112 : decode cX6_mixedInto 112 = .ok (.lload_n 3, 1) := by decide +kernel
theorem dX6_mixedInto_113 : decode cX6_mixedInto 113 = .ok (.lreturn, 1) := by decide +kernel
theorem dX7_init_0 : decode cX7_init 0 = .ok (.aload_n 0, 1) := by decide +kernel
theorem dX7_init_1 : decode cX7_init 1 = .ok (.invokespecial 3, 3) := by decide +kernel
theorem dX7_init_4 : decode cX7_init 4 = .ok (.aload_n 0, 1) := by decide +kernel
theorem dX7_init_5 : decode cX7_init 5 = .ok (.bipush 24, 2) := by decide +kernel
theorem dX7_init_7 : decode cX7_init 7 = .ok (.newarray .int, 2) := by decide +kernel
theorem dX7_init_9 : decode cX7_init 9 = .ok (.putfield 9, 3) := by decide +kernel
theorem dX7_init_12 : decode cX7_init 12 = .ok (.aload_n 0, 1) := by decide +kernel
theorem dX7_init_13 : decode cX7_init 13 = .ok (.aload_n 1, 1) := by decide +kernel
theorem dX7_init_14 : decode cX7_init 14 = .ok (.putfield 15, 3) := by decide +kernel
theorem dX7_init_17 : decode cX7_init 17 = .ok (.return_, 1) := by decide +kernel
theorem dX7_drawn_0 : decode cX7_drawn 0 = .ok (.iload_n 2, 1) := by decide +kernel
theorem dX7_drawn_1 : decode cX7_drawn 1 = .ok (.i2l, 1) := by decide +kernel
theorem dX7_drawn_2 : decode cX7_drawn 2 = .ok (.lstore_n 3, 1) := by decide +kernel
theorem dX7_drawn_3 : decode cX7_drawn 3 = .ok (.iconst 0, 1) := by decide +kernel
theorem dX7_drawn_4 : decode cX7_drawn 4 = .ok (.istore 5, 2) := by decide +kernel
theorem dX7_drawn_6 : decode cX7_drawn 6 = .ok (.iload 5, 2) := by decide +kernel
theorem dX7_drawn_8 : decode cX7_drawn 8 = .ok (.bipush 24, 2) := by decide +kernel
theorem dX7_drawn_10 : decode cX7_drawn 10 = .ok (.if_icmp .ge 61, 3) := by decide +kernel
theorem dX7_drawn_13 : decode cX7_drawn 13 = .ok (.lload_n 3, 1) := by decide +kernel
theorem dX7_drawn_14 : decode cX7_drawn 14 = .ok (.invokestatic 19, 3) := by decide +kernel
theorem dX7_drawn_17 : decode cX7_drawn 17 = .ok (.lstore_n 3, 1) := by decide +kernel
theorem dX7_drawn_18 : decode cX7_drawn 18 = .ok (.lload_n 3, 1) := by decide +kernel
theorem dX7_drawn_19 : decode cX7_drawn 19 = .ok (.ldc2_w 23, 3) := by decide +kernel
theorem dX7_drawn_22 : decode cX7_drawn 22 = .ok (.ldiv, 1) := by decide +kernel
theorem dX7_drawn_23 : decode cX7_drawn 23 = .ok (.ldc2_w 25, 3) := by decide +kernel
theorem dX7_drawn_26 : decode cX7_drawn 26 = .ok (.lrem, 1) := by decide +kernel
theorem dX7_drawn_27 : decode cX7_drawn 27 = .ok (.l2i, 1) := by decide +kernel
theorem dX7_drawn_28 : decode cX7_drawn 28 = .ok (.istore 6, 2) := by decide +kernel
theorem dX7_drawn_30 : decode cX7_drawn 30 = .ok (.lload_n 3, 1) := by decide +kernel
theorem dX7_drawn_31 : decode cX7_drawn 31 = .ok (.invokestatic 19, 3) := by decide +kernel
theorem dX7_drawn_34 : decode cX7_drawn 34 = .ok (.lstore_n 3, 1) := by decide +kernel
theorem dX7_drawn_35 : decode cX7_drawn 35 = .ok (.lload_n 3, 1) := by decide +kernel
theorem dX7_drawn_36 : decode cX7_drawn 36 = .ok (.ldc2_w 23, 3) := by decide +kernel
theorem dX7_drawn_39 : decode cX7_drawn 39 = .ok (.ldiv, 1) := by decide +kernel
theorem dX7_drawn_40 : decode cX7_drawn 40 = .ok (.ldc2_w 25, 3) := by decide +kernel
theorem dX7_drawn_43 : decode cX7_drawn 43 = .ok (.lrem, 1) := by decide +kernel
theorem dX7_drawn_44 : decode cX7_drawn 44 = .ok (.l2i, 1) := by decide +kernel
theorem dX7_drawn_45 : decode cX7_drawn 45 = .ok (.istore 7, 2) := by decide +kernel
theorem dX7_drawn_47 : decode cX7_drawn 47 = .ok (.aload_n 0, 1) := by decide +kernel
theorem dX7_drawn_48 : decode cX7_drawn 48 = .ok (.getfield 15, 3) := by decide +kernel
theorem dX7_drawn_51 : decode cX7_drawn 51 = .ok (.iload_n 1, 1) := by decide +kernel
theorem dX7_drawn_52 : decode cX7_drawn 52 = .ok (.iload 5, 2) := by decide +kernel
theorem dX7_drawn_54 : decode cX7_drawn 54 = .ok (.iload 6, 2) := by decide +kernel
theorem dX7_drawn_56 : decode cX7_drawn 56 = .ok (.bipush 16, 2) := by decide +kernel
theorem dX7_drawn_58 : decode cX7_drawn 58 = .ok (.ishl, 1) := by decide +kernel
theorem dX7_drawn_59 : decode cX7_drawn 59 = .ok (.iload 7, 2) := by decide +kernel
theorem dX7_drawn_61 : decode cX7_drawn 61 = .ok (.ior, 1) := by decide +kernel
theorem dX7_drawn_62 : decode cX7_drawn 62 = .ok (.invokevirtual 27, 3) := by decide +kernel
theorem dX7_drawn_65 : decode cX7_drawn 65 = .ok (.iinc 5 1, 3) := by decide +kernel
theorem dX7_drawn_68 : decode cX7_drawn 68 = .ok (.goto (-62), 3) := by decide +kernel
theorem dX7_drawn_71 : decode cX7_drawn 71 = .ok (.return_, 1) := by decide +kernel
theorem dX7_numberBehind_0 : decode cX7_numberBehind 0 = .ok (.lload_n 0, 1) := by decide +kernel
theorem dX7_numberBehind_1 : decode cX7_numberBehind 1 = .ok (.ldc2_w 33, 3) := by decide +kernel
theorem dX7_numberBehind_4 : decode cX7_numberBehind 4 = .ok (.lmul, 1) := by decide +kernel
theorem dX7_numberBehind_5 : decode cX7_numberBehind 5 = .ok (.ldc2_w 35, 3) := by decide +kernel
theorem dX7_numberBehind_8 : decode cX7_numberBehind 8 = .ok (.ladd, 1) := by decide +kernel
theorem dX7_numberBehind_9 : decode cX7_numberBehind 9 = .ok (.ldc2_w 37, 3) := by decide +kernel
theorem dX7_numberBehind_12 : decode cX7_numberBehind 12 = .ok (.lrem, 1) := by decide +kernel
theorem dX7_numberBehind_13 : decode cX7_numberBehind 13 = .ok (.lreturn, 1) := by decide +kernel
theorem dX7_joined_0 : decode cX7_joined 0 = .ok (.iconst 0, 1) := by decide +kernel
theorem dX7_joined_1 : decode cX7_joined 1 = .ok (.istore 4, 2) := by decide +kernel
theorem dX7_joined_3 : decode cX7_joined 3 = .ok (.iconst 0, 1) := by decide +kernel
theorem dX7_joined_4 : decode cX7_joined 4 = .ok (.istore 5, 2) := by decide +kernel
theorem dX7_joined_6 : decode cX7_joined 6 = .ok (.iload 5, 2) := by decide +kernel
theorem dX7_joined_8 : decode cX7_joined 8 = .ok (.bipush 24, 2) := by decide +kernel
theorem dX7_joined_10 : decode cX7_joined 10 = .ok (.if_icmp .ge 36, 3) := by decide +kernel
theorem dX7_joined_13 : decode cX7_joined 13 = .ok (.iload 4, 2) := by decide +kernel
theorem dX7_joined_15 : decode cX7_joined 15 = .ok (.aload_n 0, 1) := by decide +kernel
theorem dX7_joined_16 : decode cX7_joined 16 = .ok (.getfield 15, 3) := by decide +kernel
theorem dX7_joined_19 : decode cX7_joined 19 = .ok (.iload_n 2, 1) := by decide +kernel
theorem dX7_joined_20 : decode cX7_joined 20 = .ok (.iload 5, 2) := by decide +kernel
theorem dX7_joined_22 : decode cX7_joined 22 = .ok (.iconst (-1), 1) := by decide +kernel
theorem dX7_joined_23 : decode cX7_joined 23 = .ok (.aload_n 0, 1) := by decide +kernel
theorem dX7_joined_24 : decode cX7_joined 24 = .ok (.getfield 15, 3) := by decide +kernel
theorem dX7_joined_27 : decode cX7_joined 27 = .ok (.iload_n 1, 1) := by decide +kernel
theorem dX7_joined_28 : decode cX7_joined 28 = .ok (.iload 5, 2) := by decide +kernel
theorem dX7_joined_30 : decode cX7_joined 30 = .ok (.invokevirtual 39, 3) := by decide +kernel
theorem dX7_joined_33 : decode cX7_joined 33 = .ok (.iload_n 3, 1) := by decide +kernel
theorem dX7_joined_34 : decode cX7_joined 34 = .ok (.invokevirtual 43, 3) := by decide +kernel
theorem dX7_joined_37 : decode cX7_joined 37 = .ok (.iadd, 1) := by decide +kernel
theorem dX7_joined_38 : decode cX7_joined 38 = .ok (.istore 4, 2) := by decide +kernel
theorem dX7_joined_40 : decode cX7_joined 40 = .ok (.iinc 5 1, 3) := by decide +kernel
theorem dX7_joined_43 : decode cX7_joined 43 = .ok (.goto (-37), 3) := by decide +kernel
theorem dX7_joined_46 : decode cX7_joined 46 = .ok (.iload 4, 2) := by decide +kernel
theorem dX7_joined_48 : decode cX7_joined 48 = .ok (.ireturn, 1) := by decide +kernel
theorem dX7_changed_0 : decode cX7_changed 0 = .ok (.iconst 0, 1) := by decide +kernel
theorem dX7_changed_1 : decode cX7_changed 1 = .ok (.istore_n 3, 1) := by decide +kernel
theorem dX7_changed_2 : decode cX7_changed 2 = .ok (.iload_n 3, 1) := by decide +kernel
theorem dX7_changed_3 : decode cX7_changed 3 = .ok (.bipush 24, 2) := by decide +kernel
theorem dX7_changed_5 : decode cX7_changed 5 = .ok (.if_icmp .ge 22, 3) := by decide +kernel
theorem dX7_changed_8 : decode cX7_changed 8 = .ok (.aload_n 0, 1) := by decide +kernel
theorem dX7_changed_9 : decode cX7_changed 9 = .ok (.getfield 9, 3) := by decide +kernel
theorem dX7_changed_12 : decode cX7_changed 12 = .ok (.iload_n 3, 1) := by decide +kernel
theorem dX7_changed_13 : decode cX7_changed 13 = .ok (.aload_n 0, 1) := by decide +kernel
theorem dX7_changed_14 : decode cX7_changed 14 = .ok (.iload_n 1, 1) := by decide +kernel
theorem dX7_changed_15 : decode cX7_changed 15 = .ok (.iload_n 3, 1) := by decide +kernel
theorem dX7_changed_16 : decode cX7_changed 16 = .ok (.iload_n 2, 1) := by decide +kernel
theorem dX7_changed_17 : decode cX7_changed 17 = .ok (.invokevirtual 47, 3) := by decide +kernel
theorem dX7_changed_20 : decode cX7_changed 20 = .ok (.iastore, 1) := by decide +kernel
theorem dX7_changed_21 : decode cX7_changed 21 = .ok (.iinc 3 1, 3) := by decide +kernel
theorem dX7_changed_24 : decode cX7_changed 24 = .ok (.goto (-22), 3) := by decide +kernel
theorem dX7_changed_27 : decode cX7_changed 27 = .ok (.aload_n 0, 1) := by decide +kernel
theorem dX7_changed_28 : decode cX7_changed 28 = .ok (.iload_n 1, 1) := by decide +kernel
theorem dX7_changed_29 : decode cX7_changed 29 = .ok (.invokevirtual 51, 3) := by decide +kernel
theorem dX7_changed_32 : decode cX7_changed 32 = .ok (.ireturn, 1) := by decide +kernel
theorem dX7_rolled_0 : decode cX7_rolled 0 = .ok (.iconst 0, 1) := by decide +kernel
theorem dX7_rolled_1 : decode cX7_rolled 1 = .ok (.istore 4, 2) := by decide +kernel
theorem dX7_rolled_3 : decode cX7_rolled 3 = .ok (.iload 4, 2) := by decide +kernel
theorem dX7_rolled_5 : decode cX7_rolled 5 = .ok (.bipush 24, 2) := by decide +kernel
theorem dX7_rolled_7 : decode cX7_rolled 7 = .ok (.if_icmp .ge 61, 3) := by decide +kernel
theorem dX7_rolled_10 : decode cX7_rolled 10 = .ok (.aload_n 0, 1) := by decide +kernel
theorem dX7_rolled_11 : decode cX7_rolled 11 = .ok (.getfield 15, 3) := by decide +kernel
theorem dX7_rolled_14 : decode cX7_rolled 14 = .ok (.iload_n 1, 1) := by decide +kernel
theorem dX7_rolled_15 : decode cX7_rolled 15 = .ok (.iload 4, 2) := by decide +kernel
theorem dX7_rolled_17 : decode cX7_rolled 17 = .ok (.iload_n 3, 1) := by decide +kernel
theorem dX7_rolled_18 : decode cX7_rolled 18 = .ok (.isub, 1) := by decide +kernel
theorem dX7_rolled_19 : decode cX7_rolled 19 = .ok (.bipush 24, 2) := by decide +kernel
theorem dX7_rolled_21 : decode cX7_rolled 21 = .ok (.invokestatic 55, 3) := by decide +kernel
theorem dX7_rolled_24 : decode cX7_rolled 24 = .ok (.invokevirtual 39, 3) := by decide +kernel
theorem dX7_rolled_27 : decode cX7_rolled 27 = .ok (.istore 5, 2) := by decide +kernel
theorem dX7_rolled_29 : decode cX7_rolled 29 = .ok (.iload_n 2, 1) := by decide +kernel
theorem dX7_rolled_30 : decode cX7_rolled 30 = .ok (.bipush 32, 2) := by decide +kernel
theorem dX7_rolled_32 : decode cX7_rolled 32 = .ok (.invokestatic 55, 3) := by decide +kernel
theorem dX7_rolled_35 : decode cX7_rolled 35 = .ok (.istore 6, 2) := by decide +kernel
theorem dX7_rolled_37 : decode cX7_rolled 37 = .ok (.aload_n 0, 1) := by decide +kernel
theorem dX7_rolled_38 : decode cX7_rolled 38 = .ok (.getfield 9, 3) := by decide +kernel
theorem dX7_rolled_41 : decode cX7_rolled 41 = .ok (.iload 4, 2) := by decide +kernel
theorem dX7_rolled_43 : decode cX7_rolled 43 = .ok (.iload 5, 2) := by decide +kernel
theorem dX7_rolled_45 : decode cX7_rolled 45 = .ok (.iload 6, 2) := by decide +kernel
theorem dX7_rolled_47 : decode cX7_rolled 47 = .ok (.invokestatic 60, 3) := by decide +kernel
theorem dX7_rolled_50 : decode cX7_rolled 50 = .ok (.iload 5, 2) := by decide +kernel
theorem dX7_rolled_52 : decode cX7_rolled 52 = .ok (.iload 6, 2) := by decide +kernel
theorem dX7_rolled_54 : decode cX7_rolled 54 = .ok (.bipush 32, 2) := by decide +kernel
theorem dX7_rolled_56 : decode cX7_rolled 56 = .ok (.isub, 1) := by decide +kernel
theorem dX7_rolled_57 : decode cX7_rolled 57 = .ok (.invokestatic 60, 3) := by decide +kernel
theorem dX7_rolled_60 : decode cX7_rolled 60 = .ok (.ior, 1) := by decide +kernel
theorem dX7_rolled_61 : decode cX7_rolled 61 = .ok (.iastore, 1) := by decide +kernel
theorem dX7_rolled_62 : decode cX7_rolled 62 = .ok (.iinc 4 1, 3) := by decide +kernel
theorem dX7_rolled_65 : decode cX7_rolled 65 = .ok (.goto (-62), 3) := by decide +kernel
theorem dX7_rolled_68 : decode cX7_rolled 68 = .ok (.aload_n 0, 1) := by decide +kernel
theorem dX7_rolled_69 : decode cX7_rolled 69 = .ok (.iload_n 1, 1) := by decide +kernel
theorem dX7_rolled_70 : decode cX7_rolled 70 = .ok (.invokevirtual 51, 3) := by decide +kernel
theorem dX7_rolled_73 : decode cX7_rolled 73 = .ok (.ireturn, 1) := by decide +kernel
theorem dX7_changedRow_0 : decode cX7_changedRow 0 = .ok (.iload_n 3, 1) := by decide +kernel
theorem dX7_changedRow_1 : decode cX7_changedRow 1 = .ok (.tableswitch 71 0 3 #[31, 44, 57, 64], 31) := by decide +kernel
theorem dX7_changedRow_32 : decode cX7_changedRow 32 = .ok (.aload_n 0, 1) := by decide +kernel
theorem dX7_changedRow_33 : decode cX7_changedRow 33 = .ok (.getfield 15, 3) := by decide +kernel
theorem dX7_changedRow_36 : decode cX7_changedRow 36 = .ok (.iload_n 1, 1) := by decide +kernel
theorem dX7_changedRow_37 : decode cX7_changedRow 37 = .ok (.iload_n 2, 1) := by decide +kernel
theorem dX7_changedRow_38 : decode cX7_changedRow 38 = .ok (.invokevirtual 39, 3) := by decide +kernel
theorem dX7_changedRow_41 : decode cX7_changedRow 41 = .ok (.invokestatic 63, 3) := by decide +kernel
theorem dX7_changedRow_44 : decode cX7_changedRow 44 = .ok (.ireturn, 1) := by decide +kernel
theorem dX7_changedRow_45 : decode cX7_changedRow 45 = .ok (.aload_n 0, 1) := by decide +kernel
theorem dX7_changedRow_46 : decode cX7_changedRow 46 = .ok (.getfield 15, 3) := by decide +kernel
theorem dX7_changedRow_49 : decode cX7_changedRow 49 = .ok (.iload_n 1, 1) := by decide +kernel
theorem dX7_changedRow_50 : decode cX7_changedRow 50 = .ok (.bipush 23, 2) := by decide +kernel
theorem dX7_changedRow_52 : decode cX7_changedRow 52 = .ok (.iload_n 2, 1) := by decide +kernel
theorem dX7_changedRow_53 : decode cX7_changedRow 53 = .ok (.isub, 1) := by decide +kernel
theorem dX7_changedRow_54 : decode cX7_changedRow 54 = .ok (.invokevirtual 39, 3) := by decide +kernel
theorem dX7_changedRow_57 : decode cX7_changedRow 57 = .ok (.ireturn, 1) := by decide +kernel
theorem dX7_changedRow_58 : decode cX7_changedRow 58 = .ok (.aload_n 0, 1) := by decide +kernel
theorem dX7_changedRow_59 : decode cX7_changedRow 59 = .ok (.iload_n 1, 1) := by decide +kernel
theorem dX7_changedRow_60 : decode cX7_changedRow 60 = .ok (.iload_n 2, 1) := by decide +kernel
theorem dX7_changedRow_61 : decode cX7_changedRow 61 = .ok (.invokevirtual 66, 3) := by decide +kernel
theorem dX7_changedRow_64 : decode cX7_changedRow 64 = .ok (.ireturn, 1) := by decide +kernel
theorem dX7_changedRow_65 : decode cX7_changedRow 65 = .ok (.aload_n 0, 1) := by decide +kernel
theorem dX7_changedRow_66 : decode cX7_changedRow 66 = .ok (.iload_n 1, 1) := by decide +kernel
theorem dX7_changedRow_67 : decode cX7_changedRow 67 = .ok (.iload_n 2, 1) := by decide +kernel
theorem dX7_changedRow_68 : decode cX7_changedRow 68 = .ok (.invokevirtual 69, 3) := by decide +kernel
theorem dX7_changedRow_71 : decode cX7_changedRow 71 = .ok (.ireturn, 1) := by decide +kernel
theorem dX7_changedRow_72 : decode cX7_changedRow 72 = .ok (.aload_n 0, 1) := by decide +kernel
theorem dX7_changedRow_73 : decode cX7_changedRow 73 = .ok (.getfield 15, 3) := by decide +kernel
theorem dX7_changedRow_76 : decode cX7_changedRow 76 = .ok (.iload_n 1, 1) := by decide +kernel
theorem dX7_changedRow_77 : decode cX7_changedRow 77 = .ok (.iload_n 2, 1) := by decide +kernel
theorem dX7_changedRow_78 : decode cX7_changedRow 78 = .ok (.invokevirtual 39, 3) := by decide +kernel
theorem dX7_changedRow_81 : decode cX7_changedRow 81 = .ok (.aload_n 0, 1) := by decide +kernel
theorem dX7_changedRow_82 : decode cX7_changedRow 82 = .ok (.iload_n 1, 1) := by decide +kernel
theorem dX7_changedRow_83 : decode cX7_changedRow 83 = .ok (.iload_n 2, 1) := by decide +kernel
theorem dX7_changedRow_84 : decode cX7_changedRow 84 = .ok (.invokevirtual 69, 3) := by decide +kernel
theorem dX7_changedRow_87 : decode cX7_changedRow 87 = .ok (.iconst (-1), 1) := by decide +kernel
theorem dX7_changedRow_88 : decode cX7_changedRow 88 = .ok (.ixor, 1) := by decide +kernel
theorem dX7_changedRow_89 : decode cX7_changedRow 89 = .ok (.iand, 1) := by decide +kernel
theorem dX7_changedRow_90 : decode cX7_changedRow 90 = .ok (.ireturn, 1) := by decide +kernel
theorem dX7_grownRow_0 : decode cX7_grownRow 0 = .ok (.aload_n 0, 1) := by decide +kernel
theorem dX7_grownRow_1 : decode cX7_grownRow 1 = .ok (.getfield 15, 3) := by decide +kernel
theorem dX7_grownRow_4 : decode cX7_grownRow 4 = .ok (.iload_n 1, 1) := by decide +kernel
theorem dX7_grownRow_5 : decode cX7_grownRow 5 = .ok (.iload_n 2, 1) := by decide +kernel
theorem dX7_grownRow_6 : decode cX7_grownRow 6 = .ok (.invokevirtual 39, 3) := by decide +kernel
theorem dX7_grownRow_9 : decode cX7_grownRow 9 = .ok (.istore_n 3, 1) := by decide +kernel
theorem dX7_grownRow_10 : decode cX7_grownRow 10 = .ok (.iload_n 3, 1) := by decide +kernel
theorem dX7_grownRow_11 : decode cX7_grownRow 11 = .ok (.iload_n 3, 1) := by decide +kernel
theorem dX7_grownRow_12 : decode cX7_grownRow 12 = .ok (.iconst 1, 1) := by decide +kernel
theorem dX7_grownRow_13 : decode cX7_grownRow 13 = .ok (.ishl, 1) := by decide +kernel
theorem dX7_grownRow_14 : decode cX7_grownRow 14 = .ok (.ior, 1) := by decide +kernel
theorem dX7_grownRow_15 : decode cX7_grownRow 15 = .ok (.iload_n 3, 1) := by decide +kernel
theorem dX7_grownRow_16 : decode cX7_grownRow 16 = .ok (.iconst 1, 1) := by decide +kernel
theorem dX7_grownRow_17 : decode cX7_grownRow 17 = .ok (.iushr, 1) := by decide +kernel
theorem dX7_grownRow_18 : decode cX7_grownRow 18 = .ok (.ior, 1) := by decide +kernel
theorem dX7_grownRow_19 : decode cX7_grownRow 19 = .ok (.aload_n 0, 1) := by decide +kernel
theorem dX7_grownRow_20 : decode cX7_grownRow 20 = .ok (.getfield 15, 3) := by decide +kernel
theorem dX7_grownRow_23 : decode cX7_grownRow 23 = .ok (.iload_n 1, 1) := by decide +kernel
theorem dX7_grownRow_24 : decode cX7_grownRow 24 = .ok (.iload_n 2, 1) := by decide +kernel
theorem dX7_grownRow_25 : decode cX7_grownRow 25 = .ok (.iconst 1, 1) := by decide +kernel
theorem dX7_grownRow_26 : decode cX7_grownRow 26 = .ok (.isub, 1) := by decide +kernel
theorem dX7_grownRow_27 : decode cX7_grownRow 27 = .ok (.invokevirtual 39, 3) := by decide +kernel
theorem dX7_grownRow_30 : decode cX7_grownRow 30 = .ok (.ior, 1) := by decide +kernel
theorem dX7_grownRow_31 : decode cX7_grownRow 31 = .ok (.aload_n 0, 1) := by decide +kernel
theorem dX7_grownRow_32 : decode cX7_grownRow 32 = .ok (.getfield 15, 3) := by decide +kernel
theorem dX7_grownRow_35 : decode cX7_grownRow 35 = .ok (.iload_n 1, 1) := by decide +kernel
theorem dX7_grownRow_36 : decode cX7_grownRow 36 = .ok (.iload_n 2, 1) := by decide +kernel
theorem dX7_grownRow_37 : decode cX7_grownRow 37 = .ok (.iconst 1, 1) := by decide +kernel
theorem dX7_grownRow_38 : decode cX7_grownRow 38 = .ok (.iadd, 1) := by decide +kernel
theorem dX7_grownRow_39 : decode cX7_grownRow 39 = .ok (.invokevirtual 39, 3) := by decide +kernel
theorem dX7_grownRow_42 : decode cX7_grownRow 42 = .ok (.ior, 1) := by decide +kernel
theorem dX7_grownRow_43 : decode cX7_grownRow 43 = .ok (.ireturn, 1) := by decide +kernel
theorem dX7_thinnedRow_0 : decode cX7_thinnedRow 0 = .ok (.aload_n 0, 1) := by decide +kernel
theorem dX7_thinnedRow_1 : decode cX7_thinnedRow 1 = .ok (.getfield 15, 3) := by decide +kernel
theorem dX7_thinnedRow_4 : decode cX7_thinnedRow 4 = .ok (.iload_n 1, 1) := by decide +kernel
theorem dX7_thinnedRow_5 : decode cX7_thinnedRow 5 = .ok (.iload_n 2, 1) := by decide +kernel
theorem dX7_thinnedRow_6 : decode cX7_thinnedRow 6 = .ok (.invokevirtual 39, 3) := by decide +kernel
theorem dX7_thinnedRow_9 : decode cX7_thinnedRow 9 = .ok (.istore_n 3, 1) := by decide +kernel
theorem dX7_thinnedRow_10 : decode cX7_thinnedRow 10 = .ok (.iload_n 3, 1) := by decide +kernel
theorem dX7_thinnedRow_11 : decode cX7_thinnedRow 11 = .ok (.iload_n 3, 1) := by decide +kernel
theorem dX7_thinnedRow_12 : decode cX7_thinnedRow 12 = .ok (.iconst 1, 1) := by decide +kernel
theorem dX7_thinnedRow_13 : decode cX7_thinnedRow 13 = .ok (.ishl, 1) := by decide +kernel
theorem dX7_thinnedRow_14 : decode cX7_thinnedRow 14 = .ok (.iand, 1) := by decide +kernel
theorem dX7_thinnedRow_15 : decode cX7_thinnedRow 15 = .ok (.iload_n 3, 1) := by decide +kernel
theorem dX7_thinnedRow_16 : decode cX7_thinnedRow 16 = .ok (.iconst 1, 1) := by decide +kernel
theorem dX7_thinnedRow_17 : decode cX7_thinnedRow 17 = .ok (.iushr, 1) := by decide +kernel
theorem dX7_thinnedRow_18 : decode cX7_thinnedRow 18 = .ok (.iand, 1) := by decide +kernel
theorem dX7_thinnedRow_19 : decode cX7_thinnedRow 19 = .ok (.aload_n 0, 1) := by decide +kernel
theorem dX7_thinnedRow_20 : decode cX7_thinnedRow 20 = .ok (.getfield 15, 3) := by decide +kernel
theorem dX7_thinnedRow_23 : decode cX7_thinnedRow 23 = .ok (.iload_n 1, 1) := by decide +kernel
theorem dX7_thinnedRow_24 : decode cX7_thinnedRow 24 = .ok (.iload_n 2, 1) := by decide +kernel
theorem dX7_thinnedRow_25 : decode cX7_thinnedRow 25 = .ok (.iconst 1, 1) := by decide +kernel
theorem dX7_thinnedRow_26 : decode cX7_thinnedRow 26 = .ok (.isub, 1) := by decide +kernel
theorem dX7_thinnedRow_27 : decode cX7_thinnedRow 27 = .ok (.invokevirtual 39, 3) := by decide +kernel
theorem dX7_thinnedRow_30 : decode cX7_thinnedRow 30 = .ok (.iand, 1) := by decide +kernel
theorem dX7_thinnedRow_31 : decode cX7_thinnedRow 31 = .ok (.aload_n 0, 1) := by decide +kernel
theorem dX7_thinnedRow_32 : decode cX7_thinnedRow 32 = .ok (.getfield 15, 3) := by decide +kernel
theorem dX7_thinnedRow_35 : decode cX7_thinnedRow 35 = .ok (.iload_n 1, 1) := by decide +kernel
theorem dX7_thinnedRow_36 : decode cX7_thinnedRow 36 = .ok (.iload_n 2, 1) := by decide +kernel
theorem dX7_thinnedRow_37 : decode cX7_thinnedRow 37 = .ok (.iconst 1, 1) := by decide +kernel
theorem dX7_thinnedRow_38 : decode cX7_thinnedRow 38 = .ok (.iadd, 1) := by decide +kernel
theorem dX7_thinnedRow_39 : decode cX7_thinnedRow 39 = .ok (.invokevirtual 39, 3) := by decide +kernel
theorem dX7_thinnedRow_42 : decode cX7_thinnedRow 42 = .ok (.iand, 1) := by decide +kernel
theorem dX7_thinnedRow_43 : decode cX7_thinnedRow 43 = .ok (.ireturn, 1) := by decide +kernel
theorem dX7_mirroredRow_0 : decode cX7_mirroredRow 0 = .ok (.iconst 0, 1) := by decide +kernel
theorem dX7_mirroredRow_1 : decode cX7_mirroredRow 1 = .ok (.istore_n 1, 1) := by decide +kernel
theorem dX7_mirroredRow_2 : decode cX7_mirroredRow 2 = .ok (.iconst 0, 1) := by decide +kernel
theorem dX7_mirroredRow_3 : decode cX7_mirroredRow 3 = .ok (.istore_n 2, 1) := by decide +kernel
theorem dX7_mirroredRow_4 : decode cX7_mirroredRow 4 = .ok (.iload_n 2, 1) := by decide +kernel
theorem dX7_mirroredRow_5 : decode cX7_mirroredRow 5 = .ok (.bipush 32, 2) := by decide +kernel
theorem dX7_mirroredRow_7 : decode cX7_mirroredRow 7 = .ok (.if_icmp .ge 22, 3) := by decide +kernel
theorem dX7_mirroredRow_10 : decode cX7_mirroredRow 10 = .ok (.iload_n 1, 1) := by decide +kernel
theorem dX7_mirroredRow_11 : decode cX7_mirroredRow 11 = .ok (.iload_n 0, 1) := by decide +kernel
theorem dX7_mirroredRow_12 : decode cX7_mirroredRow 12 = .ok (.iload_n 2, 1) := by decide +kernel
theorem dX7_mirroredRow_13 : decode cX7_mirroredRow 13 = .ok (.iushr, 1) := by decide +kernel
theorem dX7_mirroredRow_14 : decode cX7_mirroredRow 14 = .ok (.iconst 1, 1) := by decide +kernel
theorem dX7_mirroredRow_15 : decode cX7_mirroredRow 15 = .ok (.iand, 1) := by decide +kernel
theorem dX7_mirroredRow_16 : decode cX7_mirroredRow 16 = .ok (.bipush 31, 2) := by decide +kernel
theorem dX7_mirroredRow_18 : decode cX7_mirroredRow 18 = .ok (.iload_n 2, 1) := by decide +kernel
theorem dX7_mirroredRow_19 : decode cX7_mirroredRow 19 = .ok (.isub, 1) := by decide +kernel
theorem dX7_mirroredRow_20 : decode cX7_mirroredRow 20 = .ok (.ishl, 1) := by decide +kernel
theorem dX7_mirroredRow_21 : decode cX7_mirroredRow 21 = .ok (.ior, 1) := by decide +kernel
theorem dX7_mirroredRow_22 : decode cX7_mirroredRow 22 = .ok (.istore_n 1, 1) := by decide +kernel
theorem dX7_mirroredRow_23 : decode cX7_mirroredRow 23 = .ok (.iinc 2 1, 3) := by decide +kernel
theorem dX7_mirroredRow_26 : decode cX7_mirroredRow 26 = .ok (.goto (-22), 3) := by decide +kernel
theorem dX7_mirroredRow_29 : decode cX7_mirroredRow 29 = .ok (.iload_n 1, 1) := by decide +kernel
theorem dX7_mirroredRow_30 : decode cX7_mirroredRow 30 = .ok (.ireturn, 1) := by decide +kernel
theorem dX7_becomesWhatComes_0 : decode cX7_becomesWhatComes 0 = .ok (.iconst 0, 1) := by decide +kernel
theorem dX7_becomesWhatComes_1 : decode cX7_becomesWhatComes 1 = .ok (.istore_n 2, 1) := by decide +kernel
theorem dX7_becomesWhatComes_2 : decode cX7_becomesWhatComes 2 = .ok (.iconst 0, 1) := by decide +kernel
theorem dX7_becomesWhatComes_3 : decode cX7_becomesWhatComes 3 = .ok (.istore_n 3, 1) := by decide +kernel
theorem dX7_becomesWhatComes_4 : decode cX7_becomesWhatComes 4 = .ok (.iload_n 3, 1) := by decide +kernel
theorem dX7_becomesWhatComes_5 : decode cX7_becomesWhatComes 5 = .ok (.bipush 24, 2) := by decide +kernel
theorem dX7_becomesWhatComes_7 : decode cX7_becomesWhatComes 7 = .ok (.if_icmp .ge 37, 3) := by decide +kernel
theorem dX7_becomesWhatComes_10 : decode cX7_becomesWhatComes 10 = .ok (.iload_n 2, 1) := by decide +kernel
theorem dX7_becomesWhatComes_11 : decode cX7_becomesWhatComes 11 = .ok (.aload_n 0, 1) := by decide +kernel
theorem dX7_becomesWhatComes_12 : decode cX7_becomesWhatComes 12 = .ok (.getfield 15, 3) := by decide +kernel
theorem dX7_becomesWhatComes_15 : decode cX7_becomesWhatComes 15 = .ok (.iload_n 1, 1) := by decide +kernel
theorem dX7_becomesWhatComes_16 : decode cX7_becomesWhatComes 16 = .ok (.iload_n 3, 1) := by decide +kernel
theorem dX7_becomesWhatComes_17 : decode cX7_becomesWhatComes 17 = .ok (.aload_n 0, 1) := by decide +kernel
theorem dX7_becomesWhatComes_18 : decode cX7_becomesWhatComes 18 = .ok (.getfield 15, 3) := by decide +kernel
theorem dX7_becomesWhatComes_21 : decode cX7_becomesWhatComes 21 = .ok (.iload_n 1, 1) := by decide +kernel
theorem dX7_becomesWhatComes_22 : decode cX7_becomesWhatComes 22 = .ok (.iload_n 3, 1) := by decide +kernel
theorem dX7_becomesWhatComes_23 : decode cX7_becomesWhatComes 23 = .ok (.invokevirtual 39, 3) := by decide +kernel
theorem dX7_becomesWhatComes_26 : decode cX7_becomesWhatComes 26 = .ok (.aload_n 0, 1) := by decide +kernel
theorem dX7_becomesWhatComes_27 : decode cX7_becomesWhatComes 27 = .ok (.getfield 9, 3) := by decide +kernel
theorem dX7_becomesWhatComes_30 : decode cX7_becomesWhatComes 30 = .ok (.iload_n 3, 1) := by decide +kernel
theorem dX7_becomesWhatComes_31 : decode cX7_becomesWhatComes 31 = .ok (.iaload, 1) := by decide +kernel
theorem dX7_becomesWhatComes_32 : decode cX7_becomesWhatComes 32 = .ok (.ixor, 1) := by decide +kernel
theorem dX7_becomesWhatComes_33 : decode cX7_becomesWhatComes 33 = .ok (.invokevirtual 72, 3) := by decide +kernel
theorem dX7_becomesWhatComes_36 : decode cX7_becomesWhatComes 36 = .ok (.iadd, 1) := by decide +kernel
theorem dX7_becomesWhatComes_37 : decode cX7_becomesWhatComes 37 = .ok (.istore_n 2, 1) := by decide +kernel
theorem dX7_becomesWhatComes_38 : decode cX7_becomesWhatComes 38 = .ok (.iinc 3 1, 3) := by decide +kernel
theorem dX7_becomesWhatComes_41 : decode cX7_becomesWhatComes 41 = .ok (.goto (-37), 3) := by decide +kernel
theorem dX7_becomesWhatComes_44 : decode cX7_becomesWhatComes 44 = .ok (.iload_n 2, 1) := by decide +kernel
theorem dX7_becomesWhatComes_45 : decode cX7_becomesWhatComes 45 = .ok (.ireturn, 1) := by decide +kernel
theorem dX8_init_0 : decode cX8_init 0 = .ok (.aload_n 0, 1) := by decide +kernel
theorem dX8_init_1 : decode cX8_init 1 = .ok (.invokespecial 1, 3) := by decide +kernel
theorem dX8_init_4 : decode cX8_init 4 = .ok (.new 7, 3) := by decide +kernel
theorem dX8_init_7 : decode cX8_init 7 = .ok (.dup, 1) := by decide +kernel
theorem dX8_init_8 : decode cX8_init 8 = .ok (.invokespecial 9, 3) := by decide +kernel
theorem dX8_init_11 : decode cX8_init 11 = .ok (.astore_n 1, 1) := by decide +kernel
theorem dX8_init_12 : decode cX8_init 12 = .ok (.new 10, 3) := by decide +kernel
theorem dX8_init_15 : decode cX8_init 15 = .ok (.dup, 1) := by decide +kernel
theorem dX8_init_16 : decode cX8_init 16 = .ok (.invokespecial 12, 3) := by decide +kernel
theorem dX8_init_19 : decode cX8_init 19 = .ok (.astore_n 2, 1) := by decide +kernel
theorem dX8_init_20 : decode cX8_init 20 = .ok (.aload_n 0, 1) := by decide +kernel
theorem dX8_init_21 : decode cX8_init 21 = .ok (.aload_n 1, 1) := by decide +kernel
theorem dX8_init_22 : decode cX8_init 22 = .ok (.putfield 13, 3) := by decide +kernel
theorem dX8_init_25 : decode cX8_init 25 = .ok (.aload_n 0, 1) := by decide +kernel
theorem dX8_init_26 : decode cX8_init 26 = .ok (.new 19, 3) := by decide +kernel
theorem dX8_init_29 : decode cX8_init 29 = .ok (.dup, 1) := by decide +kernel
theorem dX8_init_30 : decode cX8_init 30 = .ok (.invokespecial 21, 3) := by decide +kernel
theorem dX8_init_33 : decode cX8_init 33 = .ok (.putfield 22, 3) := by decide +kernel
theorem dX8_init_36 : decode cX8_init 36 = .ok (.aload_n 0, 1) := by decide +kernel
theorem dX8_init_37 : decode cX8_init 37 = .ok (.new 26, 3) := by decide +kernel
theorem dX8_init_40 : decode cX8_init 40 = .ok (.dup, 1) := by decide +kernel
theorem dX8_init_41 : decode cX8_init 41 = .ok (.aload_n 1, 1) := by decide +kernel
theorem dX8_init_42 : decode cX8_init 42 = .ok (.aload_n 2, 1) := by decide +kernel
theorem dX8_init_43 : decode cX8_init 43 = .ok (.invokespecial 28, 3) := by decide +kernel
theorem dX8_init_46 : decode cX8_init 46 = .ok (.putfield 31, 3) := by decide +kernel
theorem dX8_init_49 : decode cX8_init 49 = .ok (.aload_n 0, 1) := by decide +kernel
theorem dX8_init_50 : decode cX8_init 50 = .ok (.new 35, 3) := by decide +kernel
theorem dX8_init_53 : decode cX8_init 53 = .ok (.dup, 1) := by decide +kernel
theorem dX8_init_54 : decode cX8_init 54 = .ok (.aload_n 1, 1) := by decide +kernel
theorem dX8_init_55 : decode cX8_init 55 = .ok (.invokespecial 37, 3) := by decide +kernel
theorem dX8_init_58 : decode cX8_init 58 = .ok (.putfield 40, 3) := by decide +kernel
theorem dX8_init_61 : decode cX8_init 61 = .ok (.aload_n 0, 1) := by decide +kernel
theorem dX8_init_62 : decode cX8_init 62 = .ok (.new 44, 3) := by decide +kernel
theorem dX8_init_65 : decode cX8_init 65 = .ok (.dup, 1) := by decide +kernel
theorem dX8_init_66 : decode cX8_init 66 = .ok (.aload_n 1, 1) := by decide +kernel
theorem dX8_init_67 : decode cX8_init 67 = .ok (.aload_n 2, 1) := by decide +kernel
theorem dX8_init_68 : decode cX8_init 68 = .ok (.invokespecial 46, 3) := by decide +kernel
theorem dX8_init_71 : decode cX8_init 71 = .ok (.putfield 47, 3) := by decide +kernel
theorem dX8_init_74 : decode cX8_init 74 = .ok (.aload_n 0, 1) := by decide +kernel
theorem dX8_init_75 : decode cX8_init 75 = .ok (.new 51, 3) := by decide +kernel
theorem dX8_init_78 : decode cX8_init 78 = .ok (.dup, 1) := by decide +kernel
theorem dX8_init_79 : decode cX8_init 79 = .ok (.invokespecial 53, 3) := by decide +kernel
theorem dX8_init_82 : decode cX8_init 82 = .ok (.putfield 54, 3) := by decide +kernel
theorem dX8_init_85 : decode cX8_init 85 = .ok (.aload_n 0, 1) := by decide +kernel
theorem dX8_init_86 : decode cX8_init 86 = .ok (.new 58, 3) := by decide +kernel
theorem dX8_init_89 : decode cX8_init 89 = .ok (.dup, 1) := by decide +kernel
theorem dX8_init_90 : decode cX8_init 90 = .ok (.invokespecial 60, 3) := by decide +kernel
theorem dX8_init_93 : decode cX8_init 93 = .ok (.putfield 61, 3) := by decide +kernel
theorem dX8_init_96 : decode cX8_init 96 = .ok (.return_, 1) := by decide +kernel
theorem dX8_dot_0 : decode cX8_dot 0 = .ok (.iload_n 1, 1) := by decide +kernel
theorem dX8_dot_1 : decode cX8_dot 1 = .ok (.invokestatic 65, 3) := by decide +kernel
theorem dX8_dot_4 : decode cX8_dot 4 = .ok (.ifCond .eq 21, 3) := by decide +kernel
theorem dX8_dot_7 : decode cX8_dot 7 = .ok (.iload_n 2, 1) := by decide +kernel
theorem dX8_dot_8 : decode cX8_dot 8 = .ok (.iload_n 3, 1) := by decide +kernel
theorem dX8_dot_9 : decode cX8_dot 9 = .ok (.invokestatic 69, 3) := by decide +kernel
theorem dX8_dot_12 : decode cX8_dot 12 = .ok (.ifCond .eq 13, 3) := by decide +kernel
theorem dX8_dot_15 : decode cX8_dot 15 = .ok (.iload 4, 2) := by decide +kernel
theorem dX8_dot_17 : decode cX8_dot 17 = .ok (.iconst 0, 1) := by decide +kernel
theorem dX8_dot_18 : decode cX8_dot 18 = .ok (.iconst 1, 1) := by decide +kernel
theorem dX8_dot_19 : decode cX8_dot 19 = .ok (.invokestatic 73, 3) := by decide +kernel
theorem dX8_dot_22 : decode cX8_dot 22 = .ok (.ifCond .ne 8, 3) := by decide +kernel
theorem dX8_dot_25 : decode cX8_dot 25 = .ok (.aload_n 0, 1) := by decide +kernel
theorem dX8_dot_26 : decode cX8_dot 26 = .ok (.invokevirtual 77, 3) := by decide +kernel
theorem dX8_dot_29 : decode cX8_dot 29 = .ok (.ireturn, 1) := by decide +kernel
theorem dX8_dot_30 : decode cX8_dot 30 = .ok (.aload_n 0, 1) := by decide +kernel
theorem dX8_dot_31 : decode cX8_dot 31 = .ok (.getfield 22, 3) := by decide +kernel
theorem dX8_dot_34 : decode cX8_dot 34 = .ok (.aload_n 0, 1) := by decide +kernel
theorem dX8_dot_35 : decode cX8_dot 35 = .ok (.getfield 13, 3) := by decide +kernel
theorem dX8_dot_38 : decode cX8_dot 38 = .ok (.invokevirtual 81, 3) := by decide +kernel
theorem dX8_dot_41 : decode cX8_dot 41 = .ok (.aload_n 0, 1) := by decide +kernel
theorem dX8_dot_42 : decode cX8_dot 42 = .ok (.getfield 13, 3) := by decide +kernel
theorem dX8_dot_45 : decode cX8_dot 45 = .ok (.iload_n 1, 1) := by decide +kernel
theorem dX8_dot_46 : decode cX8_dot 46 = .ok (.iload_n 2, 1) := by decide +kernel
theorem dX8_dot_47 : decode cX8_dot 47 = .ok (.iload_n 3, 1) := by decide +kernel
theorem dX8_dot_48 : decode cX8_dot 48 = .ok (.invokevirtual 84, 3) := by decide +kernel
theorem dX8_dot_51 : decode cX8_dot 51 = .ok (.istore 5, 2) := by decide +kernel
theorem dX8_dot_53 : decode cX8_dot 53 = .ok (.iload 5, 2) := by decide +kernel
theorem dX8_dot_55 : decode cX8_dot 55 = .ok (.iload 4, 2) := by decide +kernel
theorem dX8_dot_57 : decode cX8_dot 57 = .ok (.if_icmp .eq 26, 3) := by decide +kernel
theorem dX8_dot_60 : decode cX8_dot 60 = .ok (.aload_n 0, 1) := by decide +kernel
theorem dX8_dot_61 : decode cX8_dot 61 = .ok (.getfield 13, 3) := by decide +kernel
theorem dX8_dot_64 : decode cX8_dot 64 = .ok (.iload_n 1, 1) := by decide +kernel
theorem dX8_dot_65 : decode cX8_dot 65 = .ok (.iload_n 3, 1) := by decide +kernel
theorem dX8_dot_66 : decode cX8_dot 66 = .ok (.aload_n 0, 1) := by decide +kernel
theorem dX8_dot_67 : decode cX8_dot 67 = .ok (.getfield 13, 3) := by decide +kernel
theorem dX8_dot_70 : decode cX8_dot 70 = .ok (.iload_n 1, 1) := by decide +kernel
theorem dX8_dot_71 : decode cX8_dot 71 = .ok (.iload_n 3, 1) := by decide +kernel
theorem dX8_dot_72 : decode cX8_dot 72 = .ok (.invokevirtual 88, 3) := by decide +kernel
theorem dX8_dot_75 : decode cX8_dot 75 = .ok (.iload_n 2, 1) := by decide +kernel
theorem dX8_dot_76 : decode cX8_dot 76 = .ok (.invokestatic 92, 3) := by decide +kernel
theorem dX8_dot_79 : decode cX8_dot 79 = .ok (.ixor, 1) := by decide +kernel
theorem dX8_dot_80 : decode cX8_dot 80 = .ok (.invokevirtual 96, 3) := by decide +kernel
theorem dX8_dot_83 : decode cX8_dot 83 = .ok (.iload 5, 2) := by decide +kernel
theorem dX8_dot_85 : decode cX8_dot 85 = .ok (.ireturn, 1) := by decide +kernel
theorem dX8_pattern_0 : decode cX8_pattern 0 = .ok (.iload_n 1, 1) := by decide +kernel
theorem dX8_pattern_1 : decode cX8_pattern 1 = .ok (.iconst 0, 1) := by decide +kernel
theorem dX8_pattern_2 : decode cX8_pattern 2 = .ok (.bipush 7, 2) := by decide +kernel
theorem dX8_pattern_4 : decode cX8_pattern 4 = .ok (.invokestatic 73, 3) := by decide +kernel
theorem dX8_pattern_7 : decode cX8_pattern 7 = .ok (.ifCond .eq 14, 3) := by decide +kernel
theorem dX8_pattern_10 : decode cX8_pattern 10 = .ok (.iload_n 2, 1) := by decide +kernel
theorem dX8_pattern_11 : decode cX8_pattern 11 = .ok (.iconst 0, 1) := by decide +kernel
theorem dX8_pattern_12 : decode cX8_pattern 12 = .ok (.sipush 255, 3) := by decide +kernel
theorem dX8_pattern_15 : decode cX8_pattern 15 = .ok (.invokestatic 73, 3) := by decide +kernel
theorem dX8_pattern_18 : decode cX8_pattern 18 = .ok (.ifCond .ne 8, 3) := by decide +kernel
theorem dX8_pattern_21 : decode cX8_pattern 21 = .ok (.aload_n 0, 1) := by decide +kernel
theorem dX8_pattern_22 : decode cX8_pattern 22 = .ok (.invokevirtual 77, 3) := by decide +kernel
theorem dX8_pattern_25 : decode cX8_pattern 25 = .ok (.ireturn, 1) := by decide +kernel
theorem dX8_pattern_26 : decode cX8_pattern 26 = .ok (.aload_n 0, 1) := by decide +kernel
theorem dX8_pattern_27 : decode cX8_pattern 27 = .ok (.getfield 22, 3) := by decide +kernel
theorem dX8_pattern_30 : decode cX8_pattern 30 = .ok (.aload_n 0, 1) := by decide +kernel
theorem dX8_pattern_31 : decode cX8_pattern 31 = .ok (.getfield 13, 3) := by decide +kernel
theorem dX8_pattern_34 : decode cX8_pattern 34 = .ok (.invokevirtual 81, 3) := by decide +kernel
theorem dX8_pattern_37 : decode cX8_pattern 37 = .ok (.aload_n 0, 1) := by decide +kernel
theorem dX8_pattern_38 : decode cX8_pattern 38 = .ok (.getfield 13, 3) := by decide +kernel
theorem dX8_pattern_41 : decode cX8_pattern 41 = .ok (.getfield 100, 3) := by decide +kernel
theorem dX8_pattern_44 : decode cX8_pattern 44 = .ok (.iload_n 1, 1) := by decide +kernel
theorem dX8_pattern_45 : decode cX8_pattern 45 = .ok (.iaload, 1) := by decide +kernel
theorem dX8_pattern_46 : decode cX8_pattern 46 = .ok (.istore_n 3, 1) := by decide +kernel
theorem dX8_pattern_47 : decode cX8_pattern 47 = .ok (.aload_n 0, 1) := by decide +kernel
theorem dX8_pattern_48 : decode cX8_pattern 48 = .ok (.getfield 13, 3) := by decide +kernel
theorem dX8_pattern_51 : decode cX8_pattern 51 = .ok (.getfield 100, 3) := by decide +kernel
theorem dX8_pattern_54 : decode cX8_pattern 54 = .ok (.iload_n 1, 1) := by decide +kernel
theorem dX8_pattern_55 : decode cX8_pattern 55 = .ok (.iload_n 2, 1) := by decide +kernel
theorem dX8_pattern_56 : decode cX8_pattern 56 = .ok (.iastore, 1) := by decide +kernel
theorem dX8_pattern_57 : decode cX8_pattern 57 = .ok (.iload_n 3, 1) := by decide +kernel
theorem dX8_pattern_58 : decode cX8_pattern 58 = .ok (.ireturn, 1) := by decide +kernel
theorem dX8_draw_0 : decode cX8_draw 0 = .ok (.iload_n 1, 1) := by decide +kernel
theorem dX8_draw_1 : decode cX8_draw 1 = .ok (.invokestatic 65, 3) := by decide +kernel
theorem dX8_draw_4 : decode cX8_draw 4 = .ok (.ifCond .eq 13, 3) := by decide +kernel
theorem dX8_draw_7 : decode cX8_draw 7 = .ok (.iload_n 2, 1) := by decide +kernel
theorem dX8_draw_8 : decode cX8_draw 8 = .ok (.iconst 0, 1) := by decide +kernel
theorem dX8_draw_9 : decode cX8_draw 9 = .ok (.ldc 104, 2) := by decide +kernel
theorem dX8_draw_11 : decode cX8_draw 11 = .ok (.invokestatic 73, 3) := by decide +kernel
theorem dX8_draw_14 : decode cX8_draw 14 = .ok (.ifCond .ne 8, 3) := by decide +kernel
theorem dX8_draw_17 : decode cX8_draw 17 = .ok (.aload_n 0, 1) := by decide +kernel
theorem dX8_draw_18 : decode cX8_draw 18 = .ok (.invokevirtual 77, 3) := by decide +kernel
theorem dX8_draw_21 : decode cX8_draw 21 = .ok (.ireturn, 1) := by decide +kernel
theorem dX8_draw_22 : decode cX8_draw 22 = .ok (.aload_n 0, 1) := by decide +kernel
theorem dX8_draw_23 : decode cX8_draw 23 = .ok (.getfield 22, 3) := by decide +kernel
theorem dX8_draw_26 : decode cX8_draw 26 = .ok (.aload_n 0, 1) := by decide +kernel
theorem dX8_draw_27 : decode cX8_draw 27 = .ok (.getfield 13, 3) := by decide +kernel
theorem dX8_draw_30 : decode cX8_draw 30 = .ok (.invokevirtual 81, 3) := by decide +kernel
theorem dX8_draw_33 : decode cX8_draw 33 = .ok (.aload_n 0, 1) := by decide +kernel
theorem dX8_draw_34 : decode cX8_draw 34 = .ok (.getfield 40, 3) := by decide +kernel
theorem dX8_draw_37 : decode cX8_draw 37 = .ok (.iload_n 1, 1) := by decide +kernel
theorem dX8_draw_38 : decode cX8_draw 38 = .ok (.iload_n 2, 1) := by decide +kernel
theorem dX8_draw_39 : decode cX8_draw 39 = .ok (.invokevirtual 105, 3) := by decide +kernel
theorem dX8_draw_42 : decode cX8_draw 42 = .ok (.aload_n 0, 1) := by decide +kernel
theorem dX8_draw_43 : decode cX8_draw 43 = .ok (.getfield 47, 3) := by decide +kernel
theorem dX8_draw_46 : decode cX8_draw 46 = .ok (.iload_n 1, 1) := by decide +kernel
theorem dX8_draw_47 : decode cX8_draw 47 = .ok (.invokevirtual 109, 3) := by decide +kernel
theorem dX8_draw_50 : decode cX8_draw 50 = .ok (.ireturn, 1) := by decide +kernel
theorem dX8_opening_0 : decode cX8_opening 0 = .ok (.aload_n 0, 1) := by decide +kernel
theorem dX8_opening_1 : decode cX8_opening 1 = .ok (.getfield 54, 3) := by decide +kernel
theorem dX8_opening_4 : decode cX8_opening 4 = .ok (.bipush 111, 2) := by decide +kernel
theorem dX8_opening_6 : decode cX8_opening 6 = .ok (.invokevirtual 112, 3) := by decide +kernel
theorem dX8_opening_9 : decode cX8_opening 9 = .ok (.aload_n 0, 1) := by decide +kernel
theorem dX8_opening_10 : decode cX8_opening 10 = .ok (.getfield 54, 3) := by decide +kernel
theorem dX8_opening_13 : decode cX8_opening 13 = .ok (.iload_n 1, 1) := by decide +kernel
theorem dX8_opening_14 : decode cX8_opening 14 = .ok (.invokevirtual 116, 3) := by decide +kernel
theorem dX8_opening_17 : decode cX8_opening 17 = .ok (.iload_n 2, 1) := by decide +kernel
theorem dX8_opening_18 : decode cX8_opening 18 = .ok (.invokevirtual 116, 3) := by decide +kernel
theorem dX8_opening_21 : decode cX8_opening 21 = .ok (.iload_n 3, 1) := by decide +kernel
theorem dX8_opening_22 : decode cX8_opening 22 = .ok (.invokevirtual 116, 3) := by decide +kernel
theorem dX8_opening_25 : decode cX8_opening 25 = .ok (.iload 4, 2) := by decide +kernel
theorem dX8_opening_27 : decode cX8_opening 27 = .ok (.invokevirtual 116, 3) := by decide +kernel
theorem dX8_opening_30 : decode cX8_opening 30 = .ok (.pop, 1) := by decide +kernel
theorem dX8_opening_31 : decode cX8_opening 31 = .ok (.aload_n 0, 1) := by decide +kernel
theorem dX8_opening_32 : decode cX8_opening 32 = .ok (.getfield 54, 3) := by decide +kernel
theorem dX8_opening_35 : decode cX8_opening 35 = .ok (.invokevirtual 120, 3) := by decide +kernel
theorem dX8_opening_38 : decode cX8_opening 38 = .ok (.ifCond .ne 8, 3) := by decide +kernel
theorem dX8_opening_41 : decode cX8_opening 41 = .ok (.aload_n 0, 1) := by decide +kernel
theorem dX8_opening_42 : decode cX8_opening 42 = .ok (.invokevirtual 77, 3) := by decide +kernel
theorem dX8_opening_45 : decode cX8_opening 45 = .ok (.ireturn, 1) := by decide +kernel
theorem dX8_opening_46 : decode cX8_opening 46 = .ok (.aload_n 0, 1) := by decide +kernel
theorem dX8_opening_47 : decode cX8_opening 47 = .ok (.getfield 13, 3) := by decide +kernel
theorem dX8_opening_50 : decode cX8_opening 50 = .ok (.getfield 124, 3) := by decide +kernel
theorem dX8_opening_53 : decode cX8_opening 53 = .ok (.iconst 4, 1) := by decide +kernel
theorem dX8_opening_54 : decode cX8_opening 54 = .ok (.if_icmp .lt 8, 3) := by decide +kernel
theorem dX8_opening_57 : decode cX8_opening 57 = .ok (.aload_n 0, 1) := by decide +kernel
theorem dX8_opening_58 : decode cX8_opening 58 = .ok (.invokevirtual 128, 3) := by decide +kernel
theorem dX8_opening_61 : decode cX8_opening 61 = .ok (.ireturn, 1) := by decide +kernel
theorem dX8_opening_62 : decode cX8_opening 62 = .ok (.aload_n 0, 1) := by decide +kernel
theorem dX8_opening_63 : decode cX8_opening 63 = .ok (.getfield 22, 3) := by decide +kernel
theorem dX8_opening_66 : decode cX8_opening 66 = .ok (.aload_n 0, 1) := by decide +kernel
theorem dX8_opening_67 : decode cX8_opening 67 = .ok (.getfield 13, 3) := by decide +kernel
theorem dX8_opening_70 : decode cX8_opening 70 = .ok (.invokevirtual 81, 3) := by decide +kernel
theorem dX8_opening_73 : decode cX8_opening 73 = .ok (.aload_n 0, 1) := by decide +kernel
theorem dX8_opening_74 : decode cX8_opening 74 = .ok (.getfield 31, 3) := by decide +kernel
theorem dX8_opening_77 : decode cX8_opening 77 = .ok (.aload_n 0, 1) := by decide +kernel
theorem dX8_opening_78 : decode cX8_opening 78 = .ok (.getfield 54, 3) := by decide +kernel
theorem dX8_opening_81 : decode cX8_opening 81 = .ok (.invokevirtual 131, 3) := by decide +kernel
theorem dX8_opening_84 : decode cX8_opening 84 = .ok (.pop, 1) := by decide +kernel
theorem dX8_opening_85 : decode cX8_opening 85 = .ok (.aload_n 0, 1) := by decide +kernel
theorem dX8_opening_86 : decode cX8_opening 86 = .ok (.getfield 13, 3) := by decide +kernel
theorem dX8_opening_89 : decode cX8_opening 89 = .ok (.getfield 124, 3) := by decide +kernel
theorem dX8_opening_92 : decode cX8_opening 92 = .ok (.ireturn, 1) := by decide +kernel
theorem dX8_closes_0 : decode cX8_closes 0 = .ok (.aload_n 0, 1) := by decide +kernel
theorem dX8_closes_1 : decode cX8_closes 1 = .ok (.getfield 13, 3) := by decide +kernel
theorem dX8_closes_4 : decode cX8_closes 4 = .ok (.getfield 124, 3) := by decide +kernel
theorem dX8_closes_7 : decode cX8_closes 7 = .ok (.istore_n 1, 1) := by decide +kernel
theorem dX8_closes_8 : decode cX8_closes 8 = .ok (.aload_n 0, 1) := by decide +kernel
theorem dX8_closes_9 : decode cX8_closes 9 = .ok (.getfield 22, 3) := by decide +kernel
theorem dX8_closes_12 : decode cX8_closes 12 = .ok (.aload_n 0, 1) := by decide +kernel
theorem dX8_closes_13 : decode cX8_closes 13 = .ok (.getfield 13, 3) := by decide +kernel
theorem dX8_closes_16 : decode cX8_closes 16 = .ok (.invokevirtual 81, 3) := by decide +kernel
theorem dX8_closes_19 : decode cX8_closes 19 = .ok (.aload_n 0, 1) := by decide +kernel
theorem dX8_closes_20 : decode cX8_closes 20 = .ok (.getfield 13, 3) := by decide +kernel
theorem dX8_closes_23 : decode cX8_closes 23 = .ok (.iconst 0, 1) := by decide +kernel
theorem dX8_closes_24 : decode cX8_closes 24 = .ok (.putfield 124, 3) := by decide +kernel
theorem dX8_closes_27 : decode cX8_closes 27 = .ok (.iload_n 1, 1) := by decide +kernel
theorem dX8_closes_28 : decode cX8_closes 28 = .ok (.ireturn, 1) := by decide +kernel
theorem dX8_move_0 : decode cX8_move 0 = .ok (.aload_n 0, 1) := by decide +kernel
theorem dX8_move_1 : decode cX8_move 1 = .ok (.getfield 54, 3) := by decide +kernel
theorem dX8_move_4 : decode cX8_move 4 = .ok (.bipush 109, 2) := by decide +kernel
theorem dX8_move_6 : decode cX8_move 6 = .ok (.invokevirtual 112, 3) := by decide +kernel
theorem dX8_move_9 : decode cX8_move 9 = .ok (.aload_n 0, 1) := by decide +kernel
theorem dX8_move_10 : decode cX8_move 10 = .ok (.getfield 54, 3) := by decide +kernel
theorem dX8_move_13 : decode cX8_move 13 = .ok (.iload_n 1, 1) := by decide +kernel
theorem dX8_move_14 : decode cX8_move 14 = .ok (.invokevirtual 116, 3) := by decide +kernel
theorem dX8_move_17 : decode cX8_move 17 = .ok (.iload_n 2, 1) := by decide +kernel
theorem dX8_move_18 : decode cX8_move 18 = .ok (.invokevirtual 116, 3) := by decide +kernel
theorem dX8_move_21 : decode cX8_move 21 = .ok (.iload_n 3, 1) := by decide +kernel
theorem dX8_move_22 : decode cX8_move 22 = .ok (.invokevirtual 116, 3) := by decide +kernel
theorem dX8_move_25 : decode cX8_move 25 = .ok (.iload 4, 2) := by decide +kernel
theorem dX8_move_27 : decode cX8_move 27 = .ok (.invokevirtual 116, 3) := by decide +kernel
theorem dX8_move_30 : decode cX8_move 30 = .ok (.iload 5, 2) := by decide +kernel
theorem dX8_move_32 : decode cX8_move 32 = .ok (.invokevirtual 116, 3) := by decide +kernel
theorem dX8_move_35 : decode cX8_move 35 = .ok (.iload 6, 2) := by decide +kernel
theorem dX8_move_37 : decode cX8_move 37 = .ok (.invokevirtual 116, 3) := by decide +kernel
theorem dX8_move_40 : decode cX8_move 40 = .ok (.iload 7, 2) := by decide +kernel
theorem dX8_move_42 : decode cX8_move 42 = .ok (.invokevirtual 116, 3) := by decide +kernel
theorem dX8_move_45 : decode cX8_move 45 = .ok (.iload 8, 2) := by decide +kernel
theorem dX8_move_47 : decode cX8_move 47 = .ok (.invokevirtual 116, 3) := by decide +kernel
theorem dX8_move_50 : decode cX8_move 50 = .ok (.iload 9, 2) := by decide +kernel
theorem dX8_move_52 : decode cX8_move 52 = .ok (.invokevirtual 116, 3) := by decide +kernel
theorem dX8_move_55 : decode cX8_move 55 = .ok (.pop, 1) := by decide +kernel
theorem dX8_move_56 : decode cX8_move 56 = .ok (.aload_n 0, 1) := by decide +kernel
theorem dX8_move_57 : decode cX8_move 57 = .ok (.getfield 54, 3) := by decide +kernel
theorem dX8_move_60 : decode cX8_move 60 = .ok (.invokevirtual 120, 3) := by decide +kernel
theorem dX8_move_63 : decode cX8_move 63 = .ok (.ifCond .ne 8, 3) := by decide +kernel
theorem dX8_move_66 : decode cX8_move 66 = .ok (.aload_n 0, 1) := by decide +kernel
theorem dX8_move_67 : decode cX8_move 67 = .ok (.invokevirtual 77, 3) := by decide +kernel
theorem dX8_move_70 : decode cX8_move 70 = .ok (.ireturn, 1) := by decide +kernel
theorem dX8_move_71 : decode cX8_move 71 = .ok (.aload_n 0, 1) := by decide +kernel
theorem dX8_move_72 : decode cX8_move 72 = .ok (.getfield 22, 3) := by decide +kernel
theorem dX8_move_75 : decode cX8_move 75 = .ok (.aload_n 0, 1) := by decide +kernel
theorem dX8_move_76 : decode cX8_move 76 = .ok (.getfield 13, 3) := by decide +kernel
theorem dX8_move_79 : decode cX8_move 79 = .ok (.invokevirtual 81, 3) := by decide +kernel
theorem dX8_move_82 : decode cX8_move 82 = .ok (.aload_n 0, 1) := by decide +kernel
theorem dX8_move_83 : decode cX8_move 83 = .ok (.getfield 31, 3) := by decide +kernel
theorem dX8_move_86 : decode cX8_move 86 = .ok (.aload_n 0, 1) := by decide +kernel
theorem dX8_move_87 : decode cX8_move 87 = .ok (.getfield 54, 3) := by decide +kernel
theorem dX8_move_90 : decode cX8_move 90 = .ok (.invokevirtual 131, 3) := by decide +kernel
theorem dX8_move_93 : decode cX8_move 93 = .ok (.ireturn, 1) := by decide +kernel
theorem dX8_line_0 : decode cX8_line 0 = .ok (.aload_n 0, 1) := by decide +kernel
theorem dX8_line_1 : decode cX8_line 1 = .ok (.getfield 54, 3) := by decide +kernel
theorem dX8_line_4 : decode cX8_line 4 = .ok (.bipush 108, 2) := by decide +kernel
theorem dX8_line_6 : decode cX8_line 6 = .ok (.invokevirtual 112, 3) := by decide +kernel
theorem dX8_line_9 : decode cX8_line 9 = .ok (.aload_n 0, 1) := by decide +kernel
theorem dX8_line_10 : decode cX8_line 10 = .ok (.getfield 54, 3) := by decide +kernel
theorem dX8_line_13 : decode cX8_line 13 = .ok (.iload_n 1, 1) := by decide +kernel
theorem dX8_line_14 : decode cX8_line 14 = .ok (.invokevirtual 116, 3) := by decide +kernel
theorem dX8_line_17 : decode cX8_line 17 = .ok (.iload_n 2, 1) := by decide +kernel
theorem dX8_line_18 : decode cX8_line 18 = .ok (.invokevirtual 116, 3) := by decide +kernel
theorem dX8_line_21 : decode cX8_line 21 = .ok (.iload_n 3, 1) := by decide +kernel
theorem dX8_line_22 : decode cX8_line 22 = .ok (.invokevirtual 116, 3) := by decide +kernel
theorem dX8_line_25 : decode cX8_line 25 = .ok (.iload 4, 2) := by decide +kernel
theorem dX8_line_27 : decode cX8_line 27 = .ok (.invokevirtual 116, 3) := by decide +kernel
theorem dX8_line_30 : decode cX8_line 30 = .ok (.iload 5, 2) := by decide +kernel
theorem dX8_line_32 : decode cX8_line 32 = .ok (.invokevirtual 116, 3) := by decide +kernel
theorem dX8_line_35 : decode cX8_line 35 = .ok (.iload 6, 2) := by decide +kernel
theorem dX8_line_37 : decode cX8_line 37 = .ok (.invokevirtual 116, 3) := by decide +kernel
theorem dX8_line_40 : decode cX8_line 40 = .ok (.pop, 1) := by decide +kernel
theorem dX8_line_41 : decode cX8_line 41 = .ok (.aload_n 0, 1) := by decide +kernel
theorem dX8_line_42 : decode cX8_line 42 = .ok (.getfield 54, 3) := by decide +kernel
theorem dX8_line_45 : decode cX8_line 45 = .ok (.invokevirtual 120, 3) := by decide +kernel
theorem dX8_line_48 : decode cX8_line 48 = .ok (.ifCond .ne 8, 3) := by decide +kernel
theorem dX8_line_51 : decode cX8_line 51 = .ok (.aload_n 0, 1) := by decide +kernel
theorem dX8_line_52 : decode cX8_line 52 = .ok (.invokevirtual 77, 3) := by decide +kernel
theorem dX8_line_55 : decode cX8_line 55 = .ok (.ireturn, 1) := by decide +kernel
theorem dX8_line_56 : decode cX8_line 56 = .ok (.aload_n 0, 1) := by decide +kernel
theorem dX8_line_57 : decode cX8_line 57 = .ok (.getfield 22, 3) := by decide +kernel
theorem dX8_line_60 : decode cX8_line 60 = .ok (.aload_n 0, 1) := by decide +kernel
theorem dX8_line_61 : decode cX8_line 61 = .ok (.getfield 13, 3) := by decide +kernel
theorem dX8_line_64 : decode cX8_line 64 = .ok (.invokevirtual 81, 3) := by decide +kernel
theorem dX8_line_67 : decode cX8_line 67 = .ok (.aload_n 0, 1) := by decide +kernel
theorem dX8_line_68 : decode cX8_line 68 = .ok (.getfield 31, 3) := by decide +kernel
theorem dX8_line_71 : decode cX8_line 71 = .ok (.aload_n 0, 1) := by decide +kernel
theorem dX8_line_72 : decode cX8_line 72 = .ok (.getfield 54, 3) := by decide +kernel
theorem dX8_line_75 : decode cX8_line 75 = .ok (.invokevirtual 131, 3) := by decide +kernel
theorem dX8_line_78 : decode cX8_line 78 = .ok (.ireturn, 1) := by decide +kernel
theorem dX8_flood_0 : decode cX8_flood 0 = .ok (.aload_n 0, 1) := by decide +kernel
theorem dX8_flood_1 : decode cX8_flood 1 = .ok (.getfield 54, 3) := by decide +kernel
theorem dX8_flood_4 : decode cX8_flood 4 = .ok (.bipush 102, 2) := by decide +kernel
theorem dX8_flood_6 : decode cX8_flood 6 = .ok (.invokevirtual 112, 3) := by decide +kernel
theorem dX8_flood_9 : decode cX8_flood 9 = .ok (.aload_n 0, 1) := by decide +kernel
theorem dX8_flood_10 : decode cX8_flood 10 = .ok (.getfield 54, 3) := by decide +kernel
theorem dX8_flood_13 : decode cX8_flood 13 = .ok (.iload_n 1, 1) := by decide +kernel
theorem dX8_flood_14 : decode cX8_flood 14 = .ok (.invokevirtual 116, 3) := by decide +kernel
theorem dX8_flood_17 : decode cX8_flood 17 = .ok (.iload_n 2, 1) := by decide +kernel
theorem dX8_flood_18 : decode cX8_flood 18 = .ok (.invokevirtual 116, 3) := by decide +kernel
theorem dX8_flood_21 : decode cX8_flood 21 = .ok (.iload_n 3, 1) := by decide +kernel
theorem dX8_flood_22 : decode cX8_flood 22 = .ok (.invokevirtual 116, 3) := by decide +kernel
theorem dX8_flood_25 : decode cX8_flood 25 = .ok (.pop, 1) := by decide +kernel
theorem dX8_flood_26 : decode cX8_flood 26 = .ok (.aload_n 0, 1) := by decide +kernel
theorem dX8_flood_27 : decode cX8_flood 27 = .ok (.getfield 54, 3) := by decide +kernel
theorem dX8_flood_30 : decode cX8_flood 30 = .ok (.invokevirtual 120, 3) := by decide +kernel
theorem dX8_flood_33 : decode cX8_flood 33 = .ok (.ifCond .ne 8, 3) := by decide +kernel
theorem dX8_flood_36 : decode cX8_flood 36 = .ok (.aload_n 0, 1) := by decide +kernel
theorem dX8_flood_37 : decode cX8_flood 37 = .ok (.invokevirtual 77, 3) := by decide +kernel
theorem dX8_flood_40 : decode cX8_flood 40 = .ok (.ireturn, 1) := by decide +kernel
theorem dX8_flood_41 : decode cX8_flood 41 = .ok (.aload_n 0, 1) := by decide +kernel
theorem dX8_flood_42 : decode cX8_flood 42 = .ok (.getfield 13, 3) := by decide +kernel
theorem dX8_flood_45 : decode cX8_flood 45 = .ok (.iload_n 2, 1) := by decide +kernel
theorem dX8_flood_46 : decode cX8_flood 46 = .ok (.iload_n 3, 1) := by decide +kernel
theorem dX8_flood_47 : decode cX8_flood 47 = .ok (.invokevirtual 135, 3) := by decide +kernel
theorem dX8_flood_50 : decode cX8_flood 50 = .ok (.ifCond .ne 8, 3) := by decide +kernel
theorem dX8_flood_53 : decode cX8_flood 53 = .ok (.aload_n 0, 1) := by decide +kernel
theorem dX8_flood_54 : decode cX8_flood 54 = .ok (.invokevirtual 138, 3) := by decide +kernel
theorem dX8_flood_57 : decode cX8_flood 57 = .ok (.ireturn, 1) := by decide +kernel
theorem dX8_flood_58 : decode cX8_flood 58 = .ok (.aload_n 0, 1) := by decide +kernel
theorem dX8_flood_59 : decode cX8_flood 59 = .ok (.getfield 22, 3) := by decide +kernel
theorem dX8_flood_62 : decode cX8_flood 62 = .ok (.aload_n 0, 1) := by decide +kernel
theorem dX8_flood_63 : decode cX8_flood 63 = .ok (.getfield 13, 3) := by decide +kernel
theorem dX8_flood_66 : decode cX8_flood 66 = .ok (.invokevirtual 81, 3) := by decide +kernel
theorem dX8_flood_69 : decode cX8_flood 69 = .ok (.aload_n 0, 1) := by decide +kernel
theorem dX8_flood_70 : decode cX8_flood 70 = .ok (.getfield 31, 3) := by decide +kernel
theorem dX8_flood_73 : decode cX8_flood 73 = .ok (.aload_n 0, 1) := by decide +kernel
theorem dX8_flood_74 : decode cX8_flood 74 = .ok (.getfield 54, 3) := by decide +kernel
theorem dX8_flood_77 : decode cX8_flood 77 = .ok (.invokevirtual 131, 3) := by decide +kernel
theorem dX8_flood_80 : decode cX8_flood 80 = .ok (.ireturn, 1) := by decide +kernel
theorem dX8_rectangle_0 : decode cX8_rectangle 0 = .ok (.aload_n 0, 1) := by decide +kernel
theorem dX8_rectangle_1 : decode cX8_rectangle 1 = .ok (.getfield 54, 3) := by decide +kernel
theorem dX8_rectangle_4 : decode cX8_rectangle 4 = .ok (.bipush 114, 2) := by decide +kernel
theorem dX8_rectangle_6 : decode cX8_rectangle 6 = .ok (.invokevirtual 112, 3) := by decide +kernel
theorem dX8_rectangle_9 : decode cX8_rectangle 9 = .ok (.aload_n 0, 1) := by decide +kernel
theorem dX8_rectangle_10 : decode cX8_rectangle 10 = .ok (.getfield 54, 3) := by decide +kernel
theorem dX8_rectangle_13 : decode cX8_rectangle 13 = .ok (.iload_n 1, 1) := by decide +kernel
theorem dX8_rectangle_14 : decode cX8_rectangle 14 = .ok (.invokevirtual 116, 3) := by decide +kernel
theorem dX8_rectangle_17 : decode cX8_rectangle 17 = .ok (.iload_n 2, 1) := by decide +kernel
theorem dX8_rectangle_18 : decode cX8_rectangle 18 = .ok (.invokevirtual 116, 3) := by decide +kernel
theorem dX8_rectangle_21 : decode cX8_rectangle 21 = .ok (.iload_n 3, 1) := by decide +kernel
theorem dX8_rectangle_22 : decode cX8_rectangle 22 = .ok (.invokevirtual 116, 3) := by decide +kernel
theorem dX8_rectangle_25 : decode cX8_rectangle 25 = .ok (.iload 4, 2) := by decide +kernel
theorem dX8_rectangle_27 : decode cX8_rectangle 27 = .ok (.invokevirtual 116, 3) := by decide +kernel
theorem dX8_rectangle_30 : decode cX8_rectangle 30 = .ok (.iload 5, 2) := by decide +kernel
theorem dX8_rectangle_32 : decode cX8_rectangle 32 = .ok (.invokevirtual 116, 3) := by decide +kernel
theorem dX8_rectangle_35 : decode cX8_rectangle 35 = .ok (.iload 6, 2) := by decide +kernel
theorem dX8_rectangle_37 : decode cX8_rectangle 37 = .ok (.invokevirtual 116, 3) := by decide +kernel
theorem dX8_rectangle_40 : decode cX8_rectangle 40 = .ok (.pop, 1) := by decide +kernel
theorem dX8_rectangle_41 : decode cX8_rectangle 41 = .ok (.aload_n 0, 1) := by decide +kernel
theorem dX8_rectangle_42 : decode cX8_rectangle 42 = .ok (.getfield 54, 3) := by decide +kernel
theorem dX8_rectangle_45 : decode cX8_rectangle 45 = .ok (.invokevirtual 120, 3) := by decide +kernel
theorem dX8_rectangle_48 : decode cX8_rectangle 48 = .ok (.ifCond .ne 8, 3) := by decide +kernel
theorem dX8_rectangle_51 : decode cX8_rectangle 51 = .ok (.aload_n 0, 1) := by decide +kernel
theorem dX8_rectangle_52 : decode cX8_rectangle 52 = .ok (.invokevirtual 77, 3) := by decide +kernel
theorem dX8_rectangle_55 : decode cX8_rectangle 55 = .ok (.ireturn, 1) := by decide +kernel
theorem dX8_rectangle_56 : decode cX8_rectangle 56 = .ok (.aload_n 0, 1) := by decide +kernel
theorem dX8_rectangle_57 : decode cX8_rectangle 57 = .ok (.getfield 22, 3) := by decide +kernel
theorem dX8_rectangle_60 : decode cX8_rectangle 60 = .ok (.aload_n 0, 1) := by decide +kernel
theorem dX8_rectangle_61 : decode cX8_rectangle 61 = .ok (.getfield 13, 3) := by decide +kernel
theorem dX8_rectangle_64 : decode cX8_rectangle 64 = .ok (.invokevirtual 81, 3) := by decide +kernel
theorem dX8_rectangle_67 : decode cX8_rectangle 67 = .ok (.aload_n 0, 1) := by decide +kernel
theorem dX8_rectangle_68 : decode cX8_rectangle 68 = .ok (.getfield 31, 3) := by decide +kernel
theorem dX8_rectangle_71 : decode cX8_rectangle 71 = .ok (.aload_n 0, 1) := by decide +kernel
theorem dX8_rectangle_72 : decode cX8_rectangle 72 = .ok (.getfield 54, 3) := by decide +kernel
theorem dX8_rectangle_75 : decode cX8_rectangle 75 = .ok (.invokevirtual 131, 3) := by decide +kernel
theorem dX8_rectangle_78 : decode cX8_rectangle 78 = .ok (.ireturn, 1) := by decide +kernel
theorem dX8_letter_0 : decode cX8_letter 0 = .ok (.aload_n 0, 1) := by decide +kernel
theorem dX8_letter_1 : decode cX8_letter 1 = .ok (.getfield 54, 3) := by decide +kernel
theorem dX8_letter_4 : decode cX8_letter 4 = .ok (.bipush 99, 2) := by decide +kernel
theorem dX8_letter_6 : decode cX8_letter 6 = .ok (.invokevirtual 112, 3) := by decide +kernel
theorem dX8_letter_9 : decode cX8_letter 9 = .ok (.aload_n 0, 1) := by decide +kernel
theorem dX8_letter_10 : decode cX8_letter 10 = .ok (.getfield 54, 3) := by decide +kernel
theorem dX8_letter_13 : decode cX8_letter 13 = .ok (.iload_n 1, 1) := by decide +kernel
theorem dX8_letter_14 : decode cX8_letter 14 = .ok (.invokevirtual 116, 3) := by decide +kernel
theorem dX8_letter_17 : decode cX8_letter 17 = .ok (.iload_n 2, 1) := by decide +kernel
theorem dX8_letter_18 : decode cX8_letter 18 = .ok (.invokevirtual 116, 3) := by decide +kernel
theorem dX8_letter_21 : decode cX8_letter 21 = .ok (.iload_n 3, 1) := by decide +kernel
theorem dX8_letter_22 : decode cX8_letter 22 = .ok (.invokevirtual 116, 3) := by decide +kernel
theorem dX8_letter_25 : decode cX8_letter 25 = .ok (.iload 4, 2) := by decide +kernel
theorem dX8_letter_27 : decode cX8_letter 27 = .ok (.invokevirtual 116, 3) := by decide +kernel
theorem dX8_letter_30 : decode cX8_letter 30 = .ok (.iload 5, 2) := by decide +kernel
theorem dX8_letter_32 : decode cX8_letter 32 = .ok (.invokevirtual 116, 3) := by decide +kernel
theorem dX8_letter_35 : decode cX8_letter 35 = .ok (.pop, 1) := by decide +kernel
theorem dX8_letter_36 : decode cX8_letter 36 = .ok (.aload_n 0, 1) := by decide +kernel
theorem dX8_letter_37 : decode cX8_letter 37 = .ok (.getfield 54, 3) := by decide +kernel
theorem dX8_letter_40 : decode cX8_letter 40 = .ok (.invokevirtual 120, 3) := by decide +kernel
theorem dX8_letter_43 : decode cX8_letter 43 = .ok (.ifCond .ne 8, 3) := by decide +kernel
theorem dX8_letter_46 : decode cX8_letter 46 = .ok (.aload_n 0, 1) := by decide +kernel
theorem dX8_letter_47 : decode cX8_letter 47 = .ok (.invokevirtual 77, 3) := by decide +kernel
theorem dX8_letter_50 : decode cX8_letter 50 = .ok (.ireturn, 1) := by decide +kernel
theorem dX8_letter_51 : decode cX8_letter 51 = .ok (.aload_n 0, 1) := by decide +kernel
theorem dX8_letter_52 : decode cX8_letter 52 = .ok (.getfield 22, 3) := by decide +kernel
theorem dX8_letter_55 : decode cX8_letter 55 = .ok (.aload_n 0, 1) := by decide +kernel
theorem dX8_letter_56 : decode cX8_letter 56 = .ok (.getfield 13, 3) := by decide +kernel
theorem dX8_letter_59 : decode cX8_letter 59 = .ok (.invokevirtual 81, 3) := by decide +kernel
theorem dX8_letter_62 : decode cX8_letter 62 = .ok (.aload_n 0, 1) := by decide +kernel
theorem dX8_letter_63 : decode cX8_letter 63 = .ok (.getfield 31, 3) := by decide +kernel
theorem dX8_letter_66 : decode cX8_letter 66 = .ok (.aload_n 0, 1) := by decide +kernel
theorem dX8_letter_67 : decode cX8_letter 67 = .ok (.getfield 54, 3) := by decide +kernel
theorem dX8_letter_70 : decode cX8_letter 70 = .ok (.invokevirtual 131, 3) := by decide +kernel
theorem dX8_letter_73 : decode cX8_letter 73 = .ok (.ireturn, 1) := by decide +kernel
theorem dX8_joins_0 : decode cX8_joins 0 = .ok (.iload_n 1, 1) := by decide +kernel
theorem dX8_joins_1 : decode cX8_joins 1 = .ok (.invokestatic 65, 3) := by decide +kernel
theorem dX8_joins_4 : decode cX8_joins 4 = .ok (.ifCond .eq 21, 3) := by decide +kernel
theorem dX8_joins_7 : decode cX8_joins 7 = .ok (.iload_n 2, 1) := by decide +kernel
theorem dX8_joins_8 : decode cX8_joins 8 = .ok (.invokestatic 65, 3) := by decide +kernel
theorem dX8_joins_11 : decode cX8_joins 11 = .ok (.ifCond .eq 14, 3) := by decide +kernel
theorem dX8_joins_14 : decode cX8_joins 14 = .ok (.iload_n 3, 1) := by decide +kernel
theorem dX8_joins_15 : decode cX8_joins 15 = .ok (.iconst 0, 1) := by decide +kernel
theorem dX8_joins_16 : decode cX8_joins 16 = .ok (.sipush 255, 3) := by decide +kernel
theorem dX8_joins_19 : decode cX8_joins 19 = .ok (.invokestatic 73, 3) := by decide +kernel
theorem dX8_joins_22 : decode cX8_joins 22 = .ok (.ifCond .ne 8, 3) := by decide +kernel
theorem dX8_joins_25 : decode cX8_joins 25 = .ok (.aload_n 0, 1) := by decide +kernel
theorem dX8_joins_26 : decode cX8_joins 26 = .ok (.invokevirtual 77, 3) := by decide +kernel
theorem dX8_joins_29 : decode cX8_joins 29 = .ok (.ireturn, 1) := by decide +kernel
theorem dX8_joins_30 : decode cX8_joins 30 = .ok (.aload_n 0, 1) := by decide +kernel
theorem dX8_joins_31 : decode cX8_joins 31 = .ok (.getfield 22, 3) := by decide +kernel
theorem dX8_joins_34 : decode cX8_joins 34 = .ok (.aload_n 0, 1) := by decide +kernel
theorem dX8_joins_35 : decode cX8_joins 35 = .ok (.getfield 13, 3) := by decide +kernel
theorem dX8_joins_38 : decode cX8_joins 38 = .ok (.invokevirtual 81, 3) := by decide +kernel
theorem dX8_joins_41 : decode cX8_joins 41 = .ok (.aload_n 0, 1) := by decide +kernel
theorem dX8_joins_42 : decode cX8_joins 42 = .ok (.getfield 40, 3) := by decide +kernel
theorem dX8_joins_45 : decode cX8_joins 45 = .ok (.iload_n 1, 1) := by decide +kernel
theorem dX8_joins_46 : decode cX8_joins 46 = .ok (.iload_n 2, 1) := by decide +kernel
theorem dX8_joins_47 : decode cX8_joins 47 = .ok (.iload_n 3, 1) := by decide +kernel
theorem dX8_joins_48 : decode cX8_joins 48 = .ok (.invokevirtual 141, 3) := by decide +kernel
theorem dX8_joins_51 : decode cX8_joins 51 = .ok (.ireturn, 1) := by decide +kernel
theorem dX8_changes_0 : decode cX8_changes 0 = .ok (.iload_n 1, 1) := by decide +kernel
theorem dX8_changes_1 : decode cX8_changes 1 = .ok (.invokestatic 65, 3) := by decide +kernel
theorem dX8_changes_4 : decode cX8_changes 4 = .ok (.ifCond .eq 12, 3) := by decide +kernel
theorem dX8_changes_7 : decode cX8_changes 7 = .ok (.iload_n 2, 1) := by decide +kernel
theorem dX8_changes_8 : decode cX8_changes 8 = .ok (.iconst 0, 1) := by decide +kernel
theorem dX8_changes_9 : decode cX8_changes 9 = .ok (.iconst 4, 1) := by decide +kernel
theorem dX8_changes_10 : decode cX8_changes 10 = .ok (.invokestatic 73, 3) := by decide +kernel
theorem dX8_changes_13 : decode cX8_changes 13 = .ok (.ifCond .ne 8, 3) := by decide +kernel
theorem dX8_changes_16 : decode cX8_changes 16 = .ok (.aload_n 0, 1) := by decide +kernel
theorem dX8_changes_17 : decode cX8_changes 17 = .ok (.invokevirtual 77, 3) := by decide +kernel
theorem dX8_changes_20 : decode cX8_changes 20 = .ok (.ireturn, 1) := by decide +kernel
theorem dX8_changes_21 : decode cX8_changes 21 = .ok (.aload_n 0, 1) := by decide +kernel
theorem dX8_changes_22 : decode cX8_changes 22 = .ok (.getfield 22, 3) := by decide +kernel
theorem dX8_changes_25 : decode cX8_changes 25 = .ok (.aload_n 0, 1) := by decide +kernel
theorem dX8_changes_26 : decode cX8_changes 26 = .ok (.getfield 13, 3) := by decide +kernel
theorem dX8_changes_29 : decode cX8_changes 29 = .ok (.invokevirtual 81, 3) := by decide +kernel
theorem dX8_changes_32 : decode cX8_changes 32 = .ok (.aload_n 0, 1) := by decide +kernel
theorem dX8_changes_33 : decode cX8_changes 33 = .ok (.getfield 40, 3) := by decide +kernel
theorem dX8_changes_36 : decode cX8_changes 36 = .ok (.iload_n 1, 1) := by decide +kernel
theorem dX8_changes_37 : decode cX8_changes 37 = .ok (.iload_n 2, 1) := by decide +kernel
theorem dX8_changes_38 : decode cX8_changes 38 = .ok (.invokevirtual 144, 3) := by decide +kernel
theorem dX8_changes_41 : decode cX8_changes 41 = .ok (.ireturn, 1) := by decide +kernel
theorem dX8_rolls_0 : decode cX8_rolls 0 = .ok (.iload_n 1, 1) := by decide +kernel
theorem dX8_rolls_1 : decode cX8_rolls 1 = .ok (.invokestatic 65, 3) := by decide +kernel
theorem dX8_rolls_4 : decode cX8_rolls 4 = .ok (.ifCond .eq 25, 3) := by decide +kernel
theorem dX8_rolls_7 : decode cX8_rolls 7 = .ok (.iload_n 2, 1) := by decide +kernel
theorem dX8_rolls_8 : decode cX8_rolls 8 = .ok (.bipush (-31), 2) := by decide +kernel
theorem dX8_rolls_10 : decode cX8_rolls 10 = .ok (.bipush 31, 2) := by decide +kernel
theorem dX8_rolls_12 : decode cX8_rolls 12 = .ok (.invokestatic 73, 3) := by decide +kernel
theorem dX8_rolls_15 : decode cX8_rolls 15 = .ok (.ifCond .eq 14, 3) := by decide +kernel
theorem dX8_rolls_18 : decode cX8_rolls 18 = .ok (.iload_n 3, 1) := by decide +kernel
theorem dX8_rolls_19 : decode cX8_rolls 19 = .ok (.bipush (-31), 2) := by decide +kernel
theorem dX8_rolls_21 : decode cX8_rolls 21 = .ok (.bipush 31, 2) := by decide +kernel
theorem dX8_rolls_23 : decode cX8_rolls 23 = .ok (.invokestatic 73, 3) := by decide +kernel
theorem dX8_rolls_26 : decode cX8_rolls 26 = .ok (.ifCond .ne 8, 3) := by decide +kernel
theorem dX8_rolls_29 : decode cX8_rolls 29 = .ok (.aload_n 0, 1) := by decide +kernel
theorem dX8_rolls_30 : decode cX8_rolls 30 = .ok (.invokevirtual 77, 3) := by decide +kernel
theorem dX8_rolls_33 : decode cX8_rolls 33 = .ok (.ireturn, 1) := by decide +kernel
theorem dX8_rolls_34 : decode cX8_rolls 34 = .ok (.aload_n 0, 1) := by decide +kernel
theorem dX8_rolls_35 : decode cX8_rolls 35 = .ok (.getfield 22, 3) := by decide +kernel
theorem dX8_rolls_38 : decode cX8_rolls 38 = .ok (.aload_n 0, 1) := by decide +kernel
theorem dX8_rolls_39 : decode cX8_rolls 39 = .ok (.getfield 13, 3) := by decide +kernel
theorem dX8_rolls_42 : decode cX8_rolls 42 = .ok (.invokevirtual 81, 3) := by decide +kernel
theorem dX8_rolls_45 : decode cX8_rolls 45 = .ok (.aload_n 0, 1) := by decide +kernel
theorem dX8_rolls_46 : decode cX8_rolls 46 = .ok (.getfield 40, 3) := by decide +kernel
theorem dX8_rolls_49 : decode cX8_rolls 49 = .ok (.iload_n 1, 1) := by decide +kernel
theorem dX8_rolls_50 : decode cX8_rolls 50 = .ok (.iload_n 2, 1) := by decide +kernel
theorem dX8_rolls_51 : decode cX8_rolls 51 = .ok (.iload_n 3, 1) := by decide +kernel
theorem dX8_rolls_52 : decode cX8_rolls 52 = .ok (.invokevirtual 147, 3) := by decide +kernel
theorem dX8_rolls_55 : decode cX8_rolls 55 = .ok (.ireturn, 1) := by decide +kernel
theorem dX8_at_0 : decode cX8_at 0 = .ok (.iload_n 1, 1) := by decide +kernel
theorem dX8_at_1 : decode cX8_at 1 = .ok (.invokestatic 65, 3) := by decide +kernel
theorem dX8_at_4 : decode cX8_at 4 = .ok (.ifCond .eq 16, 3) := by decide +kernel
theorem dX8_at_7 : decode cX8_at 7 = .ok (.aload_n 0, 1) := by decide +kernel
theorem dX8_at_8 : decode cX8_at 8 = .ok (.getfield 13, 3) := by decide +kernel
theorem dX8_at_11 : decode cX8_at 11 = .ok (.iload_n 1, 1) := by decide +kernel
theorem dX8_at_12 : decode cX8_at 12 = .ok (.iload_n 2, 1) := by decide +kernel
theorem dX8_at_13 : decode cX8_at 13 = .ok (.iload_n 3, 1) := by decide +kernel
theorem dX8_at_14 : decode cX8_at 14 = .ok (.invokevirtual 84, 3) := by decide +kernel
theorem dX8_at_17 : decode cX8_at 17 = .ok (.goto 7, 3) := by decide +kernel
theorem dX8_at_20 : decode cX8_at 20 = .ok (.aload_n 0, 1) := by decide +kernel
theorem dX8_at_21 : decode cX8_at 21 = .ok (.invokevirtual 77, 3) := by decide +kernel
theorem dX8_at_24 : decode cX8_at 24 = .ok (.ireturn, 1) := by decide +kernel
theorem dX8_row_0 : decode cX8_row 0 = .ok (.iload_n 1, 1) := by decide +kernel
theorem dX8_row_1 : decode cX8_row 1 = .ok (.invokestatic 65, 3) := by decide +kernel
theorem dX8_row_4 : decode cX8_row 4 = .ok (.ifCond .eq 13, 3) := by decide +kernel
theorem dX8_row_7 : decode cX8_row 7 = .ok (.iload_n 2, 1) := by decide +kernel
theorem dX8_row_8 : decode cX8_row 8 = .ok (.iconst 0, 1) := by decide +kernel
theorem dX8_row_9 : decode cX8_row 9 = .ok (.bipush 23, 2) := by decide +kernel
theorem dX8_row_11 : decode cX8_row 11 = .ok (.invokestatic 73, 3) := by decide +kernel
theorem dX8_row_14 : decode cX8_row 14 = .ok (.ifCond .ne 10, 3) := by decide +kernel
theorem dX8_row_17 : decode cX8_row 17 = .ok (.aload_n 0, 1) := by decide +kernel
theorem dX8_row_18 : decode cX8_row 18 = .ok (.invokevirtual 77, 3) := by decide +kernel
theorem dX8_row_21 : decode cX8_row 21 = .ok (.pop, 1) := by decide +kernel
theorem dX8_row_22 : decode cX8_row 22 = .ok (.iconst 0, 1) := by decide +kernel
theorem dX8_row_23 : decode cX8_row 23 = .ok (.ireturn, 1) := by decide +kernel
theorem dX8_row_24 : decode cX8_row 24 = .ok (.aload_n 0, 1) := by decide +kernel
theorem dX8_row_25 : decode cX8_row 25 = .ok (.getfield 13, 3) := by decide +kernel
theorem dX8_row_28 : decode cX8_row 28 = .ok (.iload_n 1, 1) := by decide +kernel
theorem dX8_row_29 : decode cX8_row 29 = .ok (.iload_n 2, 1) := by decide +kernel
theorem dX8_row_30 : decode cX8_row 30 = .ok (.invokevirtual 88, 3) := by decide +kernel
theorem dX8_row_33 : decode cX8_row 33 = .ok (.ireturn, 1) := by decide +kernel
theorem dX8_of_0 : decode cX8_of 0 = .ok (.iload_n 1, 1) := by decide +kernel
theorem dX8_of_1 : decode cX8_of 1 = .ok (.invokestatic 65, 3) := by decide +kernel
theorem dX8_of_4 : decode cX8_of 4 = .ok (.ifCond .eq 13, 3) := by decide +kernel
theorem dX8_of_7 : decode cX8_of 7 = .ok (.iload_n 2, 1) := by decide +kernel
theorem dX8_of_8 : decode cX8_of 8 = .ok (.iconst 0, 1) := by decide +kernel
theorem dX8_of_9 : decode cX8_of 9 = .ok (.bipush 6, 2) := by decide +kernel
theorem dX8_of_11 : decode cX8_of 11 = .ok (.invokestatic 73, 3) := by decide +kernel
theorem dX8_of_14 : decode cX8_of 14 = .ok (.ifCond .ne 8, 3) := by decide +kernel
theorem dX8_of_17 : decode cX8_of 17 = .ok (.aload_n 0, 1) := by decide +kernel
theorem dX8_of_18 : decode cX8_of 18 = .ok (.invokevirtual 77, 3) := by decide +kernel
theorem dX8_of_21 : decode cX8_of 21 = .ok (.ireturn, 1) := by decide +kernel
theorem dX8_of_22 : decode cX8_of 22 = .ok (.aload_n 0, 1) := by decide +kernel
theorem dX8_of_23 : decode cX8_of 23 = .ok (.getfield 47, 3) := by decide +kernel
theorem dX8_of_26 : decode cX8_of 26 = .ok (.iload_n 1, 1) := by decide +kernel
theorem dX8_of_27 : decode cX8_of 27 = .ok (.iload_n 2, 1) := by decide +kernel
theorem dX8_of_28 : decode cX8_of 28 = .ok (.invokevirtual 150, 3) := by decide +kernel
theorem dX8_of_31 : decode cX8_of 31 = .ok (.ireturn, 1) := by decide +kernel
theorem dX8_count_0 : decode cX8_count 0 = .ok (.iload_n 1, 1) := by decide +kernel
theorem dX8_count_1 : decode cX8_count 1 = .ok (.invokestatic 65, 3) := by decide +kernel
theorem dX8_count_4 : decode cX8_count 4 = .ok (.ifCond .eq 33, 3) := by decide +kernel
theorem dX8_count_7 : decode cX8_count 7 = .ok (.iload_n 2, 1) := by decide +kernel
theorem dX8_count_8 : decode cX8_count 8 = .ok (.invokestatic 153, 3) := by decide +kernel
theorem dX8_count_11 : decode cX8_count 11 = .ok (.ifCond .eq 26, 3) := by decide +kernel
theorem dX8_count_14 : decode cX8_count 14 = .ok (.iload_n 3, 1) := by decide +kernel
theorem dX8_count_15 : decode cX8_count 15 = .ok (.invokestatic 153, 3) := by decide +kernel
theorem dX8_count_18 : decode cX8_count 18 = .ok (.ifCond .eq 19, 3) := by decide +kernel
theorem dX8_count_21 : decode cX8_count 21 = .ok (.iload 4, 2) := by decide +kernel
theorem dX8_count_23 : decode cX8_count 23 = .ok (.invokestatic 156, 3) := by decide +kernel
theorem dX8_count_26 : decode cX8_count 26 = .ok (.ifCond .eq 11, 3) := by decide +kernel
theorem dX8_count_29 : decode cX8_count 29 = .ok (.iload 5, 2) := by decide +kernel
theorem dX8_count_31 : decode cX8_count 31 = .ok (.invokestatic 156, 3) := by decide +kernel
theorem dX8_count_34 : decode cX8_count 34 = .ok (.ifCond .ne 8, 3) := by decide +kernel
theorem dX8_count_37 : decode cX8_count 37 = .ok (.aload_n 0, 1) := by decide +kernel
theorem dX8_count_38 : decode cX8_count 38 = .ok (.invokevirtual 77, 3) := by decide +kernel
theorem dX8_count_41 : decode cX8_count 41 = .ok (.ireturn, 1) := by decide +kernel
theorem dX8_count_42 : decode cX8_count 42 = .ok (.aload_n 0, 1) := by decide +kernel
theorem dX8_count_43 : decode cX8_count 43 = .ok (.getfield 47, 3) := by decide +kernel
theorem dX8_count_46 : decode cX8_count 46 = .ok (.iload_n 1, 1) := by decide +kernel
theorem dX8_count_47 : decode cX8_count 47 = .ok (.iload_n 2, 1) := by decide +kernel
theorem dX8_count_48 : decode cX8_count 48 = .ok (.iload_n 3, 1) := by decide +kernel
theorem dX8_count_49 : decode cX8_count 49 = .ok (.iload 4, 2) := by decide +kernel
theorem dX8_count_51 : decode cX8_count 51 = .ok (.iload 5, 2) := by decide +kernel
theorem dX8_count_53 : decode cX8_count 53 = .ok (.invokevirtual 159, 3) := by decide +kernel
theorem dX8_count_56 : decode cX8_count 56 = .ok (.ireturn, 1) := by decide +kernel
theorem dX8_unlike_0 : decode cX8_unlike 0 = .ok (.iload_n 1, 1) := by decide +kernel
theorem dX8_unlike_1 : decode cX8_unlike 1 = .ok (.invokestatic 65, 3) := by decide +kernel
theorem dX8_unlike_4 : decode cX8_unlike 4 = .ok (.ifCond .eq 22, 3) := by decide +kernel
theorem dX8_unlike_7 : decode cX8_unlike 7 = .ok (.iload_n 2, 1) := by decide +kernel
theorem dX8_unlike_8 : decode cX8_unlike 8 = .ok (.invokestatic 65, 3) := by decide +kernel
theorem dX8_unlike_11 : decode cX8_unlike 11 = .ok (.ifCond .eq 15, 3) := by decide +kernel
theorem dX8_unlike_14 : decode cX8_unlike 14 = .ok (.aload_n 0, 1) := by decide +kernel
theorem dX8_unlike_15 : decode cX8_unlike 15 = .ok (.getfield 47, 3) := by decide +kernel
theorem dX8_unlike_18 : decode cX8_unlike 18 = .ok (.iload_n 1, 1) := by decide +kernel
theorem dX8_unlike_19 : decode cX8_unlike 19 = .ok (.iload_n 2, 1) := by decide +kernel
theorem dX8_unlike_20 : decode cX8_unlike 20 = .ok (.invokevirtual 163, 3) := by decide +kernel
theorem dX8_unlike_23 : decode cX8_unlike 23 = .ok (.goto 7, 3) := by decide +kernel
theorem dX8_unlike_26 : decode cX8_unlike 26 = .ok (.aload_n 0, 1) := by decide +kernel
theorem dX8_unlike_27 : decode cX8_unlike 27 = .ok (.invokevirtual 77, 3) := by decide +kernel
theorem dX8_unlike_30 : decode cX8_unlike 30 = .ok (.ireturn, 1) := by decide +kernel
theorem dX8_finds_0 : decode cX8_finds 0 = .ok (.iload_n 1, 1) := by decide +kernel
theorem dX8_finds_1 : decode cX8_finds 1 = .ok (.invokestatic 65, 3) := by decide +kernel
theorem dX8_finds_4 : decode cX8_finds 4 = .ok (.ifCond .eq 33, 3) := by decide +kernel
theorem dX8_finds_7 : decode cX8_finds 7 = .ok (.iload 6, 2) := by decide +kernel
theorem dX8_finds_9 : decode cX8_finds 9 = .ok (.invokestatic 65, 3) := by decide +kernel
theorem dX8_finds_12 : decode cX8_finds 12 = .ok (.ifCond .eq 25, 3) := by decide +kernel
theorem dX8_finds_15 : decode cX8_finds 15 = .ok (.iload 4, 2) := by decide +kernel
theorem dX8_finds_17 : decode cX8_finds 17 = .ok (.iconst 1, 1) := by decide +kernel
theorem dX8_finds_18 : decode cX8_finds 18 = .ok (.bipush 8, 2) := by decide +kernel
theorem dX8_finds_20 : decode cX8_finds 20 = .ok (.invokestatic 73, 3) := by decide +kernel
theorem dX8_finds_23 : decode cX8_finds 23 = .ok (.ifCond .eq 14, 3) := by decide +kernel
theorem dX8_finds_26 : decode cX8_finds 26 = .ok (.iload 5, 2) := by decide +kernel
theorem dX8_finds_28 : decode cX8_finds 28 = .ok (.iconst 1, 1) := by decide +kernel
theorem dX8_finds_29 : decode cX8_finds 29 = .ok (.bipush 8, 2) := by decide +kernel
theorem dX8_finds_31 : decode cX8_finds 31 = .ok (.invokestatic 73, 3) := by decide +kernel
theorem dX8_finds_34 : decode cX8_finds 34 = .ok (.ifCond .ne 8, 3) := by decide +kernel
theorem dX8_finds_37 : decode cX8_finds 37 = .ok (.aload_n 0, 1) := by decide +kernel
theorem dX8_finds_38 : decode cX8_finds 38 = .ok (.invokevirtual 77, 3) := by decide +kernel
theorem dX8_finds_41 : decode cX8_finds 41 = .ok (.ireturn, 1) := by decide +kernel
theorem dX8_finds_42 : decode cX8_finds 42 = .ok (.iload_n 2, 1) := by decide +kernel
theorem dX8_finds_43 : decode cX8_finds 43 = .ok (.iconst 0, 1) := by decide +kernel
theorem dX8_finds_44 : decode cX8_finds 44 = .ok (.bipush 32, 2) := by decide +kernel
theorem dX8_finds_46 : decode cX8_finds 46 = .ok (.iload 4, 2) := by decide +kernel
theorem dX8_finds_48 : decode cX8_finds 48 = .ok (.isub, 1) := by decide +kernel
theorem dX8_finds_49 : decode cX8_finds 49 = .ok (.invokestatic 73, 3) := by decide +kernel
theorem dX8_finds_52 : decode cX8_finds 52 = .ok (.ifCond .eq 16, 3) := by decide +kernel
theorem dX8_finds_55 : decode cX8_finds 55 = .ok (.iload_n 3, 1) := by decide +kernel
theorem dX8_finds_56 : decode cX8_finds 56 = .ok (.iconst 0, 1) := by decide +kernel
theorem dX8_finds_57 : decode cX8_finds 57 = .ok (.bipush 24, 2) := by decide +kernel
theorem dX8_finds_59 : decode cX8_finds 59 = .ok (.iload 5, 2) := by decide +kernel
theorem dX8_finds_61 : decode cX8_finds 61 = .ok (.isub, 1) := by decide +kernel
theorem dX8_finds_62 : decode cX8_finds 62 = .ok (.invokestatic 73, 3) := by decide +kernel
theorem dX8_finds_65 : decode cX8_finds 65 = .ok (.ifCond .ne 8, 3) := by decide +kernel
theorem dX8_finds_68 : decode cX8_finds 68 = .ok (.aload_n 0, 1) := by decide +kernel
theorem dX8_finds_69 : decode cX8_finds 69 = .ok (.invokevirtual 77, 3) := by decide +kernel
theorem dX8_finds_72 : decode cX8_finds 72 = .ok (.ireturn, 1) := by decide +kernel
theorem dX8_finds_73 : decode cX8_finds 73 = .ok (.aload_n 0, 1) := by decide +kernel
theorem dX8_finds_74 : decode cX8_finds 74 = .ok (.getfield 47, 3) := by decide +kernel
theorem dX8_finds_77 : decode cX8_finds 77 = .ok (.iload_n 1, 1) := by decide +kernel
theorem dX8_finds_78 : decode cX8_finds 78 = .ok (.iload_n 2, 1) := by decide +kernel
theorem dX8_finds_79 : decode cX8_finds 79 = .ok (.iload_n 3, 1) := by decide +kernel
theorem dX8_finds_80 : decode cX8_finds 80 = .ok (.iload 5, 2) := by decide +kernel
theorem dX8_finds_82 : decode cX8_finds 82 = .ok (.invokevirtual 166, 3) := by decide +kernel
theorem dX8_finds_85 : decode cX8_finds 85 = .ok (.aload_n 0, 1) := by decide +kernel
theorem dX8_finds_86 : decode cX8_finds 86 = .ok (.getfield 47, 3) := by decide +kernel
theorem dX8_finds_89 : decode cX8_finds 89 = .ok (.iload 6, 2) := by decide +kernel
theorem dX8_finds_91 : decode cX8_finds 91 = .ok (.iload 4, 2) := by decide +kernel
theorem dX8_finds_93 : decode cX8_finds 93 = .ok (.iload 5, 2) := by decide +kernel
theorem dX8_finds_95 : decode cX8_finds 95 = .ok (.invokevirtual 170, 3) := by decide +kernel
theorem dX8_finds_98 : decode cX8_finds 98 = .ok (.ireturn, 1) := by decide +kernel
theorem dX8_open_0 : decode cX8_open 0 = .ok (.iload_n 1, 1) := by decide +kernel
theorem dX8_open_1 : decode cX8_open 1 = .ok (.iload_n 2, 1) := by decide +kernel
theorem dX8_open_2 : decode cX8_open 2 = .ok (.invokestatic 69, 3) := by decide +kernel
theorem dX8_open_5 : decode cX8_open 5 = .ok (.ifCond .ne 8, 3) := by decide +kernel
theorem dX8_open_8 : decode cX8_open 8 = .ok (.aload_n 0, 1) := by decide +kernel
theorem dX8_open_9 : decode cX8_open 9 = .ok (.invokevirtual 77, 3) := by decide +kernel
theorem dX8_open_12 : decode cX8_open 12 = .ok (.ireturn, 1) := by decide +kernel
theorem dX8_open_13 : decode cX8_open 13 = .ok (.aload_n 0, 1) := by decide +kernel
theorem dX8_open_14 : decode cX8_open 14 = .ok (.getfield 13, 3) := by decide +kernel
theorem dX8_open_17 : decode cX8_open 17 = .ok (.iload_n 1, 1) := by decide +kernel
theorem dX8_open_18 : decode cX8_open 18 = .ok (.iload_n 2, 1) := by decide +kernel
theorem dX8_open_19 : decode cX8_open 19 = .ok (.invokevirtual 135, 3) := by decide +kernel
theorem dX8_open_22 : decode cX8_open 22 = .ok (.ifCond .eq 7, 3) := by decide +kernel
theorem dX8_open_25 : decode cX8_open 25 = .ok (.iconst 1, 1) := by decide +kernel
theorem dX8_open_26 : decode cX8_open 26 = .ok (.goto 4, 3) := by decide +kernel
theorem dX8_open_29 : decode cX8_open 29 = .ok (.iconst 0, 1) := by decide +kernel
theorem dX8_open_30 : decode cX8_open 30 = .ok (.ireturn, 1) := by decide +kernel
theorem dX8_type_0 : decode cX8_type 0 = .ok (.iload_n 1, 1) := by decide +kernel
theorem dX8_type_1 : decode cX8_type 1 = .ok (.iconst 0, 1) := by decide +kernel
theorem dX8_type_2 : decode cX8_type 2 = .ok (.bipush 127, 2) := by decide +kernel
theorem dX8_type_4 : decode cX8_type 4 = .ok (.invokestatic 73, 3) := by decide +kernel
theorem dX8_type_7 : decode cX8_type 7 = .ok (.ifCond .ne 8, 3) := by decide +kernel
theorem dX8_type_10 : decode cX8_type 10 = .ok (.aload_n 0, 1) := by decide +kernel
theorem dX8_type_11 : decode cX8_type 11 = .ok (.invokevirtual 77, 3) := by decide +kernel
theorem dX8_type_14 : decode cX8_type 14 = .ok (.ireturn, 1) := by decide +kernel
theorem dX8_type_15 : decode cX8_type 15 = .ok (.aload_n 0, 1) := by decide +kernel
theorem dX8_type_16 : decode cX8_type 16 = .ok (.getfield 61, 3) := by decide +kernel
theorem dX8_type_19 : decode cX8_type 19 = .ok (.getfield 173, 3) := by decide +kernel
theorem dX8_type_22 : decode cX8_type 22 = .ok (.bipush 120, 2) := by decide +kernel
theorem dX8_type_24 : decode cX8_type 24 = .ok (.if_icmp .lt 8, 3) := by decide +kernel
theorem dX8_type_27 : decode cX8_type 27 = .ok (.aload_n 0, 1) := by decide +kernel
theorem dX8_type_28 : decode cX8_type 28 = .ok (.invokevirtual 128, 3) := by decide +kernel
theorem dX8_type_31 : decode cX8_type 31 = .ok (.ireturn, 1) := by decide +kernel
theorem dX8_type_32 : decode cX8_type 32 = .ok (.aload_n 0, 1) := by decide +kernel
theorem dX8_type_33 : decode cX8_type 33 = .ok (.getfield 61, 3) := by decide +kernel
theorem dX8_type_36 : decode cX8_type 36 = .ok (.iload_n 1, 1) := by decide +kernel
theorem dX8_type_37 : decode cX8_type 37 = .ok (.invokevirtual 176, 3) := by decide +kernel
theorem dX8_type_40 : decode cX8_type 40 = .ok (.aload_n 0, 1) := by decide +kernel
theorem dX8_type_41 : decode cX8_type 41 = .ok (.getfield 61, 3) := by decide +kernel
theorem dX8_type_44 : decode cX8_type 44 = .ok (.getfield 173, 3) := by decide +kernel
theorem dX8_type_47 : decode cX8_type 47 = .ok (.ireturn, 1) := by decide +kernel
theorem dX8_clear_0 : decode cX8_clear 0 = .ok (.aload_n 0, 1) := by decide +kernel
theorem dX8_clear_1 : decode cX8_clear 1 = .ok (.getfield 61, 3) := by decide +kernel
theorem dX8_clear_4 : decode cX8_clear 4 = .ok (.getfield 173, 3) := by decide +kernel
theorem dX8_clear_7 : decode cX8_clear 7 = .ok (.istore_n 1, 1) := by decide +kernel
theorem dX8_clear_8 : decode cX8_clear 8 = .ok (.aload_n 0, 1) := by decide +kernel
theorem dX8_clear_9 : decode cX8_clear 9 = .ok (.getfield 61, 3) := by decide +kernel
theorem dX8_clear_12 : decode cX8_clear 12 = .ok (.iconst 0, 1) := by decide +kernel
theorem dX8_clear_13 : decode cX8_clear 13 = .ok (.putfield 173, 3) := by decide +kernel
theorem dX8_clear_16 : decode cX8_clear 16 = .ok (.iload_n 1, 1) := by decide +kernel
theorem dX8_clear_17 : decode cX8_clear 17 = .ok (.ireturn, 1) := by decide +kernel
theorem dX8_does_0 : decode cX8_does 0 = .ok (.aload_n 0, 1) := by decide +kernel
theorem dX8_does_1 : decode cX8_does 1 = .ok (.getfield 61, 3) := by decide +kernel
theorem dX8_does_4 : decode cX8_does 4 = .ok (.aload_n 0, 1) := by decide +kernel
theorem dX8_does_5 : decode cX8_does 5 = .ok (.getfield 54, 3) := by decide +kernel
theorem dX8_does_8 : decode cX8_does 8 = .ok (.aload_n 0, 1) := by decide +kernel
theorem dX8_does_9 : decode cX8_does 9 = .ok (.getfield 13, 3) := by decide +kernel
theorem dX8_does_12 : decode cX8_does 12 = .ok (.getfield 124, 3) := by decide +kernel
theorem dX8_does_15 : decode cX8_does 15 = .ok (.invokevirtual 179, 3) := by decide +kernel
theorem dX8_does_18 : decode cX8_does 18 = .ok (.istore_n 1, 1) := by decide +kernel
theorem dX8_does_19 : decode cX8_does 19 = .ok (.iload_n 1, 1) := by decide +kernel
theorem dX8_does_20 : decode cX8_does 20 = .ok (.iconst (-1), 1) := by decide +kernel
theorem dX8_does_21 : decode cX8_does 21 = .ok (.if_icmp .eq 8, 3) := by decide +kernel
theorem dX8_does_24 : decode cX8_does 24 = .ok (.bipush (-10), 2) := by decide +kernel
theorem dX8_does_26 : decode cX8_does 26 = .ok (.iload_n 1, 1) := by decide +kernel
theorem dX8_does_27 : decode cX8_does 27 = .ok (.isub, 1) := by decide +kernel
theorem dX8_does_28 : decode cX8_does 28 = .ok (.ireturn, 1) := by decide +kernel
theorem dX8_does_29 : decode cX8_does 29 = .ok (.aload_n 0, 1) := by decide +kernel
theorem dX8_does_30 : decode cX8_does 30 = .ok (.getfield 22, 3) := by decide +kernel
theorem dX8_does_33 : decode cX8_does 33 = .ok (.aload_n 0, 1) := by decide +kernel
theorem dX8_does_34 : decode cX8_does 34 = .ok (.getfield 13, 3) := by decide +kernel
theorem dX8_does_37 : decode cX8_does 37 = .ok (.invokevirtual 81, 3) := by decide +kernel
theorem dX8_does_40 : decode cX8_does 40 = .ok (.aload_n 0, 1) := by decide +kernel
theorem dX8_does_41 : decode cX8_does 41 = .ok (.getfield 61, 3) := by decide +kernel
theorem dX8_does_44 : decode cX8_does 44 = .ok (.invokevirtual 183, 3) := by decide +kernel
theorem dX8_does_47 : decode cX8_does 47 = .ok (.iconst 0, 1) := by decide +kernel
theorem dX8_does_48 : decode cX8_does 48 = .ok (.istore_n 2, 1) := by decide +kernel
theorem dX8_does_49 : decode cX8_does 49 = .ok (.iconst 0, 1) := by decide +kernel
theorem dX8_does_50 : decode cX8_does 50 = .ok (.istore_n 3, 1) := by decide +kernel
theorem dX8_does_51 : decode cX8_does 51 = .ok (.iload_n 3, 1) := by decide +kernel
theorem dX8_does_52 : decode cX8_does 52 = .ok (.bipush 120, 2) := by decide +kernel
theorem dX8_does_54 : decode cX8_does 54 = .ok (.if_icmp .ge 45, 3) := by decide +kernel
theorem dX8_does_57 : decode cX8_does 57 = .ok (.aload_n 0, 1) := by decide +kernel
theorem dX8_does_58 : decode cX8_does 58 = .ok (.getfield 61, 3) := by decide +kernel
theorem dX8_does_61 : decode cX8_does 61 = .ok (.invokevirtual 186, 3) := by decide +kernel
theorem dX8_does_64 : decode cX8_does 64 = .ok (.ifCond .ne 35, 3) := by decide +kernel
theorem dX8_does_67 : decode cX8_does 67 = .ok (.aload_n 0, 1) := by decide +kernel
theorem dX8_does_68 : decode cX8_does 68 = .ok (.getfield 61, 3) := by decide +kernel
theorem dX8_does_71 : decode cX8_does 71 = .ok (.aload_n 0, 1) := by decide +kernel
theorem dX8_does_72 : decode cX8_does 72 = .ok (.getfield 54, 3) := by decide +kernel
theorem dX8_does_75 : decode cX8_does 75 = .ok (.invokevirtual 189, 3) := by decide +kernel
theorem dX8_does_78 : decode cX8_does 78 = .ok (.pop, 1) := by decide +kernel
theorem dX8_does_79 : decode cX8_does 79 = .ok (.iload_n 2, 1) := by decide +kernel
theorem dX8_does_80 : decode cX8_does 80 = .ok (.aload_n 0, 1) := by decide +kernel
theorem dX8_does_81 : decode cX8_does 81 = .ok (.getfield 31, 3) := by decide +kernel
theorem dX8_does_84 : decode cX8_does 84 = .ok (.aload_n 0, 1) := by decide +kernel
theorem dX8_does_85 : decode cX8_does 85 = .ok (.getfield 54, 3) := by decide +kernel
theorem dX8_does_88 : decode cX8_does 88 = .ok (.invokevirtual 131, 3) := by decide +kernel
theorem dX8_does_91 : decode cX8_does 91 = .ok (.iadd, 1) := by decide +kernel
theorem dX8_does_92 : decode cX8_does 92 = .ok (.istore_n 2, 1) := by decide +kernel
theorem dX8_does_93 : decode cX8_does 93 = .ok (.iinc 3 1, 3) := by decide +kernel
theorem dX8_does_96 : decode cX8_does 96 = .ok (.goto (-45), 3) := by decide +kernel
theorem dX8_does_99 : decode cX8_does 99 = .ok (.iload_n 2, 1) := by decide +kernel
theorem dX8_does_100 : decode cX8_does 100 = .ok (.ireturn, 1) := by decide +kernel
theorem dX8_back_0 : decode cX8_back 0 = .ok (.aload_n 0, 1) := by decide +kernel
theorem dX8_back_1 : decode cX8_back 1 = .ok (.getfield 22, 3) := by decide +kernel
theorem dX8_back_4 : decode cX8_back 4 = .ok (.getfield 192, 3) := by decide +kernel
theorem dX8_back_7 : decode cX8_back 7 = .ok (.ifCond .ne 8, 3) := by decide +kernel
theorem dX8_back_10 : decode cX8_back 10 = .ok (.aload_n 0, 1) := by decide +kernel
theorem dX8_back_11 : decode cX8_back 11 = .ok (.invokevirtual 138, 3) := by decide +kernel
theorem dX8_back_14 : decode cX8_back 14 = .ok (.ireturn, 1) := by decide +kernel
theorem dX8_back_15 : decode cX8_back 15 = .ok (.aload_n 0, 1) := by decide +kernel
theorem dX8_back_16 : decode cX8_back 16 = .ok (.getfield 22, 3) := by decide +kernel
theorem dX8_back_19 : decode cX8_back 19 = .ok (.aload_n 0, 1) := by decide +kernel
theorem dX8_back_20 : decode cX8_back 20 = .ok (.getfield 13, 3) := by decide +kernel
theorem dX8_back_23 : decode cX8_back 23 = .ok (.invokevirtual 195, 3) := by decide +kernel
theorem dX8_back_26 : decode cX8_back 26 = .ok (.aload_n 0, 1) := by decide +kernel
theorem dX8_back_27 : decode cX8_back 27 = .ok (.getfield 22, 3) := by decide +kernel
theorem dX8_back_30 : decode cX8_back 30 = .ok (.getfield 192, 3) := by decide +kernel
theorem dX8_back_33 : decode cX8_back 33 = .ok (.ireturn, 1) := by decide +kernel
theorem dX8_told_0 : decode cX8_told 0 = .ok (.iload_n 1, 1) := by decide +kernel
theorem dX8_told_1 : decode cX8_told 1 = .ok (.iconst 0, 1) := by decide +kernel
theorem dX8_told_2 : decode cX8_told 2 = .ok (.iconst 5, 1) := by decide +kernel
theorem dX8_told_3 : decode cX8_told 3 = .ok (.invokestatic 73, 3) := by decide +kernel
theorem dX8_told_6 : decode cX8_told 6 = .ok (.ifCond .eq 11, 3) := by decide +kernel
theorem dX8_told_9 : decode cX8_told 9 = .ok (.aload_n 0, 1) := by decide +kernel
theorem dX8_told_10 : decode cX8_told 10 = .ok (.iload_n 1, 1) := by decide +kernel
theorem dX8_told_11 : decode cX8_told 11 = .ok (.invokevirtual 198, 3) := by decide +kernel
theorem dX8_told_14 : decode cX8_told 14 = .ok (.goto 7, 3) := by decide +kernel
theorem dX8_told_17 : decode cX8_told 17 = .ok (.aload_n 0, 1) := by decide +kernel
theorem dX8_told_18 : decode cX8_told 18 = .ok (.invokevirtual 77, 3) := by decide +kernel
theorem dX8_told_21 : decode cX8_told 21 = .ok (.ireturn, 1) := by decide +kernel
theorem dX8_digest_0 : decode cX8_digest 0 = .ok (.ldc2_w 201, 3) := by decide +kernel
theorem dX8_digest_3 : decode cX8_digest 3 = .ok (.lstore_n 1, 1) := by decide +kernel
theorem dX8_digest_4 : decode cX8_digest 4 = .ok (.iconst 0, 1) := by decide +kernel
theorem dX8_digest_5 : decode cX8_digest 5 = .ok (.istore_n 3, 1) := by decide +kernel
theorem dX8_digest_6 : decode cX8_digest 6 = .ok (.iload_n 3, 1) := by decide +kernel
theorem dX8_digest_7 : decode cX8_digest 7 = .ok (.iconst 5, 1) := by decide +kernel
theorem dX8_digest_8 : decode cX8_digest 8 = .ok (.if_icmp .gt 22, 3) := by decide +kernel
theorem dX8_digest_11 : decode cX8_digest 11 = .ok (.ldc2_w 203, 3) := by decide +kernel
theorem dX8_digest_14 : decode cX8_digest 14 = .ok (.lload_n 1, 1) := by decide +kernel
theorem dX8_digest_15 : decode cX8_digest 15 = .ok (.lmul, 1) := by decide +kernel
theorem dX8_digest_16 : decode cX8_digest 16 = .ok (.aload_n 0, 1) := by decide +kernel
theorem dX8_digest_17 : decode cX8_digest 17 = .ok (.iload_n 3, 1) := by decide +kernel
theorem dX8_digest_18 : decode cX8_digest 18 = .ok (.invokevirtual 198, 3) := by decide +kernel
theorem dX8_digest_21 : decode cX8_digest 21 = .ok (.i2l, 1) := by decide +kernel
theorem dX8_digest_22 : decode cX8_digest 22 = .ok (.ladd, 1) := by decide +kernel
theorem dX8_digest_23 : decode cX8_digest 23 = .ok (.lstore_n 1, 1) := by decide +kernel
theorem dX8_digest_24 : decode cX8_digest 24 = .ok (.iinc 3 1, 3) := by decide +kernel
theorem dX8_digest_27 : decode cX8_digest 27 = .ok (.goto (-21), 3) := by decide +kernel
theorem dX8_digest_30 : decode cX8_digest 30 = .ok (.aload_n 0, 1) := by decide +kernel
theorem dX8_digest_31 : decode cX8_digest 31 = .ok (.getfield 13, 3) := by decide +kernel
theorem dX8_digest_34 : decode cX8_digest 34 = .ok (.lload_n 1, 1) := by decide +kernel
theorem dX8_digest_35 : decode cX8_digest 35 = .ok (.invokevirtual 205, 3) := by decide +kernel
theorem dX8_digest_38 : decode cX8_digest 38 = .ok (.lreturn, 1) := by decide +kernel
theorem dX8_refusedBad_0 : decode cX8_refusedBad 0 = .ok (.aload_n 0, 1) := by decide +kernel
theorem dX8_refusedBad_1 : decode cX8_refusedBad 1 = .ok (.dup, 1) := by decide +kernel
theorem dX8_refusedBad_2 : decode cX8_refusedBad 2 = .ok (.getfield 209, 3) := by decide +kernel
theorem dX8_refusedBad_5 : decode cX8_refusedBad 5 = .ok (.iconst 1, 1) := by decide +kernel
theorem dX8_refusedBad_6 : decode cX8_refusedBad 6 = .ok (.iadd, 1) := by decide +kernel
theorem dX8_refusedBad_7 : decode cX8_refusedBad 7 = .ok (.putfield 209, 3) := by decide +kernel
theorem dX8_refusedBad_10 : decode cX8_refusedBad 10 = .ok (.bipush (-2), 2) := by decide +kernel
theorem dX8_refusedBad_12 : decode cX8_refusedBad 12 = .ok (.ireturn, 1) := by decide +kernel
theorem dX8_refusedNo_0 : decode cX8_refusedNo 0 = .ok (.aload_n 0, 1) := by decide +kernel
theorem dX8_refusedNo_1 : decode cX8_refusedNo 1 = .ok (.dup, 1) := by decide +kernel
theorem dX8_refusedNo_2 : decode cX8_refusedNo 2 = .ok (.getfield 212, 3) := by decide +kernel
theorem dX8_refusedNo_5 : decode cX8_refusedNo 5 = .ok (.iconst 1, 1) := by decide +kernel
theorem dX8_refusedNo_6 : decode cX8_refusedNo 6 = .ok (.iadd, 1) := by decide +kernel
theorem dX8_refusedNo_7 : decode cX8_refusedNo 7 = .ok (.putfield 212, 3) := by decide +kernel
theorem dX8_refusedNo_10 : decode cX8_refusedNo 10 = .ok (.bipush (-3), 2) := by decide +kernel
theorem dX8_refusedNo_12 : decode cX8_refusedNo 12 = .ok (.ireturn, 1) := by decide +kernel
theorem dX8_refusedFull_0 : decode cX8_refusedFull 0 = .ok (.aload_n 0, 1) := by decide +kernel
theorem dX8_refusedFull_1 : decode cX8_refusedFull 1 = .ok (.dup, 1) := by decide +kernel
theorem dX8_refusedFull_2 : decode cX8_refusedFull 2 = .ok (.getfield 215, 3) := by decide +kernel
theorem dX8_refusedFull_5 : decode cX8_refusedFull 5 = .ok (.iconst 1, 1) := by decide +kernel
theorem dX8_refusedFull_6 : decode cX8_refusedFull 6 = .ok (.iadd, 1) := by decide +kernel
theorem dX8_refusedFull_7 : decode cX8_refusedFull 7 = .ok (.putfield 215, 3) := by decide +kernel
theorem dX8_refusedFull_10 : decode cX8_refusedFull 10 = .ok (.bipush (-4), 2) := by decide +kernel
theorem dX8_refusedFull_12 : decode cX8_refusedFull 12 = .ok (.ireturn, 1) := by decide +kernel
theorem dX8_tally_0 : decode cX8_tally 0 = .ok (.iload_n 1, 1) := by decide +kernel
theorem dX8_tally_1 : decode cX8_tally 1 = .ok (.tableswitch 66 0 4 #[35, 40, 45, 50, 58], 35) := by decide +kernel
theorem dX8_tally_36 : decode cX8_tally 36 = .ok (.aload_n 0, 1) := by decide +kernel
theorem dX8_tally_37 : decode cX8_tally 37 = .ok (.getfield 209, 3) := by decide +kernel
theorem dX8_tally_40 : decode cX8_tally 40 = .ok (.ireturn, 1) := by decide +kernel
theorem dX8_tally_41 : decode cX8_tally 41 = .ok (.aload_n 0, 1) := by decide +kernel
theorem dX8_tally_42 : decode cX8_tally 42 = .ok (.getfield 212, 3) := by decide +kernel
theorem dX8_tally_45 : decode cX8_tally 45 = .ok (.ireturn, 1) := by decide +kernel
theorem dX8_tally_46 : decode cX8_tally 46 = .ok (.aload_n 0, 1) := by decide +kernel
theorem dX8_tally_47 : decode cX8_tally 47 = .ok (.getfield 215, 3) := by decide +kernel
theorem dX8_tally_50 : decode cX8_tally 50 = .ok (.ireturn, 1) := by decide +kernel
theorem dX8_tally_51 : decode cX8_tally 51 = .ok (.aload_n 0, 1) := by decide +kernel
theorem dX8_tally_52 : decode cX8_tally 52 = .ok (.getfield 61, 3) := by decide +kernel
theorem dX8_tally_55 : decode cX8_tally 55 = .ok (.getfield 173, 3) := by decide +kernel
theorem dX8_tally_58 : decode cX8_tally 58 = .ok (.ireturn, 1) := by decide +kernel
theorem dX8_tally_59 : decode cX8_tally 59 = .ok (.aload_n 0, 1) := by decide +kernel
theorem dX8_tally_60 : decode cX8_tally 60 = .ok (.getfield 13, 3) := by decide +kernel
theorem dX8_tally_63 : decode cX8_tally 63 = .ok (.getfield 124, 3) := by decide +kernel
theorem dX8_tally_66 : decode cX8_tally 66 = .ok (.ireturn, 1) := by decide +kernel
theorem dX8_tally_67 : decode cX8_tally 67 = .ok (.aload_n 0, 1) := by decide +kernel
theorem dX8_tally_68 : decode cX8_tally 68 = .ok (.getfield 22, 3) := by decide +kernel
theorem dX8_tally_71 : decode cX8_tally 71 = .ok (.getfield 192, 3) := by decide +kernel
theorem dX8_tally_74 : decode cX8_tally 74 = .ok (.ireturn, 1) := by decide +kernel
theorem dX8_isWithin_0 : decode cX8_isWithin 0 = .ok (.iload_n 0, 1) := by decide +kernel
theorem dX8_isWithin_1 : decode cX8_isWithin 1 = .ok (.iload_n 1, 1) := by decide +kernel
theorem dX8_isWithin_2 : decode cX8_isWithin 2 = .ok (.if_icmp .lt 12, 3) := by decide +kernel
theorem dX8_isWithin_5 : decode cX8_isWithin 5 = .ok (.iload_n 0, 1) := by decide +kernel
theorem dX8_isWithin_6 : decode cX8_isWithin 6 = .ok (.iload_n 2, 1) := by decide +kernel
theorem dX8_isWithin_7 : decode cX8_isWithin 7 = .ok (.if_icmp .gt 7, 3) := by decide +kernel
theorem dX8_isWithin_10 : decode cX8_isWithin 10 = .ok (.iconst 1, 1) := by decide +kernel
theorem dX8_isWithin_11 : decode cX8_isWithin 11 = .ok (.goto 4, 3) := by decide +kernel
theorem dX8_isWithin_14 : decode cX8_isWithin 14 = .ok (.iconst 0, 1) := by decide +kernel
theorem dX8_isWithin_15 : decode cX8_isWithin 15 = .ok (.ireturn, 1) := by decide +kernel
theorem dX8_isPicture_0 : decode cX8_isPicture 0 = .ok (.iload_n 0, 1) := by decide +kernel
theorem dX8_isPicture_1 : decode cX8_isPicture 1 = .ok (.iconst 0, 1) := by decide +kernel
theorem dX8_isPicture_2 : decode cX8_isPicture 2 = .ok (.iconst 2, 1) := by decide +kernel
theorem dX8_isPicture_3 : decode cX8_isPicture 3 = .ok (.invokestatic 73, 3) := by decide +kernel
theorem dX8_isPicture_6 : decode cX8_isPicture 6 = .ok (.ireturn, 1) := by decide +kernel
theorem dX8_isInPicture_0 : decode cX8_isInPicture 0 = .ok (.iload_n 0, 1) := by decide +kernel
theorem dX8_isInPicture_1 : decode cX8_isInPicture 1 = .ok (.iconst 0, 1) := by decide +kernel
theorem dX8_isInPicture_2 : decode cX8_isInPicture 2 = .ok (.bipush 31, 2) := by decide +kernel
theorem dX8_isInPicture_4 : decode cX8_isInPicture 4 = .ok (.invokestatic 73, 3) := by decide +kernel
theorem dX8_isInPicture_7 : decode cX8_isInPicture 7 = .ok (.ifCond .eq 17, 3) := by decide +kernel
theorem dX8_isInPicture_10 : decode cX8_isInPicture 10 = .ok (.iload_n 1, 1) := by decide +kernel
theorem dX8_isInPicture_11 : decode cX8_isInPicture 11 = .ok (.iconst 0, 1) := by decide +kernel
theorem dX8_isInPicture_12 : decode cX8_isInPicture 12 = .ok (.bipush 23, 2) := by decide +kernel
theorem dX8_isInPicture_14 : decode cX8_isInPicture 14 = .ok (.invokestatic 73, 3) := by decide +kernel
theorem dX8_isInPicture_17 : decode cX8_isInPicture 17 = .ok (.ifCond .eq 7, 3) := by decide +kernel
theorem dX8_isInPicture_20 : decode cX8_isInPicture 20 = .ok (.iconst 1, 1) := by decide +kernel
theorem dX8_isInPicture_21 : decode cX8_isInPicture 21 = .ok (.goto 4, 3) := by decide +kernel
theorem dX8_isInPicture_24 : decode cX8_isInPicture 24 = .ok (.iconst 0, 1) := by decide +kernel
theorem dX8_isInPicture_25 : decode cX8_isInPicture 25 = .ok (.ireturn, 1) := by decide +kernel
theorem dX8_isPlace_0 : decode cX8_isPlace 0 = .ok (.iload_n 0, 1) := by decide +kernel
theorem dX8_isPlace_1 : decode cX8_isPlace 1 = .ok (.bipush (-64), 2) := by decide +kernel
theorem dX8_isPlace_3 : decode cX8_isPlace 3 = .ok (.bipush 63, 2) := by decide +kernel
theorem dX8_isPlace_5 : decode cX8_isPlace 5 = .ok (.invokestatic 73, 3) := by decide +kernel
theorem dX8_isPlace_8 : decode cX8_isPlace 8 = .ok (.ireturn, 1) := by decide +kernel
theorem dX8_isSize_0 : decode cX8_isSize 0 = .ok (.iload_n 0, 1) := by decide +kernel
theorem dX8_isSize_1 : decode cX8_isSize 1 = .ok (.iconst 1, 1) := by decide +kernel
theorem dX8_isSize_2 : decode cX8_isSize 2 = .ok (.bipush 64, 2) := by decide +kernel
theorem dX8_isSize_4 : decode cX8_isSize 4 = .ok (.invokestatic 73, 3) := by decide +kernel
theorem dX8_isSize_7 : decode cX8_isSize 7 = .ok (.ireturn, 1) := by decide +kernel
theorem dX8_shifted_0 : decode cX8_shifted 0 = .ok (.iload_n 1, 1) := by decide +kernel
theorem dX8_shifted_1 : decode cX8_shifted 1 = .ok (.bipush (-32), 2) := by decide +kernel
theorem dX8_shifted_3 : decode cX8_shifted 3 = .ok (.if_icmp .le 9, 3) := by decide +kernel
theorem dX8_shifted_6 : decode cX8_shifted 6 = .ok (.iload_n 1, 1) := by decide +kernel
theorem dX8_shifted_7 : decode cX8_shifted 7 = .ok (.bipush 32, 2) := by decide +kernel
theorem dX8_shifted_9 : decode cX8_shifted 9 = .ok (.if_icmp .lt 5, 3) := by decide +kernel
theorem dX8_shifted_12 : decode cX8_shifted 12 = .ok (.iconst 0, 1) := by decide +kernel
theorem dX8_shifted_13 : decode cX8_shifted 13 = .ok (.ireturn, 1) := by decide +kernel
theorem dX8_shifted_14 : decode cX8_shifted 14 = .ok (.iload_n 1, 1) := by decide +kernel
theorem dX8_shifted_15 : decode cX8_shifted 15 = .ok (.ifCond .lt 9, 3) := by decide +kernel
theorem dX8_shifted_18 : decode cX8_shifted 18 = .ok (.iload_n 0, 1) := by decide +kernel
theorem dX8_shifted_19 : decode cX8_shifted 19 = .ok (.iload_n 1, 1) := by decide +kernel
theorem dX8_shifted_20 : decode cX8_shifted 20 = .ok (.iushr, 1) := by decide +kernel
theorem dX8_shifted_21 : decode cX8_shifted 21 = .ok (.goto 7, 3) := by decide +kernel
theorem dX8_shifted_24 : decode cX8_shifted 24 = .ok (.iload_n 0, 1) := by decide +kernel
theorem dX8_shifted_25 : decode cX8_shifted 25 = .ok (.iload_n 1, 1) := by decide +kernel
theorem dX8_shifted_26 : decode cX8_shifted 26 = .ok (.ineg, 1) := by decide +kernel
theorem dX8_shifted_27 : decode cX8_shifted 27 = .ok (.ishl, 1) := by decide +kernel
theorem dX8_shifted_28 : decode cX8_shifted 28 = .ok (.ireturn, 1) := by decide +kernel
theorem dX8_dotMask_0 : decode cX8_dotMask 0 = .ok (.ldc 218, 2) := by decide +kernel
theorem dX8_dotMask_2 : decode cX8_dotMask 2 = .ok (.iload_n 0, 1) := by decide +kernel
theorem dX8_dotMask_3 : decode cX8_dotMask 3 = .ok (.invokestatic 219, 3) := by decide +kernel
theorem dX8_dotMask_6 : decode cX8_dotMask 6 = .ok (.ireturn, 1) := by decide +kernel
theorem dX8_spanMask_0 : decode cX8_spanMask 0 = .ok (.iload_n 0, 1) := by decide +kernel
theorem dX8_spanMask_1 : decode cX8_spanMask 1 = .ok (.iconst 0, 1) := by decide +kernel
theorem dX8_spanMask_2 : decode cX8_spanMask 2 = .ok (.invokestatic 222, 3) := by decide +kernel
theorem dX8_spanMask_5 : decode cX8_spanMask 5 = .ok (.istore_n 2, 1) := by decide +kernel
theorem dX8_spanMask_6 : decode cX8_spanMask 6 = .ok (.iload_n 0, 1) := by decide +kernel
theorem dX8_spanMask_7 : decode cX8_spanMask 7 = .ok (.iload_n 1, 1) := by decide +kernel
theorem dX8_spanMask_8 : decode cX8_spanMask 8 = .ok (.iadd, 1) := by decide +kernel
theorem dX8_spanMask_9 : decode cX8_spanMask 9 = .ok (.bipush 32, 2) := by decide +kernel
theorem dX8_spanMask_11 : decode cX8_spanMask 11 = .ok (.invokestatic 227, 3) := by decide +kernel
theorem dX8_spanMask_14 : decode cX8_spanMask 14 = .ok (.istore_n 3, 1) := by decide +kernel
theorem dX8_spanMask_15 : decode cX8_spanMask 15 = .ok (.iload_n 2, 1) := by decide +kernel
theorem dX8_spanMask_16 : decode cX8_spanMask 16 = .ok (.iload_n 3, 1) := by decide +kernel
theorem dX8_spanMask_17 : decode cX8_spanMask 17 = .ok (.if_icmp .ge 19, 3) := by decide +kernel
theorem dX8_spanMask_20 : decode cX8_spanMask 20 = .ok (.iconst (-1), 1) := by decide +kernel
theorem dX8_spanMask_21 : decode cX8_spanMask 21 = .ok (.iload_n 2, 1) := by decide +kernel
theorem dX8_spanMask_22 : decode cX8_spanMask 22 = .ok (.invokestatic 219, 3) := by decide +kernel
theorem dX8_spanMask_25 : decode cX8_spanMask 25 = .ok (.iconst (-1), 1) := by decide +kernel
theorem dX8_spanMask_26 : decode cX8_spanMask 26 = .ok (.iload_n 3, 1) := by decide +kernel
theorem dX8_spanMask_27 : decode cX8_spanMask 27 = .ok (.invokestatic 219, 3) := by decide +kernel
theorem dX8_spanMask_30 : decode cX8_spanMask 30 = .ok (.iconst (-1), 1) := by decide +kernel
theorem dX8_spanMask_31 : decode cX8_spanMask 31 = .ok (.ixor, 1) := by decide +kernel
theorem dX8_spanMask_32 : decode cX8_spanMask 32 = .ok (.iand, 1) := by decide +kernel
theorem dX8_spanMask_33 : decode cX8_spanMask 33 = .ok (.goto 4, 3) := by decide +kernel
theorem dX8_spanMask_36 : decode cX8_spanMask 36 = .ok (.iconst 0, 1) := by decide +kernel
theorem dX8_spanMask_37 : decode cX8_spanMask 37 = .ok (.ireturn, 1) := by decide +kernel
theorem dX8_joinedRow_0 : decode cX8_joinedRow 0 = .ok (.iconst 0, 1) := by decide +kernel
theorem dX8_joinedRow_1 : decode cX8_joinedRow 1 = .ok (.istore 4, 2) := by decide +kernel
theorem dX8_joinedRow_3 : decode cX8_joinedRow 3 = .ok (.iconst 0, 1) := by decide +kernel
theorem dX8_joinedRow_4 : decode cX8_joinedRow 4 = .ok (.istore 5, 2) := by decide +kernel
theorem dX8_joinedRow_6 : decode cX8_joinedRow 6 = .ok (.iload 5, 2) := by decide +kernel
theorem dX8_joinedRow_8 : decode cX8_joinedRow 8 = .ok (.bipush 8, 2) := by decide +kernel
theorem dX8_joinedRow_10 : decode cX8_joinedRow 10 = .ok (.if_icmp .ge 68, 3) := by decide +kernel
theorem dX8_joinedRow_13 : decode cX8_joinedRow 13 = .ok (.iload_n 3, 1) := by decide +kernel
theorem dX8_joinedRow_14 : decode cX8_joinedRow 14 = .ok (.iload 5, 2) := by decide +kernel
theorem dX8_joinedRow_16 : decode cX8_joinedRow 16 = .ok (.ishr, 1) := by decide +kernel
theorem dX8_joinedRow_17 : decode cX8_joinedRow 17 = .ok (.iconst 1, 1) := by decide +kernel
theorem dX8_joinedRow_18 : decode cX8_joinedRow 18 = .ok (.iand, 1) := by decide +kernel
theorem dX8_joinedRow_19 : decode cX8_joinedRow 19 = .ok (.iconst 1, 1) := by decide +kernel
theorem dX8_joinedRow_20 : decode cX8_joinedRow 20 = .ok (.if_icmp .ne 52, 3) := by decide +kernel
theorem dX8_joinedRow_23 : decode cX8_joinedRow 23 = .ok (.iload 4, 2) := by decide +kernel
theorem dX8_joinedRow_25 : decode cX8_joinedRow 25 = .ok (.iload 5, 2) := by decide +kernel
theorem dX8_joinedRow_27 : decode cX8_joinedRow 27 = .ok (.iconst 4, 1) := by decide +kernel
theorem dX8_joinedRow_28 : decode cX8_joinedRow 28 = .ok (.iand, 1) := by decide +kernel
theorem dX8_joinedRow_29 : decode cX8_joinedRow 29 = .ok (.ifCond .eq 7, 3) := by decide +kernel
theorem dX8_joinedRow_32 : decode cX8_joinedRow 32 = .ok (.iload_n 0, 1) := by decide +kernel
theorem dX8_joinedRow_33 : decode cX8_joinedRow 33 = .ok (.goto 6, 3) := by decide +kernel
theorem dX8_joinedRow_36 : decode cX8_joinedRow 36 = .ok (.iload_n 0, 1) := by decide +kernel
theorem dX8_joinedRow_37 : decode cX8_joinedRow 37 = .ok (.iconst (-1), 1) := by decide +kernel
theorem dX8_joinedRow_38 : decode cX8_joinedRow 38 = .ok (.ixor, 1) := by decide +kernel
theorem dX8_joinedRow_39 : decode cX8_joinedRow 39 = .ok (.iload 5, 2) := by decide +kernel
theorem dX8_joinedRow_41 : decode cX8_joinedRow 41 = .ok (.iconst 2, 1) := by decide +kernel
theorem dX8_joinedRow_42 : decode cX8_joinedRow 42 = .ok (.iand, 1) := by decide +kernel
theorem dX8_joinedRow_43 : decode cX8_joinedRow 43 = .ok (.ifCond .eq 7, 3) := by decide +kernel
theorem dX8_joinedRow_46 : decode cX8_joinedRow 46 = .ok (.iload_n 1, 1) := by decide +kernel
theorem dX8_joinedRow_47 : decode cX8_joinedRow 47 = .ok (.goto 6, 3) := by decide +kernel
theorem dX8_joinedRow_50 : decode cX8_joinedRow 50 = .ok (.iload_n 1, 1) := by decide +kernel
theorem dX8_joinedRow_51 : decode cX8_joinedRow 51 = .ok (.iconst (-1), 1) := by decide +kernel
theorem dX8_joinedRow_52 : decode cX8_joinedRow 52 = .ok (.ixor, 1) := by decide +kernel
theorem dX8_joinedRow_53 : decode cX8_joinedRow 53 = .ok (.iand, 1) := by decide +kernel
theorem dX8_joinedRow_54 : decode cX8_joinedRow 54 = .ok (.iload 5, 2) := by decide +kernel
theorem dX8_joinedRow_56 : decode cX8_joinedRow 56 = .ok (.iconst 1, 1) := by decide +kernel
theorem dX8_joinedRow_57 : decode cX8_joinedRow 57 = .ok (.iand, 1) := by decide +kernel
theorem dX8_joinedRow_58 : decode cX8_joinedRow 58 = .ok (.ifCond .eq 7, 3) := by decide +kernel
theorem dX8_joinedRow_61 : decode cX8_joinedRow 61 = .ok (.iload_n 2, 1) := by decide +kernel
theorem dX8_joinedRow_62 : decode cX8_joinedRow 62 = .ok (.goto 6, 3) := by decide +kernel
theorem dX8_joinedRow_65 : decode cX8_joinedRow 65 = .ok (.iload_n 2, 1) := by decide +kernel
theorem dX8_joinedRow_66 : decode cX8_joinedRow 66 = .ok (.iconst (-1), 1) := by decide +kernel
theorem dX8_joinedRow_67 : decode cX8_joinedRow 67 = .ok (.ixor, 1) := by decide +kernel
theorem dX8_joinedRow_68 : decode cX8_joinedRow 68 = .ok (.iand, 1) := by decide +kernel
theorem dX8_joinedRow_69 : decode cX8_joinedRow 69 = .ok (.ior, 1) := by decide +kernel
theorem dX8_joinedRow_70 : decode cX8_joinedRow 70 = .ok (.istore 4, 2) := by decide +kernel
theorem dX8_joinedRow_72 : decode cX8_joinedRow 72 = .ok (.iinc 5 1, 3) := by decide +kernel
theorem dX8_joinedRow_75 : decode cX8_joinedRow 75 = .ok (.goto (-69), 3) := by decide +kernel
theorem dX8_joinedRow_78 : decode cX8_joinedRow 78 = .ok (.iload 4, 2) := by decide +kernel
theorem dX8_joinedRow_80 : decode cX8_joinedRow 80 = .ok (.ireturn, 1) := by decide +kernel
theorem dJ6_bitCount_0f7a4_0 : decode cJ6_bitCount_0f7a4 0 = .ok (.iload_n 0, 1) := by decide +kernel
theorem dJ6_bitCount_0f7a4_1 : decode cJ6_bitCount_0f7a4 1 = .ok (.iload_n 0, 1) := by decide +kernel
theorem dJ6_bitCount_0f7a4_2 : decode cJ6_bitCount_0f7a4 2 = .ok (.iconst 1, 1) := by decide +kernel
theorem dJ6_bitCount_0f7a4_3 : decode cJ6_bitCount_0f7a4 3 = .ok (.iushr, 1) := by decide +kernel
theorem dJ6_bitCount_0f7a4_4 : decode cJ6_bitCount_0f7a4 4 = .ok (.ldc_w 265, 3) := by decide +kernel
theorem dJ6_bitCount_0f7a4_7 : decode cJ6_bitCount_0f7a4 7 = .ok (.iand, 1) := by decide +kernel
theorem dJ6_bitCount_0f7a4_8 : decode cJ6_bitCount_0f7a4 8 = .ok (.isub, 1) := by decide +kernel
theorem dJ6_bitCount_0f7a4_9 : decode cJ6_bitCount_0f7a4 9 = .ok (.istore_n 0, 1) := by decide +kernel
theorem dJ6_bitCount_0f7a4_10 : decode cJ6_bitCount_0f7a4 10 = .ok (.iload_n 0, 1) := by decide +kernel
theorem dJ6_bitCount_0f7a4_11 : decode cJ6_bitCount_0f7a4 11 = .ok (.ldc_w 266, 3) := by decide +kernel
theorem dJ6_bitCount_0f7a4_14 : decode cJ6_bitCount_0f7a4 14 = .ok (.iand, 1) := by decide +kernel
theorem dJ6_bitCount_0f7a4_15 : decode cJ6_bitCount_0f7a4 15 = .ok (.iload_n 0, 1) := by decide +kernel
theorem dJ6_bitCount_0f7a4_16 : decode cJ6_bitCount_0f7a4 16 = .ok (.iconst 2, 1) := by decide +kernel
theorem dJ6_bitCount_0f7a4_17 : decode cJ6_bitCount_0f7a4 17 = .ok (.iushr, 1) := by decide +kernel
theorem dJ6_bitCount_0f7a4_18 : decode cJ6_bitCount_0f7a4 18 = .ok (.ldc_w 266, 3) := by decide +kernel
theorem dJ6_bitCount_0f7a4_21 : decode cJ6_bitCount_0f7a4 21 = .ok (.iand, 1) := by decide +kernel
theorem dJ6_bitCount_0f7a4_22 : decode cJ6_bitCount_0f7a4 22 = .ok (.iadd, 1) := by decide +kernel
theorem dJ6_bitCount_0f7a4_23 : decode cJ6_bitCount_0f7a4 23 = .ok (.istore_n 0, 1) := by decide +kernel
theorem dJ6_bitCount_0f7a4_24 : decode cJ6_bitCount_0f7a4 24 = .ok (.iload_n 0, 1) := by decide +kernel
theorem dJ6_bitCount_0f7a4_25 : decode cJ6_bitCount_0f7a4 25 = .ok (.iload_n 0, 1) := by decide +kernel
theorem dJ6_bitCount_0f7a4_26 : decode cJ6_bitCount_0f7a4 26 = .ok (.iconst 4, 1) := by decide +kernel
theorem dJ6_bitCount_0f7a4_27 : decode cJ6_bitCount_0f7a4 27 = .ok (.iushr, 1) := by decide +kernel
theorem dJ6_bitCount_0f7a4_28 : decode cJ6_bitCount_0f7a4 28 = .ok (.iadd, 1) := by decide +kernel
theorem dJ6_bitCount_0f7a4_29 : decode cJ6_bitCount_0f7a4 29 = .ok (.ldc_w 267, 3) := by decide +kernel
theorem dJ6_bitCount_0f7a4_32 : decode cJ6_bitCount_0f7a4 32 = .ok (.iand, 1) := by decide +kernel
theorem dJ6_bitCount_0f7a4_33 : decode cJ6_bitCount_0f7a4 33 = .ok (.istore_n 0, 1) := by decide +kernel
theorem dJ6_bitCount_0f7a4_34 : decode cJ6_bitCount_0f7a4 34 = .ok (.iload_n 0, 1) := by decide +kernel
theorem dJ6_bitCount_0f7a4_35 : decode cJ6_bitCount_0f7a4 35 = .ok (.iload_n 0, 1) := by decide +kernel
theorem dJ6_bitCount_0f7a4_36 : decode cJ6_bitCount_0f7a4 36 = .ok (.bipush 8, 2) := by decide +kernel
theorem dJ6_bitCount_0f7a4_38 : decode cJ6_bitCount_0f7a4 38 = .ok (.iushr, 1) := by decide +kernel
theorem dJ6_bitCount_0f7a4_39 : decode cJ6_bitCount_0f7a4 39 = .ok (.iadd, 1) := by decide +kernel
theorem dJ6_bitCount_0f7a4_40 : decode cJ6_bitCount_0f7a4 40 = .ok (.istore_n 0, 1) := by decide +kernel
theorem dJ6_bitCount_0f7a4_41 : decode cJ6_bitCount_0f7a4 41 = .ok (.iload_n 0, 1) := by decide +kernel
theorem dJ6_bitCount_0f7a4_42 : decode cJ6_bitCount_0f7a4 42 = .ok (.iload_n 0, 1) := by decide +kernel
theorem dJ6_bitCount_0f7a4_43 : decode cJ6_bitCount_0f7a4 43 = .ok (.bipush 16, 2) := by decide +kernel
theorem dJ6_bitCount_0f7a4_45 : decode cJ6_bitCount_0f7a4 45 = .ok (.iushr, 1) := by decide +kernel
theorem dJ6_bitCount_0f7a4_46 : decode cJ6_bitCount_0f7a4 46 = .ok (.iadd, 1) := by decide +kernel
theorem dJ6_bitCount_0f7a4_47 : decode cJ6_bitCount_0f7a4 47 = .ok (.istore_n 0, 1) := by decide +kernel
theorem dJ6_bitCount_0f7a4_48 : decode cJ6_bitCount_0f7a4 48 = .ok (.iload_n 0, 1) := by decide +kernel
theorem dJ6_bitCount_0f7a4_49 : decode cJ6_bitCount_0f7a4 49 = .ok (.bipush 63, 2) := by decide +kernel
theorem dJ6_bitCount_0f7a4_51 : decode cJ6_bitCount_0f7a4 51 = .ok (.iand, 1) := by decide +kernel
theorem dJ6_bitCount_0f7a4_52 : decode cJ6_bitCount_0f7a4 52 = .ok (.ireturn, 1) := by decide +kernel
theorem dJ9_floorDiv_7cf53_0 : decode cJ9_floorDiv_7cf53 0 = .ok (.iload_n 0, 1) := by decide +kernel
theorem dJ9_floorDiv_7cf53_1 : decode cJ9_floorDiv_7cf53 1 = .ok (.iload_n 1, 1) := by decide +kernel
theorem dJ9_floorDiv_7cf53_2 : decode cJ9_floorDiv_7cf53 2 = .ok (.idiv, 1) := by decide +kernel
theorem dJ9_floorDiv_7cf53_3 : decode cJ9_floorDiv_7cf53 3 = .ok (.istore_n 2, 1) := by decide +kernel
theorem dJ9_floorDiv_7cf53_4 : decode cJ9_floorDiv_7cf53 4 = .ok (.iload_n 0, 1) := by decide +kernel
theorem dJ9_floorDiv_7cf53_5 : decode cJ9_floorDiv_7cf53 5 = .ok (.iload_n 1, 1) := by decide +kernel
theorem dJ9_floorDiv_7cf53_6 : decode cJ9_floorDiv_7cf53 6 = .ok (.ixor, 1) := by decide +kernel
theorem dJ9_floorDiv_7cf53_7 : decode cJ9_floorDiv_7cf53 7 = .ok (.ifCond .ge 14, 3) := by decide +kernel
theorem dJ9_floorDiv_7cf53_10 : decode cJ9_floorDiv_7cf53 10 = .ok (.iload_n 2, 1) := by decide +kernel
theorem dJ9_floorDiv_7cf53_11 : decode cJ9_floorDiv_7cf53 11 = .ok (.iload_n 1, 1) := by decide +kernel
theorem dJ9_floorDiv_7cf53_12 : decode cJ9_floorDiv_7cf53 12 = .ok (.imul, 1) := by decide +kernel
theorem dJ9_floorDiv_7cf53_13 : decode cJ9_floorDiv_7cf53 13 = .ok (.iload_n 0, 1) := by decide +kernel
theorem dJ9_floorDiv_7cf53_14 : decode cJ9_floorDiv_7cf53 14 = .ok (.if_icmp .eq 7, 3) := by decide +kernel
theorem dJ9_floorDiv_7cf53_17 : decode cJ9_floorDiv_7cf53 17 = .ok (.iload_n 2, 1) := by decide +kernel
theorem dJ9_floorDiv_7cf53_18 : decode cJ9_floorDiv_7cf53 18 = .ok (.iconst 1, 1) := by decide +kernel
theorem dJ9_floorDiv_7cf53_19 : decode cJ9_floorDiv_7cf53 19 = .ok (.isub, 1) := by decide +kernel
theorem dJ9_floorDiv_7cf53_20 : decode cJ9_floorDiv_7cf53 20 = .ok (.ireturn, 1) := by decide +kernel
theorem dJ9_floorDiv_7cf53_21 : decode cJ9_floorDiv_7cf53 21 = .ok (.iload_n 2, 1) := by decide +kernel
theorem dJ9_floorDiv_7cf53_22 : decode cJ9_floorDiv_7cf53 22 = .ok (.ireturn, 1) := by decide +kernel
theorem dJ9_floorMod_7cf53_0 : decode cJ9_floorMod_7cf53 0 = .ok (.iload_n 0, 1) := by decide +kernel
theorem dJ9_floorMod_7cf53_1 : decode cJ9_floorMod_7cf53 1 = .ok (.iload_n 1, 1) := by decide +kernel
theorem dJ9_floorMod_7cf53_2 : decode cJ9_floorMod_7cf53 2 = .ok (.irem, 1) := by decide +kernel
theorem dJ9_floorMod_7cf53_3 : decode cJ9_floorMod_7cf53 3 = .ok (.istore_n 2, 1) := by decide +kernel
theorem dJ9_floorMod_7cf53_4 : decode cJ9_floorMod_7cf53 4 = .ok (.iload_n 0, 1) := by decide +kernel
theorem dJ9_floorMod_7cf53_5 : decode cJ9_floorMod_7cf53 5 = .ok (.iload_n 1, 1) := by decide +kernel
theorem dJ9_floorMod_7cf53_6 : decode cJ9_floorMod_7cf53 6 = .ok (.ixor, 1) := by decide +kernel
theorem dJ9_floorMod_7cf53_7 : decode cJ9_floorMod_7cf53 7 = .ok (.ifCond .ge 11, 3) := by decide +kernel
theorem dJ9_floorMod_7cf53_10 : decode cJ9_floorMod_7cf53 10 = .ok (.iload_n 2, 1) := by decide +kernel
theorem dJ9_floorMod_7cf53_11 : decode cJ9_floorMod_7cf53 11 = .ok (.ifCond .eq 7, 3) := by decide +kernel
theorem dJ9_floorMod_7cf53_14 : decode cJ9_floorMod_7cf53 14 = .ok (.iload_n 2, 1) := by decide +kernel
theorem dJ9_floorMod_7cf53_15 : decode cJ9_floorMod_7cf53 15 = .ok (.iload_n 1, 1) := by decide +kernel
theorem dJ9_floorMod_7cf53_16 : decode cJ9_floorMod_7cf53 16 = .ok (.iadd, 1) := by decide +kernel
theorem dJ9_floorMod_7cf53_17 : decode cJ9_floorMod_7cf53 17 = .ok (.ireturn, 1) := by decide +kernel
theorem dJ9_floorMod_7cf53_18 : decode cJ9_floorMod_7cf53 18 = .ok (.iload_n 2, 1) := by decide +kernel
theorem dJ9_floorMod_7cf53_19 : decode cJ9_floorMod_7cf53 19 = .ok (.ireturn, 1) := by decide +kernel
theorem dJ9_abs_0f7a4_0 : decode cJ9_abs_0f7a4 0 = .ok (.iload_n 0, 1) := by decide +kernel
theorem dJ9_abs_0f7a4_1 : decode cJ9_abs_0f7a4 1 = .ok (.ifCond .ge 8, 3) := by decide +kernel
theorem dJ9_abs_0f7a4_4 : decode cJ9_abs_0f7a4 4 = .ok (.iload_n 0, 1) := by decide +kernel
theorem dJ9_abs_0f7a4_5 : decode cJ9_abs_0f7a4 5 = .ok (.ineg, 1) := by decide +kernel
theorem dJ9_abs_0f7a4_6 : decode cJ9_abs_0f7a4 6 = .ok (.goto 4, 3) := by decide +kernel
theorem dJ9_abs_0f7a4_9 : decode cJ9_abs_0f7a4 9 = .ok (.iload_n 0, 1) := by decide +kernel
theorem dJ9_abs_0f7a4_10 : decode cJ9_abs_0f7a4 10 = .ok (.ireturn, 1) := by decide +kernel
theorem dJ9_max_7cf53_0 : decode cJ9_max_7cf53 0 = .ok (.iload_n 0, 1) := by decide +kernel
theorem dJ9_max_7cf53_1 : decode cJ9_max_7cf53 1 = .ok (.iload_n 1, 1) := by decide +kernel
theorem dJ9_max_7cf53_2 : decode cJ9_max_7cf53 2 = .ok (.if_icmp .lt 7, 3) := by decide +kernel
theorem dJ9_max_7cf53_5 : decode cJ9_max_7cf53 5 = .ok (.iload_n 0, 1) := by decide +kernel
theorem dJ9_max_7cf53_6 : decode cJ9_max_7cf53 6 = .ok (.goto 4, 3) := by decide +kernel
theorem dJ9_max_7cf53_9 : decode cJ9_max_7cf53 9 = .ok (.iload_n 1, 1) := by decide +kernel
theorem dJ9_max_7cf53_10 : decode cJ9_max_7cf53 10 = .ok (.ireturn, 1) := by decide +kernel
theorem dJ9_min_7cf53_0 : decode cJ9_min_7cf53 0 = .ok (.iload_n 0, 1) := by decide +kernel
theorem dJ9_min_7cf53_1 : decode cJ9_min_7cf53 1 = .ok (.iload_n 1, 1) := by decide +kernel
theorem dJ9_min_7cf53_2 : decode cJ9_min_7cf53 2 = .ok (.if_icmp .gt 7, 3) := by decide +kernel
theorem dJ9_min_7cf53_5 : decode cJ9_min_7cf53 5 = .ok (.iload_n 0, 1) := by decide +kernel
theorem dJ9_min_7cf53_6 : decode cJ9_min_7cf53 6 = .ok (.goto 4, 3) := by decide +kernel
theorem dJ9_min_7cf53_9 : decode cJ9_min_7cf53 9 = .ok (.iload_n 1, 1) := by decide +kernel
theorem dJ9_min_7cf53_10 : decode cJ9_min_7cf53 10 = .ok (.ireturn, 1) := by decide +kernel
theorem dJ0_length_8abf5_0 : decode cJ0_length_8abf5 0 = .ok (.aload_n 0, 1) := by decide +kernel
theorem dJ0_length_8abf5_1 : decode cJ0_length_8abf5 1 = .ok (.getfield 9, 3) := by decide +kernel
theorem dJ0_length_8abf5_4 : decode cJ0_length_8abf5 4 = .ok (.arraylength, 1) := by decide +kernel
theorem dJ0_length_8abf5_5 : decode cJ0_length_8abf5 5 = .ok (.aload_n 0, 1) := by decide +kernel
theorem dJ0_length_8abf5_6 : decode cJ0_length_8abf5 6 = .ok (.invokevirtual 335, 3) := by decide +kernel
theorem dJ0_length_8abf5_9 : decode cJ0_length_8abf5 9 = .ok (.ishr, 1) := by decide +kernel
theorem dJ0_length_8abf5_10 : decode cJ0_length_8abf5 10 = .ok (.ireturn, 1) := by decide +kernel
theorem dJ0_isEmpty_aae02_0 : decode cJ0_isEmpty_aae02 0 = .ok (.aload_n 0, 1) := by decide +kernel
theorem dJ0_isEmpty_aae02_1 : decode cJ0_isEmpty_aae02 1 = .ok (.getfield 9, 3) := by decide +kernel
theorem dJ0_isEmpty_aae02_4 : decode cJ0_isEmpty_aae02 4 = .ok (.arraylength, 1) := by decide +kernel
theorem dJ0_isEmpty_aae02_5 : decode cJ0_isEmpty_aae02 5 = .ok (.ifCond .ne 7, 3) := by decide +kernel
theorem dJ0_isEmpty_aae02_8 : decode cJ0_isEmpty_aae02 8 = .ok (.iconst 1, 1) := by decide +kernel
theorem dJ0_isEmpty_aae02_9 : decode cJ0_isEmpty_aae02 9 = .ok (.goto 4, 3) := by decide +kernel
theorem dJ0_isEmpty_aae02_12 : decode cJ0_isEmpty_aae02 12 = .ok (.iconst 0, 1) := by decide +kernel
theorem dJ0_isEmpty_aae02_13 : decode cJ0_isEmpty_aae02 13 = .ok (.ireturn, 1) := by decide +kernel
theorem dJ0_charAt_5068e_0 : decode cJ0_charAt_5068e 0 = .ok (.aload_n 0, 1) := by decide +kernel
theorem dJ0_charAt_5068e_1 : decode cJ0_charAt_5068e 1 = .ok (.invokevirtual 492, 3) := by decide +kernel
theorem dJ0_charAt_5068e_4 : decode cJ0_charAt_5068e 4 = .ok (.ifCond .eq 12, 3) := by decide +kernel
theorem dJ0_charAt_5068e_7 : decode cJ0_charAt_5068e 7 = .ok (.aload_n 0, 1) := by decide +kernel
theorem dJ0_charAt_5068e_8 : decode cJ0_charAt_5068e 8 = .ok (.getfield 9, 3) := by decide +kernel
theorem dJ0_charAt_5068e_11 : decode cJ0_charAt_5068e 11 = .ok (.iload_n 1, 1) := by decide +kernel
theorem dJ0_charAt_5068e_12 : decode cJ0_charAt_5068e 12 = .ok (.invokestatic 495, 3) := by decide +kernel
theorem dJ0_charAt_5068e_15 : decode cJ0_charAt_5068e 15 = .ok (.ireturn, 1) := by decide +kernel
theorem dJ0_charAt_5068e_16 : decode cJ0_charAt_5068e 16 = .ok (.aload_n 0, 1) := by decide +kernel
theorem dJ0_charAt_5068e_17 : decode cJ0_charAt_5068e 17 = .ok (.getfield 9, 3) := by decide +kernel
theorem dJ0_charAt_5068e_20 : decode cJ0_charAt_5068e 20 = .ok (.iload_n 1, 1) := by decide +kernel
theorem dJ0_charAt_5068e_21 : decode cJ0_charAt_5068e 21 = .ok (.invokestatic 498, 3) := by decide +kernel
theorem dJ0_charAt_5068e_24 : decode cJ0_charAt_5068e 24 = .ok (.ireturn, 1) := by decide +kernel
theorem dJ0_coder_7d493_0 : decode cJ0_coder_7d493 0 = .ok (.getstatic 38, 3) := by decide +kernel
theorem dJ0_coder_7d493_3 : decode cJ0_coder_7d493 3 = .ok (.ifCond .eq 10, 3) := by decide +kernel
theorem dJ0_coder_7d493_6 : decode cJ0_coder_7d493 6 = .ok (.aload_n 0, 1) := by decide +kernel
theorem dJ0_coder_7d493_7 : decode cJ0_coder_7d493 7 = .ok (.getfield 15, 3) := by decide +kernel
theorem dJ0_coder_7d493_10 : decode cJ0_coder_7d493 10 = .ok (.goto 4, 3) := by decide +kernel
theorem dJ0_coder_7d493_13 : decode cJ0_coder_7d493 13 = .ok (.iconst 1, 1) := by decide +kernel
theorem dJ0_coder_7d493_14 : decode cJ0_coder_7d493 14 = .ok (.ireturn, 1) := by decide +kernel
theorem dJ0_isLatin1_aae02_0 : decode cJ0_isLatin1_aae02 0 = .ok (.getstatic 38, 3) := by decide +kernel
theorem dJ0_isLatin1_aae02_3 : decode cJ0_isLatin1_aae02 3 = .ok (.ifCond .eq 14, 3) := by decide +kernel
theorem dJ0_isLatin1_aae02_6 : decode cJ0_isLatin1_aae02 6 = .ok (.aload_n 0, 1) := by decide +kernel
theorem dJ0_isLatin1_aae02_7 : decode cJ0_isLatin1_aae02 7 = .ok (.getfield 15, 3) := by decide +kernel
theorem dJ0_isLatin1_aae02_10 : decode cJ0_isLatin1_aae02 10 = .ok (.ifCond .ne 7, 3) := by decide +kernel
theorem dJ0_isLatin1_aae02_13 : decode cJ0_isLatin1_aae02 13 = .ok (.iconst 1, 1) := by decide +kernel
theorem dJ0_isLatin1_aae02_14 : decode cJ0_isLatin1_aae02 14 = .ok (.goto 4, 3) := by decide +kernel
theorem dJ0_isLatin1_aae02_17 : decode cJ0_isLatin1_aae02 17 = .ok (.iconst 0, 1) := by decide +kernel
theorem dJ0_isLatin1_aae02_18 : decode cJ0_isLatin1_aae02 18 = .ok (.ireturn, 1) := by decide +kernel
theorem dJ0_checkIndex_df160_0 : decode cJ0_checkIndex_df160 0 = .ok (.iload_n 0, 1) := by decide +kernel
theorem dJ0_checkIndex_df160_1 : decode cJ0_checkIndex_df160 1 = .ok (.iload_n 1, 1) := by decide +kernel
theorem dJ0_checkIndex_df160_2 : decode cJ0_checkIndex_df160 2 = .ok (.getstatic 1053, 3) := by decide +kernel
theorem dJ0_checkIndex_df160_5 : decode cJ0_checkIndex_df160 5 = .ok (.invokestatic 1059, 3) := by decide +kernel
theorem dJ0_checkIndex_df160_8 : decode cJ0_checkIndex_df160 8 = .ok (.pop, 1) := by decide +kernel
theorem dJ0_checkIndex_df160_9 : decode cJ0_checkIndex_df160 9 = .ok (.return_, 1) := by decide +kernel
theorem dJ1_charAt_3b067_0 : decode cJ1_charAt_3b067 0 = .ok (.iload_n 1, 1) := by decide +kernel
theorem dJ1_charAt_3b067_1 : decode cJ1_charAt_3b067 1 = .ok (.aload_n 0, 1) := by decide +kernel
theorem dJ1_charAt_3b067_2 : decode cJ1_charAt_3b067 2 = .ok (.arraylength, 1) := by decide +kernel
theorem dJ1_charAt_3b067_3 : decode cJ1_charAt_3b067 3 = .ok (.invokestatic 9, 3) := by decide +kernel
theorem dJ1_charAt_3b067_6 : decode cJ1_charAt_3b067 6 = .ok (.aload_n 0, 1) := by decide +kernel
theorem dJ1_charAt_3b067_7 : decode cJ1_charAt_3b067 7 = .ok (.iload_n 1, 1) := by decide +kernel
theorem dJ1_charAt_3b067_8 : decode cJ1_charAt_3b067 8 = .ok (.baload, 1) := by decide +kernel
theorem dJ1_charAt_3b067_9 : decode cJ1_charAt_3b067 9 = .ok (.sipush 255, 3) := by decide +kernel
theorem dJ1_charAt_3b067_12 : decode cJ1_charAt_3b067 12 = .ok (.iand, 1) := by decide +kernel
theorem dJ1_charAt_3b067_13 : decode cJ1_charAt_3b067 13 = .ok (.i2c, 1) := by decide +kernel
theorem dJ1_charAt_3b067_14 : decode cJ1_charAt_3b067 14 = .ok (.ireturn, 1) := by decide +kernel
theorem dJ2_getChar_3b067_0 : decode cJ2_getChar_3b067 0 = .ok (.getstatic 44, 3) := by decide +kernel
theorem dJ2_getChar_3b067_3 : decode cJ2_getChar_3b067 3 = .ok (.ifCond .ne 25, 3) := by decide +kernel
theorem dJ2_getChar_3b067_6 : decode cJ2_getChar_3b067 6 = .ok (.iload_n 1, 1) := by decide +kernel
theorem dJ2_getChar_3b067_7 : decode cJ2_getChar_3b067 7 = .ok (.ifCond .lt 11, 3) := by decide +kernel
theorem dJ2_getChar_3b067_10 : decode cJ2_getChar_3b067 10 = .ok (.iload_n 1, 1) := by decide +kernel
theorem dJ2_getChar_3b067_11 : decode cJ2_getChar_3b067 11 = .ok (.aload_n 0, 1) := by decide +kernel
theorem dJ2_getChar_3b067_12 : decode cJ2_getChar_3b067 12 = .ok (.invokestatic 48, 3) := by decide +kernel
theorem dJ2_getChar_3b067_15 : decode cJ2_getChar_3b067 15 = .ok (.if_icmp .lt 13, 3) := by decide +kernel
theorem dJ2_getChar_3b067_18 : decode cJ2_getChar_3b067 18 = .ok (.new 52, 3) := by decide +kernel
theorem dJ2_getChar_3b067_21 : decode cJ2_getChar_3b067 21 = .ok (.dup, 1) := by decide +kernel
theorem dJ2_getChar_3b067_22 : decode cJ2_getChar_3b067 22 = .ok (.ldc 54, 2) := by decide +kernel
theorem dJ2_getChar_3b067_24 : decode cJ2_getChar_3b067 24 = .ok (.invokespecial 56, 3) := by decide +kernel
theorem dJ2_getChar_3b067_27 : decode cJ2_getChar_3b067 27 = .ok (.athrow, 1) := by decide +kernel
theorem dJ2_getChar_3b067_28 : decode cJ2_getChar_3b067 28 = .ok (.iload_n 1, 1) := by decide +kernel
theorem dJ2_getChar_3b067_29 : decode cJ2_getChar_3b067 29 = .ok (.iconst 1, 1) := by decide +kernel
theorem dJ2_getChar_3b067_30 : decode cJ2_getChar_3b067 30 = .ok (.ishl, 1) := by decide +kernel
theorem dJ2_getChar_3b067_31 : decode cJ2_getChar_3b067 31 = .ok (.istore_n 1, 1) := by decide +kernel
theorem dJ2_getChar_3b067_32 : decode cJ2_getChar_3b067 32 = .ok (.aload_n 0, 1) := by decide +kernel
theorem dJ2_getChar_3b067_33 : decode cJ2_getChar_3b067 33 = .ok (.iload_n 1, 1) := by decide +kernel
theorem dJ2_getChar_3b067_34 : decode cJ2_getChar_3b067 34 = .ok (.iinc 1 1, 3) := by decide +kernel
theorem dJ2_getChar_3b067_37 : decode cJ2_getChar_3b067 37 = .ok (.baload, 1) := by decide +kernel
theorem dJ2_getChar_3b067_38 : decode cJ2_getChar_3b067 38 = .ok (.sipush 255, 3) := by decide +kernel
theorem dJ2_getChar_3b067_41 : decode cJ2_getChar_3b067 41 = .ok (.iand, 1) := by decide +kernel
theorem dJ2_getChar_3b067_42 : decode cJ2_getChar_3b067 42 = .ok (.getstatic 59, 3) := by decide +kernel
theorem dJ2_getChar_3b067_45 : decode cJ2_getChar_3b067 45 = .ok (.ishl, 1) := by decide +kernel
theorem dJ2_getChar_3b067_46 : decode cJ2_getChar_3b067 46 = .ok (.aload_n 0, 1) := by decide +kernel
theorem dJ2_getChar_3b067_47 : decode cJ2_getChar_3b067 47 = .ok (.iload_n 1, 1) := by decide +kernel
theorem dJ2_getChar_3b067_48 : decode cJ2_getChar_3b067 48 = .ok (.baload, 1) := by decide +kernel
theorem dJ2_getChar_3b067_49 : decode cJ2_getChar_3b067 49 = .ok (.sipush 255, 3) := by decide +kernel
theorem dJ2_getChar_3b067_52 : decode cJ2_getChar_3b067 52 = .ok (.iand, 1) := by decide +kernel
theorem dJ2_getChar_3b067_53 : decode cJ2_getChar_3b067 53 = .ok (.getstatic 63, 3) := by decide +kernel
theorem dJ2_getChar_3b067_56 : decode cJ2_getChar_3b067 56 = .ok (.ishl, 1) := by decide +kernel
theorem dJ2_getChar_3b067_57 : decode cJ2_getChar_3b067 57 = .ok (.ior, 1) := by decide +kernel
theorem dJ2_getChar_3b067_58 : decode cJ2_getChar_3b067 58 = .ok (.i2c, 1) := by decide +kernel
theorem dJ2_getChar_3b067_59 : decode cJ2_getChar_3b067 59 = .ok (.ireturn, 1) := by decide +kernel
theorem dJ2_length_9d52b_0 : decode cJ2_length_9d52b 0 = .ok (.aload_n 0, 1) := by decide +kernel
theorem dJ2_length_9d52b_1 : decode cJ2_length_9d52b 1 = .ok (.arraylength, 1) := by decide +kernel
theorem dJ2_length_9d52b_2 : decode cJ2_length_9d52b 2 = .ok (.iconst 1, 1) := by decide +kernel
theorem dJ2_length_9d52b_3 : decode cJ2_length_9d52b 3 = .ok (.ishr, 1) := by decide +kernel
theorem dJ2_length_9d52b_4 : decode cJ2_length_9d52b 4 = .ok (.ireturn, 1) := by decide +kernel
theorem dJ2_charAt_3b067_0 : decode cJ2_charAt_3b067 0 = .ok (.iload_n 1, 1) := by decide +kernel
theorem dJ2_charAt_3b067_1 : decode cJ2_charAt_3b067 1 = .ok (.aload_n 0, 1) := by decide +kernel
theorem dJ2_charAt_3b067_2 : decode cJ2_charAt_3b067 2 = .ok (.invokestatic 67, 3) := by decide +kernel
theorem dJ2_charAt_3b067_5 : decode cJ2_charAt_3b067 5 = .ok (.aload_n 0, 1) := by decide +kernel
theorem dJ2_charAt_3b067_6 : decode cJ2_charAt_3b067 6 = .ok (.iload_n 1, 1) := by decide +kernel
theorem dJ2_charAt_3b067_7 : decode cJ2_charAt_3b067 7 = .ok (.invokestatic 71, 3) := by decide +kernel
theorem dJ2_charAt_3b067_10 : decode cJ2_charAt_3b067 10 = .ok (.ireturn, 1) := by decide +kernel
theorem dJ2_checkIndex_2214a_0 : decode cJ2_checkIndex_2214a 0 = .ok (.iload_n 0, 1) := by decide +kernel
theorem dJ2_checkIndex_2214a_1 : decode cJ2_checkIndex_2214a 1 = .ok (.aload_n 1, 1) := by decide +kernel
theorem dJ2_checkIndex_2214a_2 : decode cJ2_checkIndex_2214a 2 = .ok (.invokestatic 48, 3) := by decide +kernel
theorem dJ2_checkIndex_2214a_5 : decode cJ2_checkIndex_2214a 5 = .ok (.invokestatic 414, 3) := by decide +kernel
theorem dJ2_checkIndex_2214a_8 : decode cJ2_checkIndex_2214a 8 = .ok (.return_, 1) := by decide +kernel
theorem dJ7_fill_53178_0 : decode cJ7_fill_53178 0 = .ok (.iconst 0, 1) := by decide +kernel
theorem dJ7_fill_53178_1 : decode cJ7_fill_53178 1 = .ok (.istore_n 2, 1) := by decide +kernel
theorem dJ7_fill_53178_2 : decode cJ7_fill_53178 2 = .ok (.aload_n 0, 1) := by decide +kernel
theorem dJ7_fill_53178_3 : decode cJ7_fill_53178 3 = .ok (.arraylength, 1) := by decide +kernel
theorem dJ7_fill_53178_4 : decode cJ7_fill_53178 4 = .ok (.istore_n 3, 1) := by decide +kernel
theorem dJ7_fill_53178_5 : decode cJ7_fill_53178 5 = .ok (.iload_n 2, 1) := by decide +kernel
theorem dJ7_fill_53178_6 : decode cJ7_fill_53178 6 = .ok (.iload_n 3, 1) := by decide +kernel
theorem dJ7_fill_53178_7 : decode cJ7_fill_53178 7 = .ok (.if_icmp .ge 13, 3) := by decide +kernel
theorem dJ7_fill_53178_10 : decode cJ7_fill_53178 10 = .ok (.aload_n 0, 1) := by decide +kernel
theorem dJ7_fill_53178_11 : decode cJ7_fill_53178 11 = .ok (.iload_n 2, 1) := by decide +kernel
theorem dJ7_fill_53178_12 : decode cJ7_fill_53178 12 = .ok (.iload_n 1, 1) := by decide +kernel
theorem dJ7_fill_53178_13 : decode cJ7_fill_53178 13 = .ok (.iastore, 1) := by decide +kernel
theorem dJ7_fill_53178_14 : decode cJ7_fill_53178 14 = .ok (.iinc 2 1, 3) := by decide +kernel
theorem dJ7_fill_53178_17 : decode cJ7_fill_53178 17 = .ok (.goto (-12), 3) := by decide +kernel
theorem dJ7_fill_53178_20 : decode cJ7_fill_53178 20 = .ok (.return_, 1) := by decide +kernel
theorem dJ3_checkIndex_8e157_0 : decode cJ3_checkIndex_8e157 0 = .ok (.iload_n 0, 1) := by decide +kernel
theorem dJ3_checkIndex_8e157_1 : decode cJ3_checkIndex_8e157 1 = .ok (.ifCond .lt 8, 3) := by decide +kernel
theorem dJ3_checkIndex_8e157_4 : decode cJ3_checkIndex_8e157 4 = .ok (.iload_n 0, 1) := by decide +kernel
theorem dJ3_checkIndex_8e157_5 : decode cJ3_checkIndex_8e157 5 = .ok (.iload_n 1, 1) := by decide +kernel
theorem dJ3_checkIndex_8e157_6 : decode cJ3_checkIndex_8e157 6 = .ok (.if_icmp .lt 10, 3) := by decide +kernel
theorem dJ3_checkIndex_8e157_9 : decode cJ3_checkIndex_8e157 9 = .ok (.aload_n 2, 1) := by decide +kernel
theorem dJ3_checkIndex_8e157_10 : decode cJ3_checkIndex_8e157 10 = .ok (.iload_n 0, 1) := by decide +kernel
theorem dJ3_checkIndex_8e157_11 : decode cJ3_checkIndex_8e157 11 = .ok (.iload_n 1, 1) := by decide +kernel
theorem dJ3_checkIndex_8e157_12 : decode cJ3_checkIndex_8e157 12 = .ok (.invokestatic 95, 3) := by decide +kernel
theorem dJ3_checkIndex_8e157_15 : decode cJ3_checkIndex_8e157 15 = .ok (.athrow, 1) := by decide +kernel
theorem dJ3_checkIndex_8e157_16 : decode cJ3_checkIndex_8e157 16 = .ok (.iload_n 0, 1) := by decide +kernel
theorem dJ3_checkIndex_8e157_17 : decode cJ3_checkIndex_8e157 17 = .ok (.ireturn, 1) := by decide +kernel
end
section
theorem dX9_init_0 : decode cX9_init 0 = .ok (.aload_n 0, 1) := by decide +kernel
theorem dX9_init_1 : decode cX9_init 1 = .ok (.invokespecial 1, 3) := by decide +kernel
theorem dX9_init_4 : decode cX9_init 4 = .ok (.aload_n 0, 1) := by decide +kernel
theorem dX9_init_5 : decode cX9_init 5 = .ok (.bipush 97, 2) := by decide +kernel
theorem dX9_init_7 : decode cX9_init 7 = .ok (.newarray .int, 2) := by decide +kernel
theorem dX9_init_9 : decode cX9_init 9 = .ok (.putfield 7, 3) := by decide +kernel
theorem dX9_init_12 : decode cX9_init 12 = .ok (.aload_n 0, 1) := by decide +kernel
theorem dX9_init_13 : decode cX9_init 13 = .ok (.sipush 582, 3) := by decide +kernel
theorem dX9_init_16 : decode cX9_init 16 = .ok (.newarray .int, 2) := by decide +kernel
theorem dX9_init_18 : decode cX9_init 18 = .ok (.putfield 13, 3) := by decide +kernel
theorem dX9_init_21 : decode cX9_init 21 = .ok (.aload_n 0, 1) := by decide +kernel
theorem dX9_init_22 : decode cX9_init 22 = .ok (.iconst 3, 1) := by decide +kernel
theorem dX9_init_23 : decode cX9_init 23 = .ok (.newarray .int, 2) := by decide +kernel
theorem dX9_init_25 : decode cX9_init 25 = .ok (.putfield 16, 3) := by decide +kernel
theorem dX9_init_28 : decode cX9_init 28 = .ok (.aload_n 0, 1) := by decide +kernel
theorem dX9_init_29 : decode cX9_init 29 = .ok (.bipush 72, 2) := by decide +kernel
theorem dX9_init_31 : decode cX9_init 31 = .ok (.newarray .int, 2) := by decide +kernel
theorem dX9_init_33 : decode cX9_init 33 = .ok (.putfield 19, 3) := by decide +kernel
theorem dX9_init_36 : decode cX9_init 36 = .ok (.aload_n 0, 1) := by decide +kernel
theorem dX9_init_37 : decode cX9_init 37 = .ok (.sipush 768, 3) := by decide +kernel
theorem dX9_init_40 : decode cX9_init 40 = .ok (.newarray .int, 2) := by decide +kernel
theorem dX9_init_42 : decode cX9_init 42 = .ok (.putfield 22, 3) := by decide +kernel
theorem dX9_init_45 : decode cX9_init 45 = .ok (.aload_n 0, 1) := by decide +kernel
theorem dX9_init_46 : decode cX9_init 46 = .ok (.sipush 768, 3) := by decide +kernel
theorem dX9_init_49 : decode cX9_init 49 = .ok (.newarray .boolean, 2) := by decide +kernel
theorem dX9_init_51 : decode cX9_init 51 = .ok (.putfield 25, 3) := by decide +kernel
theorem dX9_init_54 : decode cX9_init 54 = .ok (.aload_n 0, 1) := by decide +kernel
theorem dX9_init_55 : decode cX9_init 55 = .ok (.bipush 120, 2) := by decide +kernel
theorem dX9_init_57 : decode cX9_init 57 = .ok (.newarray .int, 2) := by decide +kernel
theorem dX9_init_59 : decode cX9_init 59 = .ok (.putfield 29, 3) := by decide +kernel
theorem dX9_init_62 : decode cX9_init 62 = .ok (.aload_n 0, 1) := by decide +kernel
theorem dX9_init_63 : decode cX9_init 63 = .ok (.bipush 9, 2) := by decide +kernel
theorem dX9_init_65 : decode cX9_init 65 = .ok (.newarray .int, 2) := by decide +kernel
theorem dX9_init_67 : decode cX9_init 67 = .ok (.putfield 32, 3) := by decide +kernel
theorem dX9_init_70 : decode cX9_init 70 = .ok (.iconst 0, 1) := by decide +kernel
theorem dX9_init_71 : decode cX9_init 71 = .ok (.istore_n 1, 1) := by decide +kernel
theorem dX9_init_72 : decode cX9_init 72 = .ok (.iload_n 1, 1) := by decide +kernel
theorem dX9_init_73 : decode cX9_init 73 = .ok (.bipush 8, 2) := by decide +kernel
theorem dX9_init_75 : decode cX9_init 75 = .ok (.if_icmp .ge 21, 3) := by decide +kernel
theorem dX9_init_78 : decode cX9_init 78 = .ok (.aload_n 0, 1) := by decide +kernel
theorem dX9_init_79 : decode cX9_init 79 = .ok (.getfield 7, 3) := by decide +kernel
theorem dX9_init_82 : decode cX9_init 82 = .ok (.bipush 72, 2) := by decide +kernel
theorem dX9_init_84 : decode cX9_init 84 = .ok (.iload_n 1, 1) := by decide +kernel
theorem dX9_init_85 : decode cX9_init 85 = .ok (.iadd, 1) := by decide +kernel
theorem dX9_init_86 : decode cX9_init 86 = .ok (.sipush 255, 3) := by decide +kernel
theorem dX9_init_89 : decode cX9_init 89 = .ok (.iastore, 1) := by decide +kernel
theorem dX9_init_90 : decode cX9_init 90 = .ok (.iinc 1 1, 3) := by decide +kernel
theorem dX9_init_93 : decode cX9_init 93 = .ok (.goto (-21), 3) := by decide +kernel
theorem dX9_init_96 : decode cX9_init 96 = .ok (.return_, 1) := by decide +kernel
theorem dX9_in_0 : decode cX9_in 0 = .ok (.lload_n 0, 1) := by decide +kernel
theorem dX9_in_1 : decode cX9_in 1 = .ok (.lload_n 2, 1) := by decide +kernel
theorem dX9_in_2 : decode cX9_in 2 = .ok (.lcmp, 1) := by decide +kernel
theorem dX9_in_3 : decode cX9_in 3 = .ok (.ifCond .lt 14, 3) := by decide +kernel
theorem dX9_in_6 : decode cX9_in 6 = .ok (.lload_n 0, 1) := by decide +kernel
theorem dX9_in_7 : decode cX9_in 7 = .ok (.lload 4, 2) := by decide +kernel
theorem dX9_in_9 : decode cX9_in 9 = .ok (.lcmp, 1) := by decide +kernel
theorem dX9_in_10 : decode cX9_in 10 = .ok (.ifCond .gt 7, 3) := by decide +kernel
theorem dX9_in_13 : decode cX9_in 13 = .ok (.iconst 1, 1) := by decide +kernel
theorem dX9_in_14 : decode cX9_in 14 = .ok (.goto 4, 3) := by decide +kernel
theorem dX9_in_17 : decode cX9_in 17 = .ok (.iconst 0, 1) := by decide +kernel
theorem dX9_in_18 : decode cX9_in 18 = .ok (.ireturn, 1) := by decide +kernel
theorem dX9_bad_0 : decode cX9_bad 0 = .ok (.aload_n 0, 1) := by decide +kernel
theorem dX9_bad_1 : decode cX9_bad 1 = .ok (.getfield 16, 3) := by decide +kernel
theorem dX9_bad_4 : decode cX9_bad 4 = .ok (.iconst 0, 1) := by decide +kernel
theorem dX9_bad_5 : decode cX9_bad 5 = .ok (.dup2, 1) := by decide +kernel
theorem dX9_bad_6 : decode cX9_bad 6 = .ok (.iaload, 1) := by decide +kernel
theorem dX9_bad_7 : decode cX9_bad 7 = .ok (.iconst 1, 1) := by decide +kernel
theorem dX9_bad_8 : decode cX9_bad 8 = .ok (.iadd, 1) := by decide +kernel
theorem dX9_bad_9 : decode cX9_bad 9 = .ok (.iastore, 1) := by decide +kernel
theorem dX9_bad_10 : decode cX9_bad 10 = .ok (.iload_n 1, 1) := by decide +kernel
theorem dX9_bad_11 : decode cX9_bad 11 = .ok (.ireturn, 1) := by decide +kernel
theorem dX9_no_0 : decode cX9_no 0 = .ok (.aload_n 0, 1) := by decide +kernel
theorem dX9_no_1 : decode cX9_no 1 = .ok (.getfield 16, 3) := by decide +kernel
theorem dX9_no_4 : decode cX9_no 4 = .ok (.iconst 1, 1) := by decide +kernel
theorem dX9_no_5 : decode cX9_no 5 = .ok (.dup2, 1) := by decide +kernel
theorem dX9_no_6 : decode cX9_no 6 = .ok (.iaload, 1) := by decide +kernel
theorem dX9_no_7 : decode cX9_no 7 = .ok (.iconst 1, 1) := by decide +kernel
theorem dX9_no_8 : decode cX9_no 8 = .ok (.iadd, 1) := by decide +kernel
theorem dX9_no_9 : decode cX9_no 9 = .ok (.iastore, 1) := by decide +kernel
theorem dX9_no_10 : decode cX9_no 10 = .ok (.bipush (-3), 2) := by decide +kernel
theorem dX9_no_12 : decode cX9_no 12 = .ok (.ireturn, 1) := by decide +kernel
theorem dX9_full_0 : decode cX9_full 0 = .ok (.aload_n 0, 1) := by decide +kernel
theorem dX9_full_1 : decode cX9_full 1 = .ok (.getfield 16, 3) := by decide +kernel
theorem dX9_full_4 : decode cX9_full 4 = .ok (.iconst 2, 1) := by decide +kernel
theorem dX9_full_5 : decode cX9_full 5 = .ok (.dup2, 1) := by decide +kernel
theorem dX9_full_6 : decode cX9_full 6 = .ok (.iaload, 1) := by decide +kernel
theorem dX9_full_7 : decode cX9_full 7 = .ok (.iconst 1, 1) := by decide +kernel
theorem dX9_full_8 : decode cX9_full 8 = .ok (.iadd, 1) := by decide +kernel
theorem dX9_full_9 : decode cX9_full 9 = .ok (.iastore, 1) := by decide +kernel
theorem dX9_full_10 : decode cX9_full 10 = .ok (.bipush (-4), 2) := by decide +kernel
theorem dX9_full_12 : decode cX9_full 12 = .ok (.ireturn, 1) := by decide +kernel
theorem dX9_isPicture_0 : decode cX9_isPicture 0 = .ok (.iload_n 0, 1) := by decide +kernel
theorem dX9_isPicture_1 : decode cX9_isPicture 1 = .ok (.i2l, 1) := by decide +kernel
theorem dX9_isPicture_2 : decode cX9_isPicture 2 = .ok (.lconst 0, 1) := by decide +kernel
theorem dX9_isPicture_3 : decode cX9_isPicture 3 = .ok (.ldc2_w 35, 3) := by decide +kernel
theorem dX9_isPicture_6 : decode cX9_isPicture 6 = .ok (.invokestatic 37, 3) := by decide +kernel
theorem dX9_isPicture_9 : decode cX9_isPicture 9 = .ok (.ireturn, 1) := by decide +kernel
theorem dX9_isPlace_0 : decode cX9_isPlace 0 = .ok (.iload_n 0, 1) := by decide +kernel
theorem dX9_isPlace_1 : decode cX9_isPlace 1 = .ok (.i2l, 1) := by decide +kernel
theorem dX9_isPlace_2 : decode cX9_isPlace 2 = .ok (.ldc2_w 41, 3) := by decide +kernel
theorem dX9_isPlace_5 : decode cX9_isPlace 5 = .ok (.ldc2_w 43, 3) := by decide +kernel
theorem dX9_isPlace_8 : decode cX9_isPlace 8 = .ok (.invokestatic 37, 3) := by decide +kernel
theorem dX9_isPlace_11 : decode cX9_isPlace 11 = .ok (.ifCond .eq 21, 3) := by decide +kernel
theorem dX9_isPlace_14 : decode cX9_isPlace 14 = .ok (.iload_n 1, 1) := by decide +kernel
theorem dX9_isPlace_15 : decode cX9_isPlace 15 = .ok (.i2l, 1) := by decide +kernel
theorem dX9_isPlace_16 : decode cX9_isPlace 16 = .ok (.ldc2_w 41, 3) := by decide +kernel
theorem dX9_isPlace_19 : decode cX9_isPlace 19 = .ok (.ldc2_w 43, 3) := by decide +kernel
theorem dX9_isPlace_22 : decode cX9_isPlace 22 = .ok (.invokestatic 37, 3) := by decide +kernel
theorem dX9_isPlace_25 : decode cX9_isPlace 25 = .ok (.ifCond .eq 7, 3) := by decide +kernel
theorem dX9_isPlace_28 : decode cX9_isPlace 28 = .ok (.iconst 1, 1) := by decide +kernel
theorem dX9_isPlace_29 : decode cX9_isPlace 29 = .ok (.goto 4, 3) := by decide +kernel
theorem dX9_isPlace_32 : decode cX9_isPlace 32 = .ok (.iconst 0, 1) := by decide +kernel
theorem dX9_isPlace_33 : decode cX9_isPlace 33 = .ok (.ireturn, 1) := by decide +kernel
theorem dX9_isSize_0 : decode cX9_isSize 0 = .ok (.iload_n 0, 1) := by decide +kernel
theorem dX9_isSize_1 : decode cX9_isSize 1 = .ok (.i2l, 1) := by decide +kernel
theorem dX9_isSize_2 : decode cX9_isSize 2 = .ok (.lconst 1, 1) := by decide +kernel
theorem dX9_isSize_3 : decode cX9_isSize 3 = .ok (.ldc2_w 45, 3) := by decide +kernel
theorem dX9_isSize_6 : decode cX9_isSize 6 = .ok (.invokestatic 37, 3) := by decide +kernel
theorem dX9_isSize_9 : decode cX9_isSize 9 = .ok (.ifCond .eq 19, 3) := by decide +kernel
theorem dX9_isSize_12 : decode cX9_isSize 12 = .ok (.iload_n 1, 1) := by decide +kernel
theorem dX9_isSize_13 : decode cX9_isSize 13 = .ok (.i2l, 1) := by decide +kernel
theorem dX9_isSize_14 : decode cX9_isSize 14 = .ok (.lconst 1, 1) := by decide +kernel
theorem dX9_isSize_15 : decode cX9_isSize 15 = .ok (.ldc2_w 45, 3) := by decide +kernel
theorem dX9_isSize_18 : decode cX9_isSize 18 = .ok (.invokestatic 37, 3) := by decide +kernel
theorem dX9_isSize_21 : decode cX9_isSize 21 = .ok (.ifCond .eq 7, 3) := by decide +kernel
theorem dX9_isSize_24 : decode cX9_isSize 24 = .ok (.iconst 1, 1) := by decide +kernel
theorem dX9_isSize_25 : decode cX9_isSize 25 = .ok (.goto 4, 3) := by decide +kernel
theorem dX9_isSize_28 : decode cX9_isSize 28 = .ok (.iconst 0, 1) := by decide +kernel
theorem dX9_isSize_29 : decode cX9_isSize 29 = .ok (.ireturn, 1) := by decide +kernel
theorem dX9_isJoin_0 : decode cX9_isJoin 0 = .ok (.iload_n 0, 1) := by decide +kernel
theorem dX9_isJoin_1 : decode cX9_isJoin 1 = .ok (.i2l, 1) := by decide +kernel
theorem dX9_isJoin_2 : decode cX9_isJoin 2 = .ok (.lconst 0, 1) := by decide +kernel
theorem dX9_isJoin_3 : decode cX9_isJoin 3 = .ok (.ldc2_w 47, 3) := by decide +kernel
theorem dX9_isJoin_6 : decode cX9_isJoin 6 = .ok (.invokestatic 37, 3) := by decide +kernel
theorem dX9_isJoin_9 : decode cX9_isJoin 9 = .ok (.ireturn, 1) := by decide +kernel
theorem dX9_isIn_0 : decode cX9_isIn 0 = .ok (.iload_n 0, 1) := by decide +kernel
theorem dX9_isIn_1 : decode cX9_isIn 1 = .ok (.i2l, 1) := by decide +kernel
theorem dX9_isIn_2 : decode cX9_isIn 2 = .ok (.lconst 0, 1) := by decide +kernel
theorem dX9_isIn_3 : decode cX9_isIn 3 = .ok (.ldc2_w 49, 3) := by decide +kernel
theorem dX9_isIn_6 : decode cX9_isIn 6 = .ok (.invokestatic 37, 3) := by decide +kernel
theorem dX9_isIn_9 : decode cX9_isIn 9 = .ok (.ifCond .eq 19, 3) := by decide +kernel
theorem dX9_isIn_12 : decode cX9_isIn 12 = .ok (.iload_n 1, 1) := by decide +kernel
theorem dX9_isIn_13 : decode cX9_isIn 13 = .ok (.i2l, 1) := by decide +kernel
theorem dX9_isIn_14 : decode cX9_isIn 14 = .ok (.lconst 0, 1) := by decide +kernel
theorem dX9_isIn_15 : decode cX9_isIn 15 = .ok (.ldc2_w 51, 3) := by decide +kernel
theorem dX9_isIn_18 : decode cX9_isIn 18 = .ok (.invokestatic 37, 3) := by decide +kernel
theorem dX9_isIn_21 : decode cX9_isIn 21 = .ok (.ifCond .eq 7, 3) := by decide +kernel
theorem dX9_isIn_24 : decode cX9_isIn 24 = .ok (.iconst 1, 1) := by decide +kernel
theorem dX9_isIn_25 : decode cX9_isIn 25 = .ok (.goto 4, 3) := by decide +kernel
theorem dX9_isIn_28 : decode cX9_isIn 28 = .ok (.iconst 0, 1) := by decide +kernel
theorem dX9_isIn_29 : decode cX9_isIn 29 = .ok (.ireturn, 1) := by decide +kernel
theorem dX9_keep_0 : decode cX9_keep 0 = .ok (.aload_n 0, 1) := by decide +kernel
theorem dX9_keep_1 : decode cX9_keep 1 = .ok (.getfield 53, 3) := by decide +kernel
theorem dX9_keep_4 : decode cX9_keep 4 = .ok (.bipush 6, 2) := by decide +kernel
theorem dX9_keep_6 : decode cX9_keep 6 = .ok (.if_icmp .ne 43, 3) := by decide +kernel
theorem dX9_keep_9 : decode cX9_keep 9 = .ok (.iconst 0, 1) := by decide +kernel
theorem dX9_keep_10 : decode cX9_keep 10 = .ok (.istore_n 1, 1) := by decide +kernel
theorem dX9_keep_11 : decode cX9_keep 11 = .ok (.iload_n 1, 1) := by decide +kernel
theorem dX9_keep_12 : decode cX9_keep 12 = .ok (.sipush 485, 3) := by decide +kernel
theorem dX9_keep_15 : decode cX9_keep 15 = .ok (.if_icmp .ge 24, 3) := by decide +kernel
theorem dX9_keep_18 : decode cX9_keep 18 = .ok (.aload_n 0, 1) := by decide +kernel
theorem dX9_keep_19 : decode cX9_keep 19 = .ok (.getfield 13, 3) := by decide +kernel
theorem dX9_keep_22 : decode cX9_keep 22 = .ok (.iload_n 1, 1) := by decide +kernel
theorem dX9_keep_23 : decode cX9_keep 23 = .ok (.aload_n 0, 1) := by decide +kernel
theorem dX9_keep_24 : decode cX9_keep 24 = .ok (.getfield 13, 3) := by decide +kernel
theorem dX9_keep_27 : decode cX9_keep 27 = .ok (.iload_n 1, 1) := by decide +kernel
theorem dX9_keep_28 : decode cX9_keep 28 = .ok (.bipush 97, 2) := by decide +kernel
theorem dX9_keep_30 : decode cX9_keep 30 = .ok (.iadd, 1) := by decide +kernel
theorem dX9_keep_31 : decode cX9_keep 31 = .ok (.iaload, 1) := by decide +kernel
theorem dX9_keep_32 : decode cX9_keep 32 = .ok (.iastore, 1) := by decide +kernel
theorem dX9_keep_33 : decode cX9_keep 33 = .ok (.iinc 1 1, 3) := by decide +kernel
theorem dX9_keep_36 : decode cX9_keep 36 = .ok (.goto (-25), 3) := by decide +kernel
theorem dX9_keep_39 : decode cX9_keep 39 = .ok (.aload_n 0, 1) := by decide +kernel
theorem dX9_keep_40 : decode cX9_keep 40 = .ok (.dup, 1) := by decide +kernel
theorem dX9_keep_41 : decode cX9_keep 41 = .ok (.getfield 53, 3) := by decide +kernel
theorem dX9_keep_44 : decode cX9_keep 44 = .ok (.iconst 1, 1) := by decide +kernel
theorem dX9_keep_45 : decode cX9_keep 45 = .ok (.isub, 1) := by decide +kernel
theorem dX9_keep_46 : decode cX9_keep 46 = .ok (.putfield 53, 3) := by decide +kernel
theorem dX9_keep_49 : decode cX9_keep 49 = .ok (.iconst 0, 1) := by decide +kernel
theorem dX9_keep_50 : decode cX9_keep 50 = .ok (.istore_n 1, 1) := by decide +kernel
theorem dX9_keep_51 : decode cX9_keep 51 = .ok (.iload_n 1, 1) := by decide +kernel
theorem dX9_keep_52 : decode cX9_keep 52 = .ok (.bipush 97, 2) := by decide +kernel
theorem dX9_keep_54 : decode cX9_keep 54 = .ok (.if_icmp .ge 29, 3) := by decide +kernel
theorem dX9_keep_57 : decode cX9_keep 57 = .ok (.aload_n 0, 1) := by decide +kernel
theorem dX9_keep_58 : decode cX9_keep 58 = .ok (.getfield 13, 3) := by decide +kernel
theorem dX9_keep_61 : decode cX9_keep 61 = .ok (.bipush 97, 2) := by decide +kernel
theorem dX9_keep_63 : decode cX9_keep 63 = .ok (.aload_n 0, 1) := by decide +kernel
theorem dX9_keep_64 : decode cX9_keep 64 = .ok (.getfield 53, 3) := by decide +kernel
theorem dX9_keep_67 : decode cX9_keep 67 = .ok (.imul, 1) := by decide +kernel
theorem dX9_keep_68 : decode cX9_keep 68 = .ok (.iload_n 1, 1) := by decide +kernel
theorem dX9_keep_69 : decode cX9_keep 69 = .ok (.iadd, 1) := by decide +kernel
theorem dX9_keep_70 : decode cX9_keep 70 = .ok (.aload_n 0, 1) := by decide +kernel
theorem dX9_keep_71 : decode cX9_keep 71 = .ok (.getfield 7, 3) := by decide +kernel
theorem dX9_keep_74 : decode cX9_keep 74 = .ok (.iload_n 1, 1) := by decide +kernel
theorem dX9_keep_75 : decode cX9_keep 75 = .ok (.iaload, 1) := by decide +kernel
theorem dX9_keep_76 : decode cX9_keep 76 = .ok (.iastore, 1) := by decide +kernel
theorem dX9_keep_77 : decode cX9_keep 77 = .ok (.iinc 1 1, 3) := by decide +kernel
theorem dX9_keep_80 : decode cX9_keep 80 = .ok (.goto (-29), 3) := by decide +kernel
theorem dX9_keep_83 : decode cX9_keep 83 = .ok (.aload_n 0, 1) := by decide +kernel
theorem dX9_keep_84 : decode cX9_keep 84 = .ok (.dup, 1) := by decide +kernel
theorem dX9_keep_85 : decode cX9_keep 85 = .ok (.getfield 53, 3) := by decide +kernel
theorem dX9_keep_88 : decode cX9_keep 88 = .ok (.iconst 1, 1) := by decide +kernel
theorem dX9_keep_89 : decode cX9_keep 89 = .ok (.iadd, 1) := by decide +kernel
theorem dX9_keep_90 : decode cX9_keep 90 = .ok (.putfield 53, 3) := by decide +kernel
theorem dX9_keep_93 : decode cX9_keep 93 = .ok (.return_, 1) := by decide +kernel
theorem dX9_bitOf_0 : decode cX9_bitOf 0 = .ok (.iload_n 0, 1) := by decide +kernel
theorem dX9_bitOf_1 : decode cX9_bitOf 1 = .ok (.bipush 31, 2) := by decide +kernel
theorem dX9_bitOf_3 : decode cX9_bitOf 3 = .ok (.iload_n 1, 1) := by decide +kernel
theorem dX9_bitOf_4 : decode cX9_bitOf 4 = .ok (.isub, 1) := by decide +kernel
theorem dX9_bitOf_5 : decode cX9_bitOf 5 = .ok (.ishr, 1) := by decide +kernel
theorem dX9_bitOf_6 : decode cX9_bitOf 6 = .ok (.iconst 1, 1) := by decide +kernel
theorem dX9_bitOf_7 : decode cX9_bitOf 7 = .ok (.iand, 1) := by decide +kernel
theorem dX9_bitOf_8 : decode cX9_bitOf 8 = .ok (.ireturn, 1) := by decide +kernel
theorem dX9_dotOf_0 : decode cX9_dotOf 0 = .ok (.iload_n 2, 1) := by decide +kernel
theorem dX9_dotOf_1 : decode cX9_dotOf 1 = .ok (.iload_n 3, 1) := by decide +kernel
theorem dX9_dotOf_2 : decode cX9_dotOf 2 = .ok (.invokestatic 57, 3) := by decide +kernel
theorem dX9_dotOf_5 : decode cX9_dotOf 5 = .ok (.ifCond .eq 21, 3) := by decide +kernel
theorem dX9_dotOf_8 : decode cX9_dotOf 8 = .ok (.aload_n 0, 1) := by decide +kernel
theorem dX9_dotOf_9 : decode cX9_dotOf 9 = .ok (.getfield 7, 3) := by decide +kernel
theorem dX9_dotOf_12 : decode cX9_dotOf 12 = .ok (.bipush 24, 2) := by decide +kernel
theorem dX9_dotOf_14 : decode cX9_dotOf 14 = .ok (.iload_n 1, 1) := by decide +kernel
theorem dX9_dotOf_15 : decode cX9_dotOf 15 = .ok (.imul, 1) := by decide +kernel
theorem dX9_dotOf_16 : decode cX9_dotOf 16 = .ok (.iload_n 3, 1) := by decide +kernel
theorem dX9_dotOf_17 : decode cX9_dotOf 17 = .ok (.iadd, 1) := by decide +kernel
theorem dX9_dotOf_18 : decode cX9_dotOf 18 = .ok (.iaload, 1) := by decide +kernel
theorem dX9_dotOf_19 : decode cX9_dotOf 19 = .ok (.iload_n 2, 1) := by decide +kernel
theorem dX9_dotOf_20 : decode cX9_dotOf 20 = .ok (.invokestatic 61, 3) := by decide +kernel
theorem dX9_dotOf_23 : decode cX9_dotOf 23 = .ok (.goto 4, 3) := by decide +kernel
theorem dX9_dotOf_26 : decode cX9_dotOf 26 = .ok (.iconst 0, 1) := by decide +kernel
theorem dX9_dotOf_27 : decode cX9_dotOf 27 = .ok (.ireturn, 1) := by decide +kernel
theorem dX9_sets_0 : decode cX9_sets 0 = .ok (.aload_n 0, 1) := by decide +kernel
theorem dX9_sets_1 : decode cX9_sets 1 = .ok (.iload_n 1, 1) := by decide +kernel
theorem dX9_sets_2 : decode cX9_sets 2 = .ok (.iload_n 2, 1) := by decide +kernel
theorem dX9_sets_3 : decode cX9_sets 3 = .ok (.iload_n 3, 1) := by decide +kernel
theorem dX9_sets_4 : decode cX9_sets 4 = .ok (.invokevirtual 65, 3) := by decide +kernel
theorem dX9_sets_7 : decode cX9_sets 7 = .ok (.istore 5, 2) := by decide +kernel
theorem dX9_sets_9 : decode cX9_sets 9 = .ok (.aload_n 0, 1) := by decide +kernel
theorem dX9_sets_10 : decode cX9_sets 10 = .ok (.getfield 7, 3) := by decide +kernel
theorem dX9_sets_13 : decode cX9_sets 13 = .ok (.bipush 24, 2) := by decide +kernel
theorem dX9_sets_15 : decode cX9_sets 15 = .ok (.iload_n 1, 1) := by decide +kernel
theorem dX9_sets_16 : decode cX9_sets 16 = .ok (.imul, 1) := by decide +kernel
theorem dX9_sets_17 : decode cX9_sets 17 = .ok (.iload_n 3, 1) := by decide +kernel
theorem dX9_sets_18 : decode cX9_sets 18 = .ok (.iadd, 1) := by decide +kernel
theorem dX9_sets_19 : decode cX9_sets 19 = .ok (.dup2, 1) := by decide +kernel
theorem dX9_sets_20 : decode cX9_sets 20 = .ok (.iaload, 1) := by decide +kernel
theorem dX9_sets_21 : decode cX9_sets 21 = .ok (.iload 5, 2) := by decide +kernel
theorem dX9_sets_23 : decode cX9_sets 23 = .ok (.iload 4, 2) := by decide +kernel
theorem dX9_sets_25 : decode cX9_sets 25 = .ok (.if_icmp .ne 7, 3) := by decide +kernel
theorem dX9_sets_28 : decode cX9_sets 28 = .ok (.iconst 0, 1) := by decide +kernel
theorem dX9_sets_29 : decode cX9_sets 29 = .ok (.goto 9, 3) := by decide +kernel
theorem dX9_sets_32 : decode cX9_sets 32 = .ok (.iconst 1, 1) := by decide +kernel
theorem dX9_sets_33 : decode cX9_sets 33 = .ok (.bipush 31, 2) := by decide +kernel
theorem dX9_sets_35 : decode cX9_sets 35 = .ok (.iload_n 2, 1) := by decide +kernel
theorem dX9_sets_36 : decode cX9_sets 36 = .ok (.isub, 1) := by decide +kernel
theorem dX9_sets_37 : decode cX9_sets 37 = .ok (.ishl, 1) := by decide +kernel
theorem dX9_sets_38 : decode cX9_sets 38 = .ok (.ixor, 1) := by decide +kernel
theorem dX9_sets_39 : decode cX9_sets 39 = .ok (.iastore, 1) := by decide +kernel
theorem dX9_sets_40 : decode cX9_sets 40 = .ok (.iload 5, 2) := by decide +kernel
theorem dX9_sets_42 : decode cX9_sets 42 = .ok (.iload 4, 2) := by decide +kernel
theorem dX9_sets_44 : decode cX9_sets 44 = .ok (.if_icmp .ne 7, 3) := by decide +kernel
theorem dX9_sets_47 : decode cX9_sets 47 = .ok (.iconst 0, 1) := by decide +kernel
theorem dX9_sets_48 : decode cX9_sets 48 = .ok (.goto 4, 3) := by decide +kernel
theorem dX9_sets_51 : decode cX9_sets 51 = .ok (.iconst 1, 1) := by decide +kernel
theorem dX9_sets_52 : decode cX9_sets 52 = .ok (.ireturn, 1) := by decide +kernel
theorem dX9_patternAt_0 : decode cX9_patternAt 0 = .ok (.aload_n 0, 1) := by decide +kernel
theorem dX9_patternAt_1 : decode cX9_patternAt 1 = .ok (.getfield 7, 3) := by decide +kernel
theorem dX9_patternAt_4 : decode cX9_patternAt 4 = .ok (.bipush 72, 2) := by decide +kernel
theorem dX9_patternAt_6 : decode cX9_patternAt 6 = .ok (.iload_n 2, 1) := by decide +kernel
theorem dX9_patternAt_7 : decode cX9_patternAt 7 = .ok (.bipush 8, 2) := by decide +kernel
theorem dX9_patternAt_9 : decode cX9_patternAt 9 = .ok (.irem, 1) := by decide +kernel
theorem dX9_patternAt_10 : decode cX9_patternAt 10 = .ok (.iadd, 1) := by decide +kernel
theorem dX9_patternAt_11 : decode cX9_patternAt 11 = .ok (.iaload, 1) := by decide +kernel
theorem dX9_patternAt_12 : decode cX9_patternAt 12 = .ok (.bipush 7, 2) := by decide +kernel
theorem dX9_patternAt_14 : decode cX9_patternAt 14 = .ok (.iload_n 1, 1) := by decide +kernel
theorem dX9_patternAt_15 : decode cX9_patternAt 15 = .ok (.bipush 8, 2) := by decide +kernel
theorem dX9_patternAt_17 : decode cX9_patternAt 17 = .ok (.irem, 1) := by decide +kernel
theorem dX9_patternAt_18 : decode cX9_patternAt 18 = .ok (.isub, 1) := by decide +kernel
theorem dX9_patternAt_19 : decode cX9_patternAt 19 = .ok (.ishr, 1) := by decide +kernel
theorem dX9_patternAt_20 : decode cX9_patternAt 20 = .ok (.iconst 1, 1) := by decide +kernel
theorem dX9_patternAt_21 : decode cX9_patternAt 21 = .ok (.iand, 1) := by decide +kernel
theorem dX9_patternAt_22 : decode cX9_patternAt 22 = .ok (.ireturn, 1) := by decide +kernel
theorem dX9_isOpen_0 : decode cX9_isOpen 0 = .ok (.aload_n 0, 1) := by decide +kernel
theorem dX9_isOpen_1 : decode cX9_isOpen 1 = .ok (.getfield 7, 3) := by decide +kernel
theorem dX9_isOpen_4 : decode cX9_isOpen 4 = .ok (.bipush 96, 2) := by decide +kernel
theorem dX9_isOpen_6 : decode cX9_isOpen 6 = .ok (.iaload, 1) := by decide +kernel
theorem dX9_isOpen_7 : decode cX9_isOpen 7 = .ok (.ifCond .ne 7, 3) := by decide +kernel
theorem dX9_isOpen_10 : decode cX9_isOpen 10 = .ok (.iconst 1, 1) := by decide +kernel
theorem dX9_isOpen_11 : decode cX9_isOpen 11 = .ok (.goto 4, 3) := by decide +kernel
theorem dX9_isOpen_14 : decode cX9_isOpen 14 = .ok (.iconst 0, 1) := by decide +kernel
theorem dX9_isOpen_15 : decode cX9_isOpen 15 = .ok (.istore_n 3, 1) := by decide +kernel
theorem dX9_isOpen_16 : decode cX9_isOpen 16 = .ok (.iconst 0, 1) := by decide +kernel
theorem dX9_isOpen_17 : decode cX9_isOpen 17 = .ok (.istore 4, 2) := by decide +kernel
theorem dX9_isOpen_19 : decode cX9_isOpen 19 = .ok (.iload 4, 2) := by decide +kernel
theorem dX9_isOpen_21 : decode cX9_isOpen 21 = .ok (.aload_n 0, 1) := by decide +kernel
theorem dX9_isOpen_22 : decode cX9_isOpen 22 = .ok (.getfield 7, 3) := by decide +kernel
theorem dX9_isOpen_25 : decode cX9_isOpen 25 = .ok (.bipush 96, 2) := by decide +kernel
theorem dX9_isOpen_27 : decode cX9_isOpen 27 = .ok (.iaload, 1) := by decide +kernel
theorem dX9_isOpen_28 : decode cX9_isOpen 28 = .ok (.if_icmp .ge 88, 3) := by decide +kernel
theorem dX9_isOpen_31 : decode cX9_isOpen 31 = .ok (.bipush 80, 2) := by decide +kernel
theorem dX9_isOpen_33 : decode cX9_isOpen 33 = .ok (.iconst 4, 1) := by decide +kernel
theorem dX9_isOpen_34 : decode cX9_isOpen 34 = .ok (.iload 4, 2) := by decide +kernel
theorem dX9_isOpen_36 : decode cX9_isOpen 36 = .ok (.imul, 1) := by decide +kernel
theorem dX9_isOpen_37 : decode cX9_isOpen 37 = .ok (.iadd, 1) := by decide +kernel
theorem dX9_isOpen_38 : decode cX9_isOpen 38 = .ok (.istore 5, 2) := by decide +kernel
theorem dX9_isOpen_40 : decode cX9_isOpen 40 = .ok (.iload_n 3, 1) := by decide +kernel
theorem dX9_isOpen_41 : decode cX9_isOpen 41 = .ok (.ifCond .ne 63, 3) := by decide +kernel
theorem dX9_isOpen_44 : decode cX9_isOpen 44 = .ok (.iload_n 1, 1) := by decide +kernel
theorem dX9_isOpen_45 : decode cX9_isOpen 45 = .ok (.aload_n 0, 1) := by decide +kernel
theorem dX9_isOpen_46 : decode cX9_isOpen 46 = .ok (.getfield 7, 3) := by decide +kernel
theorem dX9_isOpen_49 : decode cX9_isOpen 49 = .ok (.iload 5, 2) := by decide +kernel
theorem dX9_isOpen_51 : decode cX9_isOpen 51 = .ok (.iaload, 1) := by decide +kernel
theorem dX9_isOpen_52 : decode cX9_isOpen 52 = .ok (.isub, 1) := by decide +kernel
theorem dX9_isOpen_53 : decode cX9_isOpen 53 = .ok (.i2l, 1) := by decide +kernel
theorem dX9_isOpen_54 : decode cX9_isOpen 54 = .ok (.lconst 0, 1) := by decide +kernel
theorem dX9_isOpen_55 : decode cX9_isOpen 55 = .ok (.aload_n 0, 1) := by decide +kernel
theorem dX9_isOpen_56 : decode cX9_isOpen 56 = .ok (.getfield 7, 3) := by decide +kernel
theorem dX9_isOpen_59 : decode cX9_isOpen 59 = .ok (.iload 5, 2) := by decide +kernel
theorem dX9_isOpen_61 : decode cX9_isOpen 61 = .ok (.iconst 2, 1) := by decide +kernel
theorem dX9_isOpen_62 : decode cX9_isOpen 62 = .ok (.iadd, 1) := by decide +kernel
theorem dX9_isOpen_63 : decode cX9_isOpen 63 = .ok (.iaload, 1) := by decide +kernel
theorem dX9_isOpen_64 : decode cX9_isOpen 64 = .ok (.iconst 1, 1) := by decide +kernel
theorem dX9_isOpen_65 : decode cX9_isOpen 65 = .ok (.isub, 1) := by decide +kernel
theorem dX9_isOpen_66 : decode cX9_isOpen 66 = .ok (.i2l, 1) := by decide +kernel
theorem dX9_isOpen_67 : decode cX9_isOpen 67 = .ok (.invokestatic 37, 3) := by decide +kernel
theorem dX9_isOpen_70 : decode cX9_isOpen 70 = .ok (.ifCond .eq 38, 3) := by decide +kernel
theorem dX9_isOpen_73 : decode cX9_isOpen 73 = .ok (.iload_n 2, 1) := by decide +kernel
theorem dX9_isOpen_74 : decode cX9_isOpen 74 = .ok (.aload_n 0, 1) := by decide +kernel
theorem dX9_isOpen_75 : decode cX9_isOpen 75 = .ok (.getfield 7, 3) := by decide +kernel
theorem dX9_isOpen_78 : decode cX9_isOpen 78 = .ok (.iload 5, 2) := by decide +kernel
theorem dX9_isOpen_80 : decode cX9_isOpen 80 = .ok (.iconst 1, 1) := by decide +kernel
theorem dX9_isOpen_81 : decode cX9_isOpen 81 = .ok (.iadd, 1) := by decide +kernel
theorem dX9_isOpen_82 : decode cX9_isOpen 82 = .ok (.iaload, 1) := by decide +kernel
theorem dX9_isOpen_83 : decode cX9_isOpen 83 = .ok (.isub, 1) := by decide +kernel
theorem dX9_isOpen_84 : decode cX9_isOpen 84 = .ok (.i2l, 1) := by decide +kernel
theorem dX9_isOpen_85 : decode cX9_isOpen 85 = .ok (.lconst 0, 1) := by decide +kernel
theorem dX9_isOpen_86 : decode cX9_isOpen 86 = .ok (.aload_n 0, 1) := by decide +kernel
theorem dX9_isOpen_87 : decode cX9_isOpen 87 = .ok (.getfield 7, 3) := by decide +kernel
theorem dX9_isOpen_90 : decode cX9_isOpen 90 = .ok (.iload 5, 2) := by decide +kernel
theorem dX9_isOpen_92 : decode cX9_isOpen 92 = .ok (.iconst 3, 1) := by decide +kernel
theorem dX9_isOpen_93 : decode cX9_isOpen 93 = .ok (.iadd, 1) := by decide +kernel
theorem dX9_isOpen_94 : decode cX9_isOpen 94 = .ok (.iaload, 1) := by decide +kernel
theorem dX9_isOpen_95 : decode cX9_isOpen 95 = .ok (.iconst 1, 1) := by decide +kernel
theorem dX9_isOpen_96 : decode cX9_isOpen 96 = .ok (.isub, 1) := by decide +kernel
theorem dX9_isOpen_97 : decode cX9_isOpen 97 = .ok (.i2l, 1) := by decide +kernel
theorem dX9_isOpen_98 : decode cX9_isOpen 98 = .ok (.invokestatic 37, 3) := by decide +kernel
theorem dX9_isOpen_101 : decode cX9_isOpen 101 = .ok (.ifCond .eq 7, 3) := by decide +kernel
theorem dX9_isOpen_104 : decode cX9_isOpen 104 = .ok (.iconst 1, 1) := by decide +kernel
theorem dX9_isOpen_105 : decode cX9_isOpen 105 = .ok (.goto 4, 3) := by decide +kernel
theorem dX9_isOpen_108 : decode cX9_isOpen 108 = .ok (.iconst 0, 1) := by decide +kernel
theorem dX9_isOpen_109 : decode cX9_isOpen 109 = .ok (.istore_n 3, 1) := by decide +kernel
theorem dX9_isOpen_110 : decode cX9_isOpen 110 = .ok (.iinc 4 1, 3) := by decide +kernel
theorem dX9_isOpen_113 : decode cX9_isOpen 113 = .ok (.goto (-94), 3) := by decide +kernel
theorem dX9_isOpen_116 : decode cX9_isOpen 116 = .ok (.iload_n 3, 1) := by decide +kernel
theorem dX9_isOpen_117 : decode cX9_isOpen 117 = .ok (.ireturn, 1) := by decide +kernel
theorem dX9_joinsAt_0 : decode cX9_joinsAt 0 = .ok (.iload_n 2, 1) := by decide +kernel
theorem dX9_joinsAt_1 : decode cX9_joinsAt 1 = .ok (.iload_n 3, 1) := by decide +kernel
theorem dX9_joinsAt_2 : decode cX9_joinsAt 2 = .ok (.invokestatic 57, 3) := by decide +kernel
theorem dX9_joinsAt_5 : decode cX9_joinsAt 5 = .ok (.ifCond .eq 12, 3) := by decide +kernel
theorem dX9_joinsAt_8 : decode cX9_joinsAt 8 = .ok (.aload_n 0, 1) := by decide +kernel
theorem dX9_joinsAt_9 : decode cX9_joinsAt 9 = .ok (.iload_n 2, 1) := by decide +kernel
theorem dX9_joinsAt_10 : decode cX9_joinsAt 10 = .ok (.iload_n 3, 1) := by decide +kernel
theorem dX9_joinsAt_11 : decode cX9_joinsAt 11 = .ok (.invokevirtual 69, 3) := by decide +kernel
theorem dX9_joinsAt_14 : decode cX9_joinsAt 14 = .ok (.ifCond .ne 5, 3) := by decide +kernel
theorem dX9_joinsAt_17 : decode cX9_joinsAt 17 = .ok (.iconst 0, 1) := by decide +kernel
theorem dX9_joinsAt_18 : decode cX9_joinsAt 18 = .ok (.ireturn, 1) := by decide +kernel
theorem dX9_joinsAt_19 : decode cX9_joinsAt 19 = .ok (.iconst 4, 1) := by decide +kernel
theorem dX9_joinsAt_20 : decode cX9_joinsAt 20 = .ok (.iload 4, 2) := by decide +kernel
theorem dX9_joinsAt_22 : decode cX9_joinsAt 22 = .ok (.imul, 1) := by decide +kernel
theorem dX9_joinsAt_23 : decode cX9_joinsAt 23 = .ok (.iconst 2, 1) := by decide +kernel
theorem dX9_joinsAt_24 : decode cX9_joinsAt 24 = .ok (.aload_n 0, 1) := by decide +kernel
theorem dX9_joinsAt_25 : decode cX9_joinsAt 25 = .ok (.iload_n 2, 1) := by decide +kernel
theorem dX9_joinsAt_26 : decode cX9_joinsAt 26 = .ok (.iload_n 3, 1) := by decide +kernel
theorem dX9_joinsAt_27 : decode cX9_joinsAt 27 = .ok (.invokevirtual 72, 3) := by decide +kernel
theorem dX9_joinsAt_30 : decode cX9_joinsAt 30 = .ok (.imul, 1) := by decide +kernel
theorem dX9_joinsAt_31 : decode cX9_joinsAt 31 = .ok (.iadd, 1) := by decide +kernel
theorem dX9_joinsAt_32 : decode cX9_joinsAt 32 = .ok (.aload_n 0, 1) := by decide +kernel
theorem dX9_joinsAt_33 : decode cX9_joinsAt 33 = .ok (.iload_n 1, 1) := by decide +kernel
theorem dX9_joinsAt_34 : decode cX9_joinsAt 34 = .ok (.iload_n 2, 1) := by decide +kernel
theorem dX9_joinsAt_35 : decode cX9_joinsAt 35 = .ok (.iload_n 3, 1) := by decide +kernel
theorem dX9_joinsAt_36 : decode cX9_joinsAt 36 = .ok (.invokevirtual 65, 3) := by decide +kernel
theorem dX9_joinsAt_39 : decode cX9_joinsAt 39 = .ok (.iadd, 1) := by decide +kernel
theorem dX9_joinsAt_40 : decode cX9_joinsAt 40 = .ok (.istore 6, 2) := by decide +kernel
theorem dX9_joinsAt_42 : decode cX9_joinsAt 42 = .ok (.aload_n 0, 1) := by decide +kernel
theorem dX9_joinsAt_43 : decode cX9_joinsAt 43 = .ok (.iload_n 1, 1) := by decide +kernel
theorem dX9_joinsAt_44 : decode cX9_joinsAt 44 = .ok (.iload_n 2, 1) := by decide +kernel
theorem dX9_joinsAt_45 : decode cX9_joinsAt 45 = .ok (.iload_n 3, 1) := by decide +kernel
theorem dX9_joinsAt_46 : decode cX9_joinsAt 46 = .ok (.iload 5, 2) := by decide +kernel
theorem dX9_joinsAt_48 : decode cX9_joinsAt 48 = .ok (.iload 6, 2) := by decide +kernel
theorem dX9_joinsAt_50 : decode cX9_joinsAt 50 = .ok (.ishr, 1) := by decide +kernel
theorem dX9_joinsAt_51 : decode cX9_joinsAt 51 = .ok (.iconst 1, 1) := by decide +kernel
theorem dX9_joinsAt_52 : decode cX9_joinsAt 52 = .ok (.iand, 1) := by decide +kernel
theorem dX9_joinsAt_53 : decode cX9_joinsAt 53 = .ok (.invokevirtual 75, 3) := by decide +kernel
theorem dX9_joinsAt_56 : decode cX9_joinsAt 56 = .ok (.ireturn, 1) := by decide +kernel
theorem dX9_dot_0 : decode cX9_dot 0 = .ok (.iload_n 1, 1) := by decide +kernel
theorem dX9_dot_1 : decode cX9_dot 1 = .ok (.invokestatic 79, 3) := by decide +kernel
theorem dX9_dot_4 : decode cX9_dot 4 = .ok (.ifCond .eq 22, 3) := by decide +kernel
theorem dX9_dot_7 : decode cX9_dot 7 = .ok (.iload_n 2, 1) := by decide +kernel
theorem dX9_dot_8 : decode cX9_dot 8 = .ok (.iload_n 3, 1) := by decide +kernel
theorem dX9_dot_9 : decode cX9_dot 9 = .ok (.invokestatic 57, 3) := by decide +kernel
theorem dX9_dot_12 : decode cX9_dot 12 = .ok (.ifCond .eq 14, 3) := by decide +kernel
theorem dX9_dot_15 : decode cX9_dot 15 = .ok (.iload 4, 2) := by decide +kernel
theorem dX9_dot_17 : decode cX9_dot 17 = .ok (.i2l, 1) := by decide +kernel
theorem dX9_dot_18 : decode cX9_dot 18 = .ok (.lconst 0, 1) := by decide +kernel
theorem dX9_dot_19 : decode cX9_dot 19 = .ok (.lconst 1, 1) := by decide +kernel
theorem dX9_dot_20 : decode cX9_dot 20 = .ok (.invokestatic 37, 3) := by decide +kernel
theorem dX9_dot_23 : decode cX9_dot 23 = .ok (.ifCond .ne 10, 3) := by decide +kernel
theorem dX9_dot_26 : decode cX9_dot 26 = .ok (.aload_n 0, 1) := by decide +kernel
theorem dX9_dot_27 : decode cX9_dot 27 = .ok (.bipush (-2), 2) := by decide +kernel
theorem dX9_dot_29 : decode cX9_dot 29 = .ok (.invokevirtual 83, 3) := by decide +kernel
theorem dX9_dot_32 : decode cX9_dot 32 = .ok (.ireturn, 1) := by decide +kernel
theorem dX9_dot_33 : decode cX9_dot 33 = .ok (.aload_n 0, 1) := by decide +kernel
theorem dX9_dot_34 : decode cX9_dot 34 = .ok (.invokevirtual 87, 3) := by decide +kernel
theorem dX9_dot_37 : decode cX9_dot 37 = .ok (.aload_n 0, 1) := by decide +kernel
theorem dX9_dot_38 : decode cX9_dot 38 = .ok (.iload_n 1, 1) := by decide +kernel
theorem dX9_dot_39 : decode cX9_dot 39 = .ok (.iload_n 2, 1) := by decide +kernel
theorem dX9_dot_40 : decode cX9_dot 40 = .ok (.iload_n 3, 1) := by decide +kernel
theorem dX9_dot_41 : decode cX9_dot 41 = .ok (.iload 4, 2) := by decide +kernel
theorem dX9_dot_43 : decode cX9_dot 43 = .ok (.invokevirtual 75, 3) := by decide +kernel
theorem dX9_dot_46 : decode cX9_dot 46 = .ok (.istore 5, 2) := by decide +kernel
theorem dX9_dot_48 : decode cX9_dot 48 = .ok (.iload 5, 2) := by decide +kernel
theorem dX9_dot_50 : decode cX9_dot 50 = .ok (.iconst 1, 1) := by decide +kernel
theorem dX9_dot_51 : decode cX9_dot 51 = .ok (.if_icmp .ne 10, 3) := by decide +kernel
theorem dX9_dot_54 : decode cX9_dot 54 = .ok (.iconst 1, 1) := by decide +kernel
theorem dX9_dot_55 : decode cX9_dot 55 = .ok (.iload 4, 2) := by decide +kernel
theorem dX9_dot_57 : decode cX9_dot 57 = .ok (.isub, 1) := by decide +kernel
theorem dX9_dot_58 : decode cX9_dot 58 = .ok (.goto 5, 3) := by decide +kernel
theorem dX9_dot_61 : decode cX9_dot 61 = .ok (.iload 4, 2) := by decide +kernel
theorem dX9_dot_63 : decode cX9_dot 63 = .ok (.ireturn, 1) := by decide +kernel
theorem dX9_pattern_0 : decode cX9_pattern 0 = .ok (.iload_n 1, 1) := by decide +kernel
theorem dX9_pattern_1 : decode cX9_pattern 1 = .ok (.i2l, 1) := by decide +kernel
theorem dX9_pattern_2 : decode cX9_pattern 2 = .ok (.lconst 0, 1) := by decide +kernel
theorem dX9_pattern_3 : decode cX9_pattern 3 = .ok (.ldc2_w 90, 3) := by decide +kernel
theorem dX9_pattern_6 : decode cX9_pattern 6 = .ok (.invokestatic 37, 3) := by decide +kernel
theorem dX9_pattern_9 : decode cX9_pattern 9 = .ok (.ifCond .eq 15, 3) := by decide +kernel
theorem dX9_pattern_12 : decode cX9_pattern 12 = .ok (.iload_n 2, 1) := by decide +kernel
theorem dX9_pattern_13 : decode cX9_pattern 13 = .ok (.i2l, 1) := by decide +kernel
theorem dX9_pattern_14 : decode cX9_pattern 14 = .ok (.lconst 0, 1) := by decide +kernel
theorem dX9_pattern_15 : decode cX9_pattern 15 = .ok (.ldc2_w 47, 3) := by decide +kernel
theorem dX9_pattern_18 : decode cX9_pattern 18 = .ok (.invokestatic 37, 3) := by decide +kernel
theorem dX9_pattern_21 : decode cX9_pattern 21 = .ok (.ifCond .ne 10, 3) := by decide +kernel
theorem dX9_pattern_24 : decode cX9_pattern 24 = .ok (.aload_n 0, 1) := by decide +kernel
theorem dX9_pattern_25 : decode cX9_pattern 25 = .ok (.bipush (-2), 2) := by decide +kernel
theorem dX9_pattern_27 : decode cX9_pattern 27 = .ok (.invokevirtual 83, 3) := by decide +kernel
theorem dX9_pattern_30 : decode cX9_pattern 30 = .ok (.ireturn, 1) := by decide +kernel
theorem dX9_pattern_31 : decode cX9_pattern 31 = .ok (.aload_n 0, 1) := by decide +kernel
theorem dX9_pattern_32 : decode cX9_pattern 32 = .ok (.invokevirtual 87, 3) := by decide +kernel
theorem dX9_pattern_35 : decode cX9_pattern 35 = .ok (.aload_n 0, 1) := by decide +kernel
theorem dX9_pattern_36 : decode cX9_pattern 36 = .ok (.getfield 7, 3) := by decide +kernel
theorem dX9_pattern_39 : decode cX9_pattern 39 = .ok (.bipush 72, 2) := by decide +kernel
theorem dX9_pattern_41 : decode cX9_pattern 41 = .ok (.iload_n 1, 1) := by decide +kernel
theorem dX9_pattern_42 : decode cX9_pattern 42 = .ok (.iadd, 1) := by decide +kernel
theorem dX9_pattern_43 : decode cX9_pattern 43 = .ok (.iaload, 1) := by decide +kernel
theorem dX9_pattern_44 : decode cX9_pattern 44 = .ok (.istore_n 3, 1) := by decide +kernel
theorem dX9_pattern_45 : decode cX9_pattern 45 = .ok (.aload_n 0, 1) := by decide +kernel
theorem dX9_pattern_46 : decode cX9_pattern 46 = .ok (.getfield 7, 3) := by decide +kernel
theorem dX9_pattern_49 : decode cX9_pattern 49 = .ok (.bipush 72, 2) := by decide +kernel
theorem dX9_pattern_51 : decode cX9_pattern 51 = .ok (.iload_n 1, 1) := by decide +kernel
theorem dX9_pattern_52 : decode cX9_pattern 52 = .ok (.iadd, 1) := by decide +kernel
theorem dX9_pattern_53 : decode cX9_pattern 53 = .ok (.iload_n 2, 1) := by decide +kernel
theorem dX9_pattern_54 : decode cX9_pattern 54 = .ok (.iastore, 1) := by decide +kernel
theorem dX9_pattern_55 : decode cX9_pattern 55 = .ok (.iload_n 3, 1) := by decide +kernel
theorem dX9_pattern_56 : decode cX9_pattern 56 = .ok (.ireturn, 1) := by decide +kernel
theorem dX9_dots_0 : decode cX9_dots 0 = .ok (.iconst 0, 1) := by decide +kernel
theorem dX9_dots_1 : decode cX9_dots 1 = .ok (.istore_n 2, 1) := by decide +kernel
theorem dX9_dots_2 : decode cX9_dots 2 = .ok (.iconst 0, 1) := by decide +kernel
theorem dX9_dots_3 : decode cX9_dots 3 = .ok (.istore_n 3, 1) := by decide +kernel
theorem dX9_dots_4 : decode cX9_dots 4 = .ok (.iload_n 3, 1) := by decide +kernel
theorem dX9_dots_5 : decode cX9_dots 5 = .ok (.bipush 24, 2) := by decide +kernel
theorem dX9_dots_7 : decode cX9_dots 7 = .ok (.if_icmp .ge 36, 3) := by decide +kernel
theorem dX9_dots_10 : decode cX9_dots 10 = .ok (.iconst 0, 1) := by decide +kernel
theorem dX9_dots_11 : decode cX9_dots 11 = .ok (.istore 4, 2) := by decide +kernel
theorem dX9_dots_13 : decode cX9_dots 13 = .ok (.iload 4, 2) := by decide +kernel
theorem dX9_dots_15 : decode cX9_dots 15 = .ok (.bipush 32, 2) := by decide +kernel
theorem dX9_dots_17 : decode cX9_dots 17 = .ok (.if_icmp .ge 20, 3) := by decide +kernel
theorem dX9_dots_20 : decode cX9_dots 20 = .ok (.iload_n 2, 1) := by decide +kernel
theorem dX9_dots_21 : decode cX9_dots 21 = .ok (.aload_n 0, 1) := by decide +kernel
theorem dX9_dots_22 : decode cX9_dots 22 = .ok (.iload_n 1, 1) := by decide +kernel
theorem dX9_dots_23 : decode cX9_dots 23 = .ok (.iload 4, 2) := by decide +kernel
theorem dX9_dots_25 : decode cX9_dots 25 = .ok (.iload_n 3, 1) := by decide +kernel
theorem dX9_dots_26 : decode cX9_dots 26 = .ok (.invokevirtual 65, 3) := by decide +kernel
theorem dX9_dots_29 : decode cX9_dots 29 = .ok (.iadd, 1) := by decide +kernel
theorem dX9_dots_30 : decode cX9_dots 30 = .ok (.istore_n 2, 1) := by decide +kernel
theorem dX9_dots_31 : decode cX9_dots 31 = .ok (.iinc 4 1, 3) := by decide +kernel
theorem dX9_dots_34 : decode cX9_dots 34 = .ok (.goto (-21), 3) := by decide +kernel
theorem dX9_dots_37 : decode cX9_dots 37 = .ok (.iinc 3 1, 3) := by decide +kernel
theorem dX9_dots_40 : decode cX9_dots 40 = .ok (.goto (-36), 3) := by decide +kernel
theorem dX9_dots_43 : decode cX9_dots 43 = .ok (.iload_n 2, 1) := by decide +kernel
theorem dX9_dots_44 : decode cX9_dots 44 = .ok (.ireturn, 1) := by decide +kernel
theorem dX9_draw_0 : decode cX9_draw 0 = .ok (.iload_n 1, 1) := by decide +kernel
theorem dX9_draw_1 : decode cX9_draw 1 = .ok (.invokestatic 79, 3) := by decide +kernel
theorem dX9_draw_4 : decode cX9_draw 4 = .ok (.ifCond .eq 15, 3) := by decide +kernel
theorem dX9_draw_7 : decode cX9_draw 7 = .ok (.iload_n 2, 1) := by decide +kernel
theorem dX9_draw_8 : decode cX9_draw 8 = .ok (.i2l, 1) := by decide +kernel
theorem dX9_draw_9 : decode cX9_draw 9 = .ok (.lconst 0, 1) := by decide +kernel
theorem dX9_draw_10 : decode cX9_draw 10 = .ok (.ldc2_w 92, 3) := by decide +kernel
theorem dX9_draw_13 : decode cX9_draw 13 = .ok (.invokestatic 37, 3) := by decide +kernel
theorem dX9_draw_16 : decode cX9_draw 16 = .ok (.ifCond .ne 10, 3) := by decide +kernel
theorem dX9_draw_19 : decode cX9_draw 19 = .ok (.aload_n 0, 1) := by decide +kernel
theorem dX9_draw_20 : decode cX9_draw 20 = .ok (.bipush (-2), 2) := by decide +kernel
theorem dX9_draw_22 : decode cX9_draw 22 = .ok (.invokevirtual 83, 3) := by decide +kernel
theorem dX9_draw_25 : decode cX9_draw 25 = .ok (.ireturn, 1) := by decide +kernel
theorem dX9_draw_26 : decode cX9_draw 26 = .ok (.iload_n 2, 1) := by decide +kernel
theorem dX9_draw_27 : decode cX9_draw 27 = .ok (.i2l, 1) := by decide +kernel
theorem dX9_draw_28 : decode cX9_draw 28 = .ok (.lstore_n 3, 1) := by decide +kernel
theorem dX9_draw_29 : decode cX9_draw 29 = .ok (.aload_n 0, 1) := by decide +kernel
theorem dX9_draw_30 : decode cX9_draw 30 = .ok (.invokevirtual 87, 3) := by decide +kernel
theorem dX9_draw_33 : decode cX9_draw 33 = .ok (.iconst 0, 1) := by decide +kernel
theorem dX9_draw_34 : decode cX9_draw 34 = .ok (.istore 5, 2) := by decide +kernel
theorem dX9_draw_36 : decode cX9_draw 36 = .ok (.iload 5, 2) := by decide +kernel
theorem dX9_draw_38 : decode cX9_draw 38 = .ok (.bipush 24, 2) := by decide +kernel
theorem dX9_draw_40 : decode cX9_draw 40 = .ok (.if_icmp .ge 74, 3) := by decide +kernel
theorem dX9_draw_43 : decode cX9_draw 43 = .ok (.lconst 0, 1) := by decide +kernel
theorem dX9_draw_44 : decode cX9_draw 44 = .ok (.lstore 6, 2) := by decide +kernel
theorem dX9_draw_46 : decode cX9_draw 46 = .ok (.iconst 0, 1) := by decide +kernel
theorem dX9_draw_47 : decode cX9_draw 47 = .ok (.istore 8, 2) := by decide +kernel
theorem dX9_draw_49 : decode cX9_draw 49 = .ok (.iload 8, 2) := by decide +kernel
theorem dX9_draw_51 : decode cX9_draw 51 = .ok (.iconst 2, 1) := by decide +kernel
theorem dX9_draw_52 : decode cX9_draw 52 = .ok (.if_icmp .ge 41, 3) := by decide +kernel
theorem dX9_draw_55 : decode cX9_draw 55 = .ok (.lload_n 3, 1) := by decide +kernel
theorem dX9_draw_56 : decode cX9_draw 56 = .ok (.ldc2_w 94, 3) := by decide +kernel
theorem dX9_draw_59 : decode cX9_draw 59 = .ok (.lmul, 1) := by decide +kernel
theorem dX9_draw_60 : decode cX9_draw 60 = .ok (.ldc2_w 96, 3) := by decide +kernel
theorem dX9_draw_63 : decode cX9_draw 63 = .ok (.ladd, 1) := by decide +kernel
theorem dX9_draw_64 : decode cX9_draw 64 = .ok (.ldc2_w 98, 3) := by decide +kernel
theorem dX9_draw_67 : decode cX9_draw 67 = .ok (.lrem, 1) := by decide +kernel
theorem dX9_draw_68 : decode cX9_draw 68 = .ok (.lstore_n 3, 1) := by decide +kernel
theorem dX9_draw_69 : decode cX9_draw 69 = .ok (.ldc2_w 100, 3) := by decide +kernel
theorem dX9_draw_72 : decode cX9_draw 72 = .ok (.lload 6, 2) := by decide +kernel
theorem dX9_draw_74 : decode cX9_draw 74 = .ok (.lmul, 1) := by decide +kernel
theorem dX9_draw_75 : decode cX9_draw 75 = .ok (.lload_n 3, 1) := by decide +kernel
theorem dX9_draw_76 : decode cX9_draw 76 = .ok (.ldc2_w 102, 3) := by decide +kernel
theorem dX9_draw_79 : decode cX9_draw 79 = .ok (.ldiv, 1) := by decide +kernel
theorem dX9_draw_80 : decode cX9_draw 80 = .ok (.ldc2_w 100, 3) := by decide +kernel
theorem dX9_draw_83 : decode cX9_draw 83 = .ok (.lrem, 1) := by decide +kernel
theorem dX9_draw_84 : decode cX9_draw 84 = .ok (.ladd, 1) := by decide +kernel
theorem dX9_draw_85 : decode cX9_draw 85 = .ok (.lstore 6, 2) := by decide +kernel
theorem dX9_draw_87 : decode cX9_draw 87 = .ok (.iinc 8 1, 3) := by decide +kernel
theorem dX9_draw_90 : decode cX9_draw 90 = .ok (.goto (-41), 3) := by decide +kernel
theorem dX9_draw_93 : decode cX9_draw 93 = .ok (.aload_n 0, 1) := by decide +kernel
theorem dX9_draw_94 : decode cX9_draw 94 = .ok (.getfield 7, 3) := by decide +kernel
theorem dX9_draw_97 : decode cX9_draw 97 = .ok (.bipush 24, 2) := by decide +kernel
theorem dX9_draw_99 : decode cX9_draw 99 = .ok (.iload_n 1, 1) := by decide +kernel
theorem dX9_draw_100 : decode cX9_draw 100 = .ok (.imul, 1) := by decide +kernel
theorem dX9_draw_101 : decode cX9_draw 101 = .ok (.iload 5, 2) := by decide +kernel
theorem dX9_draw_103 : decode cX9_draw 103 = .ok (.iadd, 1) := by decide +kernel
theorem dX9_draw_104 : decode cX9_draw 104 = .ok (.lload 6, 2) := by decide +kernel
theorem dX9_draw_106 : decode cX9_draw 106 = .ok (.l2i, 1) := by decide +kernel
theorem dX9_draw_107 : decode cX9_draw 107 = .ok (.iastore, 1) := by decide +kernel
theorem dX9_draw_108 : decode cX9_draw 108 = .ok (.iinc 5 1, 3) := by decide +kernel
theorem dX9_draw_111 : decode cX9_draw 111 = .ok (.goto (-75), 3) := by decide +kernel
theorem dX9_draw_114 : decode cX9_draw 114 = .ok (.aload_n 0, 1) := by decide +kernel
theorem dX9_draw_115 : decode cX9_draw 115 = .ok (.iload_n 1, 1) := by decide +kernel
theorem dX9_draw_116 : decode cX9_draw 116 = .ok (.invokevirtual 104, 3) := by decide +kernel
theorem dX9_draw_119 : decode cX9_draw 119 = .ok (.ireturn, 1) := by decide +kernel
theorem dX9_opens_0 : decode cX9_opens 0 = .ok (.bipush 80, 2) := by decide +kernel
theorem dX9_opens_2 : decode cX9_opens 2 = .ok (.iconst 4, 1) := by decide +kernel
theorem dX9_opens_3 : decode cX9_opens 3 = .ok (.aload_n 0, 1) := by decide +kernel
theorem dX9_opens_4 : decode cX9_opens 4 = .ok (.getfield 7, 3) := by decide +kernel
theorem dX9_opens_7 : decode cX9_opens 7 = .ok (.bipush 96, 2) := by decide +kernel
theorem dX9_opens_9 : decode cX9_opens 9 = .ok (.iaload, 1) := by decide +kernel
theorem dX9_opens_10 : decode cX9_opens 10 = .ok (.imul, 1) := by decide +kernel
theorem dX9_opens_11 : decode cX9_opens 11 = .ok (.iadd, 1) := by decide +kernel
theorem dX9_opens_12 : decode cX9_opens 12 = .ok (.istore 5, 2) := by decide +kernel
theorem dX9_opens_14 : decode cX9_opens 14 = .ok (.aload_n 0, 1) := by decide +kernel
theorem dX9_opens_15 : decode cX9_opens 15 = .ok (.getfield 7, 3) := by decide +kernel
theorem dX9_opens_18 : decode cX9_opens 18 = .ok (.iload 5, 2) := by decide +kernel
theorem dX9_opens_20 : decode cX9_opens 20 = .ok (.iload_n 1, 1) := by decide +kernel
theorem dX9_opens_21 : decode cX9_opens 21 = .ok (.iastore, 1) := by decide +kernel
theorem dX9_opens_22 : decode cX9_opens 22 = .ok (.aload_n 0, 1) := by decide +kernel
theorem dX9_opens_23 : decode cX9_opens 23 = .ok (.getfield 7, 3) := by decide +kernel
theorem dX9_opens_26 : decode cX9_opens 26 = .ok (.iload 5, 2) := by decide +kernel
theorem dX9_opens_28 : decode cX9_opens 28 = .ok (.iconst 1, 1) := by decide +kernel
theorem dX9_opens_29 : decode cX9_opens 29 = .ok (.iadd, 1) := by decide +kernel
theorem dX9_opens_30 : decode cX9_opens 30 = .ok (.iload_n 2, 1) := by decide +kernel
theorem dX9_opens_31 : decode cX9_opens 31 = .ok (.iastore, 1) := by decide +kernel
theorem dX9_opens_32 : decode cX9_opens 32 = .ok (.aload_n 0, 1) := by decide +kernel
theorem dX9_opens_33 : decode cX9_opens 33 = .ok (.getfield 7, 3) := by decide +kernel
theorem dX9_opens_36 : decode cX9_opens 36 = .ok (.iload 5, 2) := by decide +kernel
theorem dX9_opens_38 : decode cX9_opens 38 = .ok (.iconst 2, 1) := by decide +kernel
theorem dX9_opens_39 : decode cX9_opens 39 = .ok (.iadd, 1) := by decide +kernel
theorem dX9_opens_40 : decode cX9_opens 40 = .ok (.iload_n 3, 1) := by decide +kernel
theorem dX9_opens_41 : decode cX9_opens 41 = .ok (.iastore, 1) := by decide +kernel
theorem dX9_opens_42 : decode cX9_opens 42 = .ok (.aload_n 0, 1) := by decide +kernel
theorem dX9_opens_43 : decode cX9_opens 43 = .ok (.getfield 7, 3) := by decide +kernel
theorem dX9_opens_46 : decode cX9_opens 46 = .ok (.iload 5, 2) := by decide +kernel
theorem dX9_opens_48 : decode cX9_opens 48 = .ok (.iconst 3, 1) := by decide +kernel
theorem dX9_opens_49 : decode cX9_opens 49 = .ok (.iadd, 1) := by decide +kernel
theorem dX9_opens_50 : decode cX9_opens 50 = .ok (.iload 4, 2) := by decide +kernel
theorem dX9_opens_52 : decode cX9_opens 52 = .ok (.iastore, 1) := by decide +kernel
theorem dX9_opens_53 : decode cX9_opens 53 = .ok (.aload_n 0, 1) := by decide +kernel
theorem dX9_opens_54 : decode cX9_opens 54 = .ok (.getfield 7, 3) := by decide +kernel
theorem dX9_opens_57 : decode cX9_opens 57 = .ok (.bipush 96, 2) := by decide +kernel
theorem dX9_opens_59 : decode cX9_opens 59 = .ok (.dup2, 1) := by decide +kernel
theorem dX9_opens_60 : decode cX9_opens 60 = .ok (.iaload, 1) := by decide +kernel
theorem dX9_opens_61 : decode cX9_opens 61 = .ok (.iconst 1, 1) := by decide +kernel
theorem dX9_opens_62 : decode cX9_opens 62 = .ok (.iadd, 1) := by decide +kernel
theorem dX9_opens_63 : decode cX9_opens 63 = .ok (.iastore, 1) := by decide +kernel
theorem dX9_opens_64 : decode cX9_opens 64 = .ok (.return_, 1) := by decide +kernel
theorem dX9_opening_0 : decode cX9_opening 0 = .ok (.iload_n 1, 1) := by decide +kernel
theorem dX9_opening_1 : decode cX9_opening 1 = .ok (.iload_n 2, 1) := by decide +kernel
theorem dX9_opening_2 : decode cX9_opening 2 = .ok (.invokestatic 107, 3) := by decide +kernel
theorem dX9_opening_5 : decode cX9_opening 5 = .ok (.ifCond .eq 12, 3) := by decide +kernel
theorem dX9_opening_8 : decode cX9_opening 8 = .ok (.iload_n 3, 1) := by decide +kernel
theorem dX9_opening_9 : decode cX9_opening 9 = .ok (.iload 4, 2) := by decide +kernel
theorem dX9_opening_11 : decode cX9_opening 11 = .ok (.invokestatic 110, 3) := by decide +kernel
theorem dX9_opening_14 : decode cX9_opening 14 = .ok (.ifCond .ne 10, 3) := by decide +kernel
theorem dX9_opening_17 : decode cX9_opening 17 = .ok (.aload_n 0, 1) := by decide +kernel
theorem dX9_opening_18 : decode cX9_opening 18 = .ok (.bipush (-2), 2) := by decide +kernel
theorem dX9_opening_20 : decode cX9_opening 20 = .ok (.invokevirtual 83, 3) := by decide +kernel
theorem dX9_opening_23 : decode cX9_opening 23 = .ok (.ireturn, 1) := by decide +kernel
theorem dX9_opening_24 : decode cX9_opening 24 = .ok (.aload_n 0, 1) := by decide +kernel
theorem dX9_opening_25 : decode cX9_opening 25 = .ok (.getfield 7, 3) := by decide +kernel
theorem dX9_opening_28 : decode cX9_opening 28 = .ok (.bipush 96, 2) := by decide +kernel
theorem dX9_opening_30 : decode cX9_opening 30 = .ok (.iaload, 1) := by decide +kernel
theorem dX9_opening_31 : decode cX9_opening 31 = .ok (.iconst 4, 1) := by decide +kernel
theorem dX9_opening_32 : decode cX9_opening 32 = .ok (.if_icmp .ne 8, 3) := by decide +kernel
theorem dX9_opening_35 : decode cX9_opening 35 = .ok (.aload_n 0, 1) := by decide +kernel
theorem dX9_opening_36 : decode cX9_opening 36 = .ok (.invokevirtual 113, 3) := by decide +kernel
theorem dX9_opening_39 : decode cX9_opening 39 = .ok (.ireturn, 1) := by decide +kernel
theorem dX9_opening_40 : decode cX9_opening 40 = .ok (.aload_n 0, 1) := by decide +kernel
theorem dX9_opening_41 : decode cX9_opening 41 = .ok (.invokevirtual 87, 3) := by decide +kernel
theorem dX9_opening_44 : decode cX9_opening 44 = .ok (.aload_n 0, 1) := by decide +kernel
theorem dX9_opening_45 : decode cX9_opening 45 = .ok (.iload_n 1, 1) := by decide +kernel
theorem dX9_opening_46 : decode cX9_opening 46 = .ok (.iload_n 2, 1) := by decide +kernel
theorem dX9_opening_47 : decode cX9_opening 47 = .ok (.iload_n 3, 1) := by decide +kernel
theorem dX9_opening_48 : decode cX9_opening 48 = .ok (.iload 4, 2) := by decide +kernel
theorem dX9_opening_50 : decode cX9_opening 50 = .ok (.invokevirtual 117, 3) := by decide +kernel
theorem dX9_opening_53 : decode cX9_opening 53 = .ok (.aload_n 0, 1) := by decide +kernel
theorem dX9_opening_54 : decode cX9_opening 54 = .ok (.getfield 7, 3) := by decide +kernel
theorem dX9_opening_57 : decode cX9_opening 57 = .ok (.bipush 96, 2) := by decide +kernel
theorem dX9_opening_59 : decode cX9_opening 59 = .ok (.iaload, 1) := by decide +kernel
theorem dX9_opening_60 : decode cX9_opening 60 = .ok (.ireturn, 1) := by decide +kernel
theorem dX9_shuts_0 : decode cX9_shuts 0 = .ok (.aload_n 0, 1) := by decide +kernel
theorem dX9_shuts_1 : decode cX9_shuts 1 = .ok (.getfield 7, 3) := by decide +kernel
theorem dX9_shuts_4 : decode cX9_shuts 4 = .ok (.bipush 96, 2) := by decide +kernel
theorem dX9_shuts_6 : decode cX9_shuts 6 = .ok (.iaload, 1) := by decide +kernel
theorem dX9_shuts_7 : decode cX9_shuts 7 = .ok (.istore_n 1, 1) := by decide +kernel
theorem dX9_shuts_8 : decode cX9_shuts 8 = .ok (.bipush 80, 2) := by decide +kernel
theorem dX9_shuts_10 : decode cX9_shuts 10 = .ok (.istore_n 2, 1) := by decide +kernel
theorem dX9_shuts_11 : decode cX9_shuts 11 = .ok (.iload_n 2, 1) := by decide +kernel
theorem dX9_shuts_12 : decode cX9_shuts 12 = .ok (.bipush 97, 2) := by decide +kernel
theorem dX9_shuts_14 : decode cX9_shuts 14 = .ok (.if_icmp .ge 16, 3) := by decide +kernel
theorem dX9_shuts_17 : decode cX9_shuts 17 = .ok (.aload_n 0, 1) := by decide +kernel
theorem dX9_shuts_18 : decode cX9_shuts 18 = .ok (.getfield 7, 3) := by decide +kernel
theorem dX9_shuts_21 : decode cX9_shuts 21 = .ok (.iload_n 2, 1) := by decide +kernel
theorem dX9_shuts_22 : decode cX9_shuts 22 = .ok (.iconst 0, 1) := by decide +kernel
theorem dX9_shuts_23 : decode cX9_shuts 23 = .ok (.iastore, 1) := by decide +kernel
theorem dX9_shuts_24 : decode cX9_shuts 24 = .ok (.iinc 2 1, 3) := by decide +kernel
theorem dX9_shuts_27 : decode cX9_shuts 27 = .ok (.goto (-16), 3) := by decide +kernel
theorem dX9_shuts_30 : decode cX9_shuts 30 = .ok (.iload_n 1, 1) := by decide +kernel
theorem dX9_shuts_31 : decode cX9_shuts 31 = .ok (.ireturn, 1) := by decide +kernel
theorem dX9_closes_0 : decode cX9_closes 0 = .ok (.aload_n 0, 1) := by decide +kernel
theorem dX9_closes_1 : decode cX9_closes 1 = .ok (.invokevirtual 87, 3) := by decide +kernel
theorem dX9_closes_4 : decode cX9_closes 4 = .ok (.aload_n 0, 1) := by decide +kernel
theorem dX9_closes_5 : decode cX9_closes 5 = .ok (.invokevirtual 121, 3) := by decide +kernel
theorem dX9_closes_8 : decode cX9_closes 8 = .ok (.ireturn, 1) := by decide +kernel
theorem dX9_copies_0 : decode cX9_copies 0 = .ok (.iconst 0, 1) := by decide +kernel
theorem dX9_copies_1 : decode cX9_copies 1 = .ok (.istore_n 2, 1) := by decide +kernel
theorem dX9_copies_2 : decode cX9_copies 2 = .ok (.iload_n 2, 1) := by decide +kernel
theorem dX9_copies_3 : decode cX9_copies 3 = .ok (.bipush 72, 2) := by decide +kernel
theorem dX9_copies_5 : decode cX9_copies 5 = .ok (.if_icmp .ge 18, 3) := by decide +kernel
theorem dX9_copies_8 : decode cX9_copies 8 = .ok (.aload_n 1, 1) := by decide +kernel
theorem dX9_copies_9 : decode cX9_copies 9 = .ok (.iload_n 2, 1) := by decide +kernel
theorem dX9_copies_10 : decode cX9_copies 10 = .ok (.aload_n 0, 1) := by decide +kernel
theorem dX9_copies_11 : decode cX9_copies 11 = .ok (.getfield 7, 3) := by decide +kernel
theorem dX9_copies_14 : decode cX9_copies 14 = .ok (.iload_n 2, 1) := by decide +kernel
theorem dX9_copies_15 : decode cX9_copies 15 = .ok (.iaload, 1) := by decide +kernel
theorem dX9_copies_16 : decode cX9_copies 16 = .ok (.iastore, 1) := by decide +kernel
theorem dX9_copies_17 : decode cX9_copies 17 = .ok (.iinc 2 1, 3) := by decide +kernel
theorem dX9_copies_20 : decode cX9_copies 20 = .ok (.goto (-18), 3) := by decide +kernel
theorem dX9_copies_23 : decode cX9_copies 23 = .ok (.return_, 1) := by decide +kernel
theorem dX9_asideAt_0 : decode cX9_asideAt 0 = .ok (.iload_n 2, 1) := by decide +kernel
theorem dX9_asideAt_1 : decode cX9_asideAt 1 = .ok (.iload_n 3, 1) := by decide +kernel
theorem dX9_asideAt_2 : decode cX9_asideAt 2 = .ok (.invokestatic 57, 3) := by decide +kernel
theorem dX9_asideAt_5 : decode cX9_asideAt 5 = .ok (.ifCond .eq 21, 3) := by decide +kernel
theorem dX9_asideAt_8 : decode cX9_asideAt 8 = .ok (.aload_n 0, 1) := by decide +kernel
theorem dX9_asideAt_9 : decode cX9_asideAt 9 = .ok (.getfield 19, 3) := by decide +kernel
theorem dX9_asideAt_12 : decode cX9_asideAt 12 = .ok (.bipush 24, 2) := by decide +kernel
theorem dX9_asideAt_14 : decode cX9_asideAt 14 = .ok (.iload_n 1, 1) := by decide +kernel
theorem dX9_asideAt_15 : decode cX9_asideAt 15 = .ok (.imul, 1) := by decide +kernel
theorem dX9_asideAt_16 : decode cX9_asideAt 16 = .ok (.iload_n 3, 1) := by decide +kernel
theorem dX9_asideAt_17 : decode cX9_asideAt 17 = .ok (.iadd, 1) := by decide +kernel
theorem dX9_asideAt_18 : decode cX9_asideAt 18 = .ok (.iaload, 1) := by decide +kernel
theorem dX9_asideAt_19 : decode cX9_asideAt 19 = .ok (.iload_n 2, 1) := by decide +kernel
theorem dX9_asideAt_20 : decode cX9_asideAt 20 = .ok (.invokestatic 61, 3) := by decide +kernel
theorem dX9_asideAt_23 : decode cX9_asideAt 23 = .ok (.goto 4, 3) := by decide +kernel
theorem dX9_asideAt_26 : decode cX9_asideAt 26 = .ok (.iconst 0, 1) := by decide +kernel
theorem dX9_asideAt_27 : decode cX9_asideAt 27 = .ok (.ireturn, 1) := by decide +kernel
theorem dX9_moves_0 : decode cX9_moves 0 = .ok (.iconst 0, 1) := by decide +kernel
theorem dX9_moves_1 : decode cX9_moves 1 = .ok (.istore 10, 2) := by decide +kernel
theorem dX9_moves_3 : decode cX9_moves 3 = .ok (.aload_n 0, 1) := by decide +kernel
theorem dX9_moves_4 : decode cX9_moves 4 = .ok (.aload_n 0, 1) := by decide +kernel
theorem dX9_moves_5 : decode cX9_moves 5 = .ok (.getfield 19, 3) := by decide +kernel
theorem dX9_moves_8 : decode cX9_moves 8 = .ok (.invokevirtual 124, 3) := by decide +kernel
theorem dX9_moves_11 : decode cX9_moves 11 = .ok (.iconst 0, 1) := by decide +kernel
theorem dX9_moves_12 : decode cX9_moves 12 = .ok (.istore 11, 2) := by decide +kernel
theorem dX9_moves_14 : decode cX9_moves 14 = .ok (.iload 11, 2) := by decide +kernel
theorem dX9_moves_16 : decode cX9_moves 16 = .ok (.iload 5, 2) := by decide +kernel
theorem dX9_moves_18 : decode cX9_moves 18 = .ok (.if_icmp .ge 61, 3) := by decide +kernel
theorem dX9_moves_21 : decode cX9_moves 21 = .ok (.iconst 0, 1) := by decide +kernel
theorem dX9_moves_22 : decode cX9_moves 22 = .ok (.istore 12, 2) := by decide +kernel
theorem dX9_moves_24 : decode cX9_moves 24 = .ok (.iload 12, 2) := by decide +kernel
theorem dX9_moves_26 : decode cX9_moves 26 = .ok (.iload 4, 2) := by decide +kernel
theorem dX9_moves_28 : decode cX9_moves 28 = .ok (.if_icmp .ge 45, 3) := by decide +kernel
theorem dX9_moves_31 : decode cX9_moves 31 = .ok (.iload 10, 2) := by decide +kernel
theorem dX9_moves_33 : decode cX9_moves 33 = .ok (.aload_n 0, 1) := by decide +kernel
theorem dX9_moves_34 : decode cX9_moves 34 = .ok (.iload 6, 2) := by decide +kernel
theorem dX9_moves_36 : decode cX9_moves 36 = .ok (.iload 7, 2) := by decide +kernel
theorem dX9_moves_38 : decode cX9_moves 38 = .ok (.iload 12, 2) := by decide +kernel
theorem dX9_moves_40 : decode cX9_moves 40 = .ok (.iadd, 1) := by decide +kernel
theorem dX9_moves_41 : decode cX9_moves 41 = .ok (.iload 8, 2) := by decide +kernel
theorem dX9_moves_43 : decode cX9_moves 43 = .ok (.iload 11, 2) := by decide +kernel
theorem dX9_moves_45 : decode cX9_moves 45 = .ok (.iadd, 1) := by decide +kernel
theorem dX9_moves_46 : decode cX9_moves 46 = .ok (.aload_n 0, 1) := by decide +kernel
theorem dX9_moves_47 : decode cX9_moves 47 = .ok (.iload_n 1, 1) := by decide +kernel
theorem dX9_moves_48 : decode cX9_moves 48 = .ok (.iload_n 2, 1) := by decide +kernel
theorem dX9_moves_49 : decode cX9_moves 49 = .ok (.iload 12, 2) := by decide +kernel
theorem dX9_moves_51 : decode cX9_moves 51 = .ok (.iadd, 1) := by decide +kernel
theorem dX9_moves_52 : decode cX9_moves 52 = .ok (.iload_n 3, 1) := by decide +kernel
theorem dX9_moves_53 : decode cX9_moves 53 = .ok (.iload 11, 2) := by decide +kernel
theorem dX9_moves_55 : decode cX9_moves 55 = .ok (.iadd, 1) := by decide +kernel
theorem dX9_moves_56 : decode cX9_moves 56 = .ok (.invokevirtual 128, 3) := by decide +kernel
theorem dX9_moves_59 : decode cX9_moves 59 = .ok (.iload 9, 2) := by decide +kernel
theorem dX9_moves_61 : decode cX9_moves 61 = .ok (.invokevirtual 131, 3) := by decide +kernel
theorem dX9_moves_64 : decode cX9_moves 64 = .ok (.iadd, 1) := by decide +kernel
theorem dX9_moves_65 : decode cX9_moves 65 = .ok (.istore 10, 2) := by decide +kernel
theorem dX9_moves_67 : decode cX9_moves 67 = .ok (.iinc 12 1, 3) := by decide +kernel
theorem dX9_moves_70 : decode cX9_moves 70 = .ok (.goto (-46), 3) := by decide +kernel
theorem dX9_moves_73 : decode cX9_moves 73 = .ok (.iinc 11 1, 3) := by decide +kernel
theorem dX9_moves_76 : decode cX9_moves 76 = .ok (.goto (-62), 3) := by decide +kernel
theorem dX9_moves_79 : decode cX9_moves 79 = .ok (.iload 10, 2) := by decide +kernel
theorem dX9_moves_81 : decode cX9_moves 81 = .ok (.ireturn, 1) := by decide +kernel
theorem dX9_move_0 : decode cX9_move 0 = .ok (.iload_n 1, 1) := by decide +kernel
theorem dX9_move_1 : decode cX9_move 1 = .ok (.invokestatic 79, 3) := by decide +kernel
theorem dX9_move_4 : decode cX9_move 4 = .ok (.ifCond .eq 47, 3) := by decide +kernel
theorem dX9_move_7 : decode cX9_move 7 = .ok (.iload_n 2, 1) := by decide +kernel
theorem dX9_move_8 : decode cX9_move 8 = .ok (.iload_n 3, 1) := by decide +kernel
theorem dX9_move_9 : decode cX9_move 9 = .ok (.invokestatic 107, 3) := by decide +kernel
theorem dX9_move_12 : decode cX9_move 12 = .ok (.ifCond .eq 39, 3) := by decide +kernel
theorem dX9_move_15 : decode cX9_move 15 = .ok (.iload 4, 2) := by decide +kernel
theorem dX9_move_17 : decode cX9_move 17 = .ok (.iload 5, 2) := by decide +kernel
theorem dX9_move_19 : decode cX9_move 19 = .ok (.invokestatic 110, 3) := by decide +kernel
theorem dX9_move_22 : decode cX9_move 22 = .ok (.ifCond .eq 29, 3) := by decide +kernel
theorem dX9_move_25 : decode cX9_move 25 = .ok (.iload 6, 2) := by decide +kernel
theorem dX9_move_27 : decode cX9_move 27 = .ok (.invokestatic 79, 3) := by decide +kernel
theorem dX9_move_30 : decode cX9_move 30 = .ok (.ifCond .eq 21, 3) := by decide +kernel
theorem dX9_move_33 : decode cX9_move 33 = .ok (.iload 7, 2) := by decide +kernel
theorem dX9_move_35 : decode cX9_move 35 = .ok (.iload 8, 2) := by decide +kernel
theorem dX9_move_37 : decode cX9_move 37 = .ok (.invokestatic 107, 3) := by decide +kernel
theorem dX9_move_40 : decode cX9_move 40 = .ok (.ifCond .eq 11, 3) := by decide +kernel
theorem dX9_move_43 : decode cX9_move 43 = .ok (.iload 9, 2) := by decide +kernel
theorem dX9_move_45 : decode cX9_move 45 = .ok (.invokestatic 135, 3) := by decide +kernel
theorem dX9_move_48 : decode cX9_move 48 = .ok (.ifCond .ne 10, 3) := by decide +kernel
theorem dX9_move_51 : decode cX9_move 51 = .ok (.aload_n 0, 1) := by decide +kernel
theorem dX9_move_52 : decode cX9_move 52 = .ok (.bipush (-2), 2) := by decide +kernel
theorem dX9_move_54 : decode cX9_move 54 = .ok (.invokevirtual 83, 3) := by decide +kernel
theorem dX9_move_57 : decode cX9_move 57 = .ok (.ireturn, 1) := by decide +kernel
theorem dX9_move_58 : decode cX9_move 58 = .ok (.aload_n 0, 1) := by decide +kernel
theorem dX9_move_59 : decode cX9_move 59 = .ok (.invokevirtual 87, 3) := by decide +kernel
theorem dX9_move_62 : decode cX9_move 62 = .ok (.aload_n 0, 1) := by decide +kernel
theorem dX9_move_63 : decode cX9_move 63 = .ok (.iload_n 1, 1) := by decide +kernel
theorem dX9_move_64 : decode cX9_move 64 = .ok (.iload_n 2, 1) := by decide +kernel
theorem dX9_move_65 : decode cX9_move 65 = .ok (.iload_n 3, 1) := by decide +kernel
theorem dX9_move_66 : decode cX9_move 66 = .ok (.iload 4, 2) := by decide +kernel
theorem dX9_move_68 : decode cX9_move 68 = .ok (.iload 5, 2) := by decide +kernel
theorem dX9_move_70 : decode cX9_move 70 = .ok (.iload 6, 2) := by decide +kernel
theorem dX9_move_72 : decode cX9_move 72 = .ok (.iload 7, 2) := by decide +kernel
theorem dX9_move_74 : decode cX9_move 74 = .ok (.iload 8, 2) := by decide +kernel
theorem dX9_move_76 : decode cX9_move 76 = .ok (.iload 9, 2) := by decide +kernel
theorem dX9_move_78 : decode cX9_move 78 = .ok (.invokevirtual 138, 3) := by decide +kernel
theorem dX9_move_81 : decode cX9_move 81 = .ok (.ireturn, 1) := by decide +kernel
theorem dX9_size_0 : decode cX9_size 0 = .ok (.iload_n 0, 1) := by decide +kernel
theorem dX9_size_1 : decode cX9_size 1 = .ok (.ifCond .ge 8, 3) := by decide +kernel
theorem dX9_size_4 : decode cX9_size 4 = .ok (.iload_n 0, 1) := by decide +kernel
theorem dX9_size_5 : decode cX9_size 5 = .ok (.ineg, 1) := by decide +kernel
theorem dX9_size_6 : decode cX9_size 6 = .ok (.goto 4, 3) := by decide +kernel
theorem dX9_size_9 : decode cX9_size 9 = .ok (.iload_n 0, 1) := by decide +kernel
theorem dX9_size_10 : decode cX9_size 10 = .ok (.ireturn, 1) := by decide +kernel
theorem dX9_by_0 : decode cX9_by 0 = .ok (.iload_n 0, 1) := by decide +kernel
theorem dX9_by_1 : decode cX9_by 1 = .ok (.iload_n 1, 1) := by decide +kernel
theorem dX9_by_2 : decode cX9_by 2 = .ok (.idiv, 1) := by decide +kernel
theorem dX9_by_3 : decode cX9_by 3 = .ok (.istore_n 2, 1) := by decide +kernel
theorem dX9_by_4 : decode cX9_by 4 = .ok (.iload_n 0, 1) := by decide +kernel
theorem dX9_by_5 : decode cX9_by 5 = .ok (.iload_n 1, 1) := by decide +kernel
theorem dX9_by_6 : decode cX9_by 6 = .ok (.irem, 1) := by decide +kernel
theorem dX9_by_7 : decode cX9_by 7 = .ok (.ifCond .ge 9, 3) := by decide +kernel
theorem dX9_by_10 : decode cX9_by 10 = .ok (.iload_n 2, 1) := by decide +kernel
theorem dX9_by_11 : decode cX9_by 11 = .ok (.iconst 1, 1) := by decide +kernel
theorem dX9_by_12 : decode cX9_by 12 = .ok (.isub, 1) := by decide +kernel
theorem dX9_by_13 : decode cX9_by 13 = .ok (.goto 4, 3) := by decide +kernel
theorem dX9_by_16 : decode cX9_by 16 = .ok (.iload_n 2, 1) := by decide +kernel
theorem dX9_by_17 : decode cX9_by 17 = .ok (.ireturn, 1) := by decide +kernel
theorem dX9_lines_0 : decode cX9_lines 0 = .ok (.iload 4, 2) := by decide +kernel
theorem dX9_lines_2 : decode cX9_lines 2 = .ok (.iload_n 2, 1) := by decide +kernel
theorem dX9_lines_3 : decode cX9_lines 3 = .ok (.isub, 1) := by decide +kernel
theorem dX9_lines_4 : decode cX9_lines 4 = .ok (.istore 7, 2) := by decide +kernel
theorem dX9_lines_6 : decode cX9_lines 6 = .ok (.iload 5, 2) := by decide +kernel
theorem dX9_lines_8 : decode cX9_lines 8 = .ok (.iload_n 3, 1) := by decide +kernel
theorem dX9_lines_9 : decode cX9_lines 9 = .ok (.isub, 1) := by decide +kernel
theorem dX9_lines_10 : decode cX9_lines 10 = .ok (.istore 8, 2) := by decide +kernel
theorem dX9_lines_12 : decode cX9_lines 12 = .ok (.iload 7, 2) := by decide +kernel
theorem dX9_lines_14 : decode cX9_lines 14 = .ok (.invokestatic 142, 3) := by decide +kernel
theorem dX9_lines_17 : decode cX9_lines 17 = .ok (.iload 8, 2) := by decide +kernel
theorem dX9_lines_19 : decode cX9_lines 19 = .ok (.invokestatic 142, 3) := by decide +kernel
theorem dX9_lines_22 : decode cX9_lines 22 = .ok (.if_icmp .lt 7, 3) := by decide +kernel
theorem dX9_lines_25 : decode cX9_lines 25 = .ok (.iconst 1, 1) := by decide +kernel
theorem dX9_lines_26 : decode cX9_lines 26 = .ok (.goto 4, 3) := by decide +kernel
theorem dX9_lines_29 : decode cX9_lines 29 = .ok (.iconst 0, 1) := by decide +kernel
theorem dX9_lines_30 : decode cX9_lines 30 = .ok (.istore 9, 2) := by decide +kernel
theorem dX9_lines_32 : decode cX9_lines 32 = .ok (.iload 9, 2) := by decide +kernel
theorem dX9_lines_34 : decode cX9_lines 34 = .ok (.ifCond .eq 11, 3) := by decide +kernel
theorem dX9_lines_37 : decode cX9_lines 37 = .ok (.iload 7, 2) := by decide +kernel
theorem dX9_lines_39 : decode cX9_lines 39 = .ok (.invokestatic 142, 3) := by decide +kernel
theorem dX9_lines_42 : decode cX9_lines 42 = .ok (.goto 8, 3) := by decide +kernel
theorem dX9_lines_45 : decode cX9_lines 45 = .ok (.iload 8, 2) := by decide +kernel
theorem dX9_lines_47 : decode cX9_lines 47 = .ok (.invokestatic 142, 3) := by decide +kernel
theorem dX9_lines_50 : decode cX9_lines 50 = .ok (.istore 10, 2) := by decide +kernel
theorem dX9_lines_52 : decode cX9_lines 52 = .ok (.iconst 0, 1) := by decide +kernel
theorem dX9_lines_53 : decode cX9_lines 53 = .ok (.istore 11, 2) := by decide +kernel
theorem dX9_lines_55 : decode cX9_lines 55 = .ok (.iconst 0, 1) := by decide +kernel
theorem dX9_lines_56 : decode cX9_lines 56 = .ok (.istore 12, 2) := by decide +kernel
theorem dX9_lines_58 : decode cX9_lines 58 = .ok (.iload 12, 2) := by decide +kernel
theorem dX9_lines_60 : decode cX9_lines 60 = .ok (.iload 10, 2) := by decide +kernel
theorem dX9_lines_62 : decode cX9_lines 62 = .ok (.if_icmp .gt 124, 3) := by decide +kernel
theorem dX9_lines_65 : decode cX9_lines 65 = .ok (.iload 9, 2) := by decide +kernel
theorem dX9_lines_67 : decode cX9_lines 67 = .ok (.ifCond .eq 19, 3) := by decide +kernel
theorem dX9_lines_70 : decode cX9_lines 70 = .ok (.iload 7, 2) := by decide +kernel
theorem dX9_lines_72 : decode cX9_lines 72 = .ok (.ifCond .ge 9, 3) := by decide +kernel
theorem dX9_lines_75 : decode cX9_lines 75 = .ok (.iload 12, 2) := by decide +kernel
theorem dX9_lines_77 : decode cX9_lines 77 = .ok (.ineg, 1) := by decide +kernel
theorem dX9_lines_78 : decode cX9_lines 78 = .ok (.goto 21, 3) := by decide +kernel
theorem dX9_lines_81 : decode cX9_lines 81 = .ok (.iload 12, 2) := by decide +kernel
theorem dX9_lines_83 : decode cX9_lines 83 = .ok (.goto 16, 3) := by decide +kernel
theorem dX9_lines_86 : decode cX9_lines 86 = .ok (.iload 8, 2) := by decide +kernel
theorem dX9_lines_88 : decode cX9_lines 88 = .ok (.ifCond .ge 9, 3) := by decide +kernel
theorem dX9_lines_91 : decode cX9_lines 91 = .ok (.iload 12, 2) := by decide +kernel
theorem dX9_lines_93 : decode cX9_lines 93 = .ok (.ineg, 1) := by decide +kernel
theorem dX9_lines_94 : decode cX9_lines 94 = .ok (.goto 5, 3) := by decide +kernel
theorem dX9_lines_97 : decode cX9_lines 97 = .ok (.iload 12, 2) := by decide +kernel
theorem dX9_lines_99 : decode cX9_lines 99 = .ok (.istore 13, 2) := by decide +kernel
theorem dX9_lines_101 : decode cX9_lines 101 = .ok (.iload 10, 2) := by decide +kernel
theorem dX9_lines_103 : decode cX9_lines 103 = .ok (.ifCond .ne 7, 3) := by decide +kernel
theorem dX9_lines_106 : decode cX9_lines 106 = .ok (.iconst 0, 1) := by decide +kernel
theorem dX9_lines_107 : decode cX9_lines 107 = .ok (.goto 30, 3) := by decide +kernel
theorem dX9_lines_110 : decode cX9_lines 110 = .ok (.iload 9, 2) := by decide +kernel
theorem dX9_lines_112 : decode cX9_lines 112 = .ok (.ifCond .eq 8, 3) := by decide +kernel
theorem dX9_lines_115 : decode cX9_lines 115 = .ok (.iload 8, 2) := by decide +kernel
theorem dX9_lines_117 : decode cX9_lines 117 = .ok (.goto 5, 3) := by decide +kernel
theorem dX9_lines_120 : decode cX9_lines 120 = .ok (.iload 7, 2) := by decide +kernel
theorem dX9_lines_122 : decode cX9_lines 122 = .ok (.iconst 2, 1) := by decide +kernel
theorem dX9_lines_123 : decode cX9_lines 123 = .ok (.imul, 1) := by decide +kernel
theorem dX9_lines_124 : decode cX9_lines 124 = .ok (.iload 12, 2) := by decide +kernel
theorem dX9_lines_126 : decode cX9_lines 126 = .ok (.imul, 1) := by decide +kernel
theorem dX9_lines_127 : decode cX9_lines 127 = .ok (.iload 10, 2) := by decide +kernel
theorem dX9_lines_129 : decode cX9_lines 129 = .ok (.iadd, 1) := by decide +kernel
theorem dX9_lines_130 : decode cX9_lines 130 = .ok (.iconst 2, 1) := by decide +kernel
theorem dX9_lines_131 : decode cX9_lines 131 = .ok (.iload 10, 2) := by decide +kernel
theorem dX9_lines_133 : decode cX9_lines 133 = .ok (.imul, 1) := by decide +kernel
theorem dX9_lines_134 : decode cX9_lines 134 = .ok (.invokestatic 145, 3) := by decide +kernel
theorem dX9_lines_137 : decode cX9_lines 137 = .ok (.istore 14, 2) := by decide +kernel
theorem dX9_lines_139 : decode cX9_lines 139 = .ok (.iload 11, 2) := by decide +kernel
theorem dX9_lines_141 : decode cX9_lines 141 = .ok (.aload_n 0, 1) := by decide +kernel
theorem dX9_lines_142 : decode cX9_lines 142 = .ok (.iload_n 1, 1) := by decide +kernel
theorem dX9_lines_143 : decode cX9_lines 143 = .ok (.iload_n 2, 1) := by decide +kernel
theorem dX9_lines_144 : decode cX9_lines 144 = .ok (.iload 9, 2) := by decide +kernel
theorem dX9_lines_146 : decode cX9_lines 146 = .ok (.ifCond .eq 8, 3) := by decide +kernel
theorem dX9_lines_149 : decode cX9_lines 149 = .ok (.iload 13, 2) := by decide +kernel
theorem dX9_lines_151 : decode cX9_lines 151 = .ok (.goto 5, 3) := by decide +kernel
theorem dX9_lines_154 : decode cX9_lines 154 = .ok (.iload 14, 2) := by decide +kernel
theorem dX9_lines_156 : decode cX9_lines 156 = .ok (.iadd, 1) := by decide +kernel
theorem dX9_lines_157 : decode cX9_lines 157 = .ok (.iload_n 3, 1) := by decide +kernel
theorem dX9_lines_158 : decode cX9_lines 158 = .ok (.iload 9, 2) := by decide +kernel
theorem dX9_lines_160 : decode cX9_lines 160 = .ok (.ifCond .eq 8, 3) := by decide +kernel
theorem dX9_lines_163 : decode cX9_lines 163 = .ok (.iload 14, 2) := by decide +kernel
theorem dX9_lines_165 : decode cX9_lines 165 = .ok (.goto 5, 3) := by decide +kernel
theorem dX9_lines_168 : decode cX9_lines 168 = .ok (.iload 13, 2) := by decide +kernel
theorem dX9_lines_170 : decode cX9_lines 170 = .ok (.iadd, 1) := by decide +kernel
theorem dX9_lines_171 : decode cX9_lines 171 = .ok (.iconst 1, 1) := by decide +kernel
theorem dX9_lines_172 : decode cX9_lines 172 = .ok (.iload 6, 2) := by decide +kernel
theorem dX9_lines_174 : decode cX9_lines 174 = .ok (.invokevirtual 131, 3) := by decide +kernel
theorem dX9_lines_177 : decode cX9_lines 177 = .ok (.iadd, 1) := by decide +kernel
theorem dX9_lines_178 : decode cX9_lines 178 = .ok (.istore 11, 2) := by decide +kernel
theorem dX9_lines_180 : decode cX9_lines 180 = .ok (.iinc 12 1, 3) := by decide +kernel
theorem dX9_lines_183 : decode cX9_lines 183 = .ok (.goto (-125), 3) := by decide +kernel
theorem dX9_lines_186 : decode cX9_lines 186 = .ok (.iload 11, 2) := by decide +kernel
theorem dX9_lines_188 : decode cX9_lines 188 = .ok (.ireturn, 1) := by decide +kernel
theorem dX9_line_0 : decode cX9_line 0 = .ok (.iload_n 1, 1) := by decide +kernel
theorem dX9_line_1 : decode cX9_line 1 = .ok (.invokestatic 79, 3) := by decide +kernel
theorem dX9_line_4 : decode cX9_line 4 = .ok (.ifCond .eq 29, 3) := by decide +kernel
theorem dX9_line_7 : decode cX9_line 7 = .ok (.iload_n 2, 1) := by decide +kernel
theorem dX9_line_8 : decode cX9_line 8 = .ok (.iload_n 3, 1) := by decide +kernel
theorem dX9_line_9 : decode cX9_line 9 = .ok (.invokestatic 107, 3) := by decide +kernel
theorem dX9_line_12 : decode cX9_line 12 = .ok (.ifCond .eq 21, 3) := by decide +kernel
theorem dX9_line_15 : decode cX9_line 15 = .ok (.iload 4, 2) := by decide +kernel
theorem dX9_line_17 : decode cX9_line 17 = .ok (.iload 5, 2) := by decide +kernel
theorem dX9_line_19 : decode cX9_line 19 = .ok (.invokestatic 107, 3) := by decide +kernel
theorem dX9_line_22 : decode cX9_line 22 = .ok (.ifCond .eq 11, 3) := by decide +kernel
theorem dX9_line_25 : decode cX9_line 25 = .ok (.iload 6, 2) := by decide +kernel
theorem dX9_line_27 : decode cX9_line 27 = .ok (.invokestatic 135, 3) := by decide +kernel
theorem dX9_line_30 : decode cX9_line 30 = .ok (.ifCond .ne 10, 3) := by decide +kernel
theorem dX9_line_33 : decode cX9_line 33 = .ok (.aload_n 0, 1) := by decide +kernel
theorem dX9_line_34 : decode cX9_line 34 = .ok (.bipush (-2), 2) := by decide +kernel
theorem dX9_line_36 : decode cX9_line 36 = .ok (.invokevirtual 83, 3) := by decide +kernel
theorem dX9_line_39 : decode cX9_line 39 = .ok (.ireturn, 1) := by decide +kernel
theorem dX9_line_40 : decode cX9_line 40 = .ok (.aload_n 0, 1) := by decide +kernel
theorem dX9_line_41 : decode cX9_line 41 = .ok (.invokevirtual 87, 3) := by decide +kernel
theorem dX9_line_44 : decode cX9_line 44 = .ok (.aload_n 0, 1) := by decide +kernel
theorem dX9_line_45 : decode cX9_line 45 = .ok (.iload_n 1, 1) := by decide +kernel
theorem dX9_line_46 : decode cX9_line 46 = .ok (.iload_n 2, 1) := by decide +kernel
theorem dX9_line_47 : decode cX9_line 47 = .ok (.iload_n 3, 1) := by decide +kernel
theorem dX9_line_48 : decode cX9_line 48 = .ok (.iload 4, 2) := by decide +kernel
theorem dX9_line_50 : decode cX9_line 50 = .ok (.iload 5, 2) := by decide +kernel
theorem dX9_line_52 : decode cX9_line 52 = .ok (.iload 6, 2) := by decide +kernel
theorem dX9_line_54 : decode cX9_line 54 = .ok (.invokevirtual 148, 3) := by decide +kernel
theorem dX9_line_57 : decode cX9_line 57 = .ok (.ireturn, 1) := by decide +kernel
theorem dX9_comes_0 : decode cX9_comes 0 = .ok (.aload_n 0, 1) := by decide +kernel
theorem dX9_comes_1 : decode cX9_comes 1 = .ok (.getfield 25, 3) := by decide +kernel
theorem dX9_comes_4 : decode cX9_comes 4 = .ok (.bipush 32, 2) := by decide +kernel
theorem dX9_comes_6 : decode cX9_comes 6 = .ok (.iload_n 2, 1) := by decide +kernel
theorem dX9_comes_7 : decode cX9_comes 7 = .ok (.imul, 1) := by decide +kernel
theorem dX9_comes_8 : decode cX9_comes 8 = .ok (.iload_n 1, 1) := by decide +kernel
theorem dX9_comes_9 : decode cX9_comes 9 = .ok (.iadd, 1) := by decide +kernel
theorem dX9_comes_10 : decode cX9_comes 10 = .ok (.iconst 1, 1) := by decide +kernel
theorem dX9_comes_11 : decode cX9_comes 11 = .ok (.bastore, 1) := by decide +kernel
theorem dX9_comes_12 : decode cX9_comes 12 = .ok (.aload_n 0, 1) := by decide +kernel
theorem dX9_comes_13 : decode cX9_comes 13 = .ok (.getfield 22, 3) := by decide +kernel
theorem dX9_comes_16 : decode cX9_comes 16 = .ok (.aload_n 0, 1) := by decide +kernel
theorem dX9_comes_17 : decode cX9_comes 17 = .ok (.getfield 152, 3) := by decide +kernel
theorem dX9_comes_20 : decode cX9_comes 20 = .ok (.bipush 32, 2) := by decide +kernel
theorem dX9_comes_22 : decode cX9_comes 22 = .ok (.iload_n 2, 1) := by decide +kernel
theorem dX9_comes_23 : decode cX9_comes 23 = .ok (.imul, 1) := by decide +kernel
theorem dX9_comes_24 : decode cX9_comes 24 = .ok (.iload_n 1, 1) := by decide +kernel
theorem dX9_comes_25 : decode cX9_comes 25 = .ok (.iadd, 1) := by decide +kernel
theorem dX9_comes_26 : decode cX9_comes 26 = .ok (.iastore, 1) := by decide +kernel
theorem dX9_comes_27 : decode cX9_comes 27 = .ok (.aload_n 0, 1) := by decide +kernel
theorem dX9_comes_28 : decode cX9_comes 28 = .ok (.dup, 1) := by decide +kernel
theorem dX9_comes_29 : decode cX9_comes 29 = .ok (.getfield 152, 3) := by decide +kernel
theorem dX9_comes_32 : decode cX9_comes 32 = .ok (.iconst 1, 1) := by decide +kernel
theorem dX9_comes_33 : decode cX9_comes 33 = .ok (.iadd, 1) := by decide +kernel
theorem dX9_comes_34 : decode cX9_comes 34 = .ok (.putfield 152, 3) := by decide +kernel
theorem dX9_comes_37 : decode cX9_comes 37 = .ok (.return_, 1) := by decide +kernel
theorem dX9_spreads_0 : decode cX9_spreads 0 = .ok (.aload_n 0, 1) := by decide +kernel
theorem dX9_spreads_1 : decode cX9_spreads 1 = .ok (.iload_n 1, 1) := by decide +kernel
theorem dX9_spreads_2 : decode cX9_spreads 2 = .ok (.iload_n 2, 1) := by decide +kernel
theorem dX9_spreads_3 : decode cX9_spreads 3 = .ok (.iload_n 3, 1) := by decide +kernel
theorem dX9_spreads_4 : decode cX9_spreads 4 = .ok (.invokevirtual 65, 3) := by decide +kernel
theorem dX9_spreads_7 : decode cX9_spreads 7 = .ok (.istore 5, 2) := by decide +kernel
theorem dX9_spreads_9 : decode cX9_spreads 9 = .ok (.iconst 0, 1) := by decide +kernel
theorem dX9_spreads_10 : decode cX9_spreads 10 = .ok (.istore 6, 2) := by decide +kernel
theorem dX9_spreads_12 : decode cX9_spreads 12 = .ok (.aload_n 0, 1) := by decide +kernel
theorem dX9_spreads_13 : decode cX9_spreads 13 = .ok (.iconst 0, 1) := by decide +kernel
theorem dX9_spreads_14 : decode cX9_spreads 14 = .ok (.putfield 152, 3) := by decide +kernel
theorem dX9_spreads_17 : decode cX9_spreads 17 = .ok (.aload_n 0, 1) := by decide +kernel
theorem dX9_spreads_18 : decode cX9_spreads 18 = .ok (.iload_n 2, 1) := by decide +kernel
theorem dX9_spreads_19 : decode cX9_spreads 19 = .ok (.iload_n 3, 1) := by decide +kernel
theorem dX9_spreads_20 : decode cX9_spreads 20 = .ok (.invokevirtual 155, 3) := by decide +kernel
theorem dX9_spreads_23 : decode cX9_spreads 23 = .ok (.aload_n 0, 1) := by decide +kernel
theorem dX9_spreads_24 : decode cX9_spreads 24 = .ok (.getfield 152, 3) := by decide +kernel
theorem dX9_spreads_27 : decode cX9_spreads 27 = .ok (.ifCond .le 189, 3) := by decide +kernel
theorem dX9_spreads_30 : decode cX9_spreads 30 = .ok (.aload_n 0, 1) := by decide +kernel
theorem dX9_spreads_31 : decode cX9_spreads 31 = .ok (.dup, 1) := by decide +kernel
theorem dX9_spreads_32 : decode cX9_spreads 32 = .ok (.getfield 152, 3) := by decide +kernel
theorem dX9_spreads_35 : decode cX9_spreads 35 = .ok (.iconst 1, 1) := by decide +kernel
theorem dX9_spreads_36 : decode cX9_spreads 36 = .ok (.isub, 1) := by decide +kernel
theorem dX9_spreads_37 : decode cX9_spreads 37 = .ok (.putfield 152, 3) := by decide +kernel
theorem dX9_spreads_40 : decode cX9_spreads 40 = .ok (.aload_n 0, 1) := by decide +kernel
theorem dX9_spreads_41 : decode cX9_spreads 41 = .ok (.getfield 22, 3) := by decide +kernel
theorem dX9_spreads_44 : decode cX9_spreads 44 = .ok (.aload_n 0, 1) := by decide +kernel
theorem dX9_spreads_45 : decode cX9_spreads 45 = .ok (.getfield 152, 3) := by decide +kernel
theorem dX9_spreads_48 : decode cX9_spreads 48 = .ok (.iaload, 1) := by decide +kernel
theorem dX9_spreads_49 : decode cX9_spreads 49 = .ok (.bipush 32, 2) := by decide +kernel
theorem dX9_spreads_51 : decode cX9_spreads 51 = .ok (.irem, 1) := by decide +kernel
theorem dX9_spreads_52 : decode cX9_spreads 52 = .ok (.istore 7, 2) := by decide +kernel
theorem dX9_spreads_54 : decode cX9_spreads 54 = .ok (.aload_n 0, 1) := by decide +kernel
theorem dX9_spreads_55 : decode cX9_spreads 55 = .ok (.getfield 22, 3) := by decide +kernel
theorem dX9_spreads_58 : decode cX9_spreads 58 = .ok (.aload_n 0, 1) := by decide +kernel
theorem dX9_spreads_59 : decode cX9_spreads 59 = .ok (.getfield 152, 3) := by decide +kernel
theorem dX9_spreads_62 : decode cX9_spreads 62 = .ok (.iaload, 1) := by decide +kernel
theorem dX9_spreads_63 : decode cX9_spreads 63 = .ok (.bipush 32, 2) := by decide +kernel
theorem dX9_spreads_65 : decode cX9_spreads 65 = .ok (.idiv, 1) := by decide +kernel
theorem dX9_spreads_66 : decode cX9_spreads 66 = .ok (.istore 8, 2) := by decide +kernel
theorem dX9_spreads_68 : decode cX9_spreads 68 = .ok (.iinc 6 1, 3) := by decide +kernel
theorem dX9_spreads_71 : decode cX9_spreads 71 = .ok (.iconst 0, 1) := by decide +kernel
theorem dX9_spreads_72 : decode cX9_spreads 72 = .ok (.istore 9, 2) := by decide +kernel
theorem dX9_spreads_74 : decode cX9_spreads 74 = .ok (.iload 9, 2) := by decide +kernel
theorem dX9_spreads_76 : decode cX9_spreads 76 = .ok (.iconst 4, 1) := by decide +kernel
theorem dX9_spreads_77 : decode cX9_spreads 77 = .ok (.if_icmp .ge 136, 3) := by decide +kernel
theorem dX9_spreads_80 : decode cX9_spreads 80 = .ok (.iload 7, 2) := by decide +kernel
theorem dX9_spreads_82 : decode cX9_spreads 82 = .ok (.iload 9, 2) := by decide +kernel
theorem dX9_spreads_84 : decode cX9_spreads 84 = .ok (.ifCond .ne 7, 3) := by decide +kernel
theorem dX9_spreads_87 : decode cX9_spreads 87 = .ok (.iconst 1, 1) := by decide +kernel
theorem dX9_spreads_88 : decode cX9_spreads 88 = .ok (.goto 14, 3) := by decide +kernel
theorem dX9_spreads_91 : decode cX9_spreads 91 = .ok (.iload 9, 2) := by decide +kernel
theorem dX9_spreads_93 : decode cX9_spreads 93 = .ok (.iconst 1, 1) := by decide +kernel
theorem dX9_spreads_94 : decode cX9_spreads 94 = .ok (.if_icmp .ne 7, 3) := by decide +kernel
theorem dX9_spreads_97 : decode cX9_spreads 97 = .ok (.iconst (-1), 1) := by decide +kernel
theorem dX9_spreads_98 : decode cX9_spreads 98 = .ok (.goto 4, 3) := by decide +kernel
theorem dX9_spreads_101 : decode cX9_spreads 101 = .ok (.iconst 0, 1) := by decide +kernel
theorem dX9_spreads_102 : decode cX9_spreads 102 = .ok (.iadd, 1) := by decide +kernel
theorem dX9_spreads_103 : decode cX9_spreads 103 = .ok (.istore 10, 2) := by decide +kernel
theorem dX9_spreads_105 : decode cX9_spreads 105 = .ok (.iload 8, 2) := by decide +kernel
theorem dX9_spreads_107 : decode cX9_spreads 107 = .ok (.iload 9, 2) := by decide +kernel
theorem dX9_spreads_109 : decode cX9_spreads 109 = .ok (.iconst 2, 1) := by decide +kernel
theorem dX9_spreads_110 : decode cX9_spreads 110 = .ok (.if_icmp .ne 7, 3) := by decide +kernel
theorem dX9_spreads_113 : decode cX9_spreads 113 = .ok (.iconst 1, 1) := by decide +kernel
theorem dX9_spreads_114 : decode cX9_spreads 114 = .ok (.goto 14, 3) := by decide +kernel
theorem dX9_spreads_117 : decode cX9_spreads 117 = .ok (.iload 9, 2) := by decide +kernel
theorem dX9_spreads_119 : decode cX9_spreads 119 = .ok (.iconst 3, 1) := by decide +kernel
theorem dX9_spreads_120 : decode cX9_spreads 120 = .ok (.if_icmp .ne 7, 3) := by decide +kernel
theorem dX9_spreads_123 : decode cX9_spreads 123 = .ok (.iconst (-1), 1) := by decide +kernel
theorem dX9_spreads_124 : decode cX9_spreads 124 = .ok (.goto 4, 3) := by decide +kernel
theorem dX9_spreads_127 : decode cX9_spreads 127 = .ok (.iconst 0, 1) := by decide +kernel
theorem dX9_spreads_128 : decode cX9_spreads 128 = .ok (.iadd, 1) := by decide +kernel
theorem dX9_spreads_129 : decode cX9_spreads 129 = .ok (.istore 11, 2) := by decide +kernel
theorem dX9_spreads_131 : decode cX9_spreads 131 = .ok (.iload 10, 2) := by decide +kernel
theorem dX9_spreads_133 : decode cX9_spreads 133 = .ok (.iload 11, 2) := by decide +kernel
theorem dX9_spreads_135 : decode cX9_spreads 135 = .ok (.invokestatic 57, 3) := by decide +kernel
theorem dX9_spreads_138 : decode cX9_spreads 138 = .ok (.ifCond .eq 37, 3) := by decide +kernel
theorem dX9_spreads_141 : decode cX9_spreads 141 = .ok (.aload_n 0, 1) := by decide +kernel
theorem dX9_spreads_142 : decode cX9_spreads 142 = .ok (.getfield 25, 3) := by decide +kernel
theorem dX9_spreads_145 : decode cX9_spreads 145 = .ok (.bipush 32, 2) := by decide +kernel
theorem dX9_spreads_147 : decode cX9_spreads 147 = .ok (.iload 11, 2) := by decide +kernel
theorem dX9_spreads_149 : decode cX9_spreads 149 = .ok (.imul, 1) := by decide +kernel
theorem dX9_spreads_150 : decode cX9_spreads 150 = .ok (.iload 10, 2) := by decide +kernel
theorem dX9_spreads_152 : decode cX9_spreads 152 = .ok (.iadd, 1) := by decide +kernel
theorem dX9_spreads_153 : decode cX9_spreads 153 = .ok (.baload, 1) := by decide +kernel
theorem dX9_spreads_154 : decode cX9_spreads 154 = .ok (.ifCond .ne 21, 3) := by decide +kernel
theorem dX9_spreads_157 : decode cX9_spreads 157 = .ok (.aload_n 0, 1) := by decide +kernel
theorem dX9_spreads_158 : decode cX9_spreads 158 = .ok (.iload_n 1, 1) := by decide +kernel
theorem dX9_spreads_159 : decode cX9_spreads 159 = .ok (.iload 10, 2) := by decide +kernel
theorem dX9_spreads_161 : decode cX9_spreads 161 = .ok (.iload 11, 2) := by decide +kernel
theorem dX9_spreads_163 : decode cX9_spreads 163 = .ok (.invokevirtual 65, 3) := by decide +kernel
theorem dX9_spreads_166 : decode cX9_spreads 166 = .ok (.iload 5, 2) := by decide +kernel
theorem dX9_spreads_168 : decode cX9_spreads 168 = .ok (.if_icmp .ne 7, 3) := by decide +kernel
theorem dX9_spreads_171 : decode cX9_spreads 171 = .ok (.iconst 1, 1) := by decide +kernel
theorem dX9_spreads_172 : decode cX9_spreads 172 = .ok (.goto 4, 3) := by decide +kernel
theorem dX9_spreads_175 : decode cX9_spreads 175 = .ok (.iconst 0, 1) := by decide +kernel
theorem dX9_spreads_176 : decode cX9_spreads 176 = .ok (.istore 12, 2) := by decide +kernel
theorem dX9_spreads_178 : decode cX9_spreads 178 = .ok (.iload 12, 2) := by decide +kernel
theorem dX9_spreads_180 : decode cX9_spreads 180 = .ok (.ifCond .eq 27, 3) := by decide +kernel
theorem dX9_spreads_183 : decode cX9_spreads 183 = .ok (.iload 4, 2) := by decide +kernel
theorem dX9_spreads_185 : decode cX9_spreads 185 = .ok (.ifCond .eq 14, 3) := by decide +kernel
theorem dX9_spreads_188 : decode cX9_spreads 188 = .ok (.aload_n 0, 1) := by decide +kernel
theorem dX9_spreads_189 : decode cX9_spreads 189 = .ok (.iload 10, 2) := by decide +kernel
theorem dX9_spreads_191 : decode cX9_spreads 191 = .ok (.iload 11, 2) := by decide +kernel
theorem dX9_spreads_193 : decode cX9_spreads 193 = .ok (.invokevirtual 69, 3) := by decide +kernel
theorem dX9_spreads_196 : decode cX9_spreads 196 = .ok (.ifCond .eq 11, 3) := by decide +kernel
theorem dX9_spreads_199 : decode cX9_spreads 199 = .ok (.aload_n 0, 1) := by decide +kernel
theorem dX9_spreads_200 : decode cX9_spreads 200 = .ok (.iload 10, 2) := by decide +kernel
theorem dX9_spreads_202 : decode cX9_spreads 202 = .ok (.iload 11, 2) := by decide +kernel
theorem dX9_spreads_204 : decode cX9_spreads 204 = .ok (.invokevirtual 155, 3) := by decide +kernel
theorem dX9_spreads_207 : decode cX9_spreads 207 = .ok (.iinc 9 1, 3) := by decide +kernel
theorem dX9_spreads_210 : decode cX9_spreads 210 = .ok (.goto (-136), 3) := by decide +kernel
theorem dX9_spreads_213 : decode cX9_spreads 213 = .ok (.goto (-190), 3) := by decide +kernel
theorem dX9_spreads_216 : decode cX9_spreads 216 = .ok (.iload 6, 2) := by decide +kernel
theorem dX9_spreads_218 : decode cX9_spreads 218 = .ok (.ireturn, 1) := by decide +kernel
theorem dX9_noneCame_0 : decode cX9_noneCame 0 = .ok (.iconst 0, 1) := by decide +kernel
theorem dX9_noneCame_1 : decode cX9_noneCame 1 = .ok (.istore_n 1, 1) := by decide +kernel
theorem dX9_noneCame_2 : decode cX9_noneCame 2 = .ok (.iload_n 1, 1) := by decide +kernel
theorem dX9_noneCame_3 : decode cX9_noneCame 3 = .ok (.sipush 768, 3) := by decide +kernel
theorem dX9_noneCame_6 : decode cX9_noneCame 6 = .ok (.if_icmp .ge 16, 3) := by decide +kernel
theorem dX9_noneCame_9 : decode cX9_noneCame 9 = .ok (.aload_n 0, 1) := by decide +kernel
theorem dX9_noneCame_10 : decode cX9_noneCame 10 = .ok (.getfield 25, 3) := by decide +kernel
theorem dX9_noneCame_13 : decode cX9_noneCame 13 = .ok (.iload_n 1, 1) := by decide +kernel
theorem dX9_noneCame_14 : decode cX9_noneCame 14 = .ok (.iconst 0, 1) := by decide +kernel
theorem dX9_noneCame_15 : decode cX9_noneCame 15 = .ok (.bastore, 1) := by decide +kernel
theorem dX9_noneCame_16 : decode cX9_noneCame 16 = .ok (.iinc 1 1, 3) := by decide +kernel
theorem dX9_noneCame_19 : decode cX9_noneCame 19 = .ok (.goto (-17), 3) := by decide +kernel
theorem dX9_noneCame_22 : decode cX9_noneCame 22 = .ok (.return_, 1) := by decide +kernel
theorem dX9_mayFlood_0 : decode cX9_mayFlood 0 = .ok (.iload_n 1, 1) := by decide +kernel
theorem dX9_mayFlood_1 : decode cX9_mayFlood 1 = .ok (.iload_n 2, 1) := by decide +kernel
theorem dX9_mayFlood_2 : decode cX9_mayFlood 2 = .ok (.invokestatic 57, 3) := by decide +kernel
theorem dX9_mayFlood_5 : decode cX9_mayFlood 5 = .ok (.ifCond .eq 16, 3) := by decide +kernel
theorem dX9_mayFlood_8 : decode cX9_mayFlood 8 = .ok (.aload_n 0, 1) := by decide +kernel
theorem dX9_mayFlood_9 : decode cX9_mayFlood 9 = .ok (.iload_n 1, 1) := by decide +kernel
theorem dX9_mayFlood_10 : decode cX9_mayFlood 10 = .ok (.iload_n 2, 1) := by decide +kernel
theorem dX9_mayFlood_11 : decode cX9_mayFlood 11 = .ok (.invokevirtual 69, 3) := by decide +kernel
theorem dX9_mayFlood_14 : decode cX9_mayFlood 14 = .ok (.ifCond .eq 7, 3) := by decide +kernel
theorem dX9_mayFlood_17 : decode cX9_mayFlood 17 = .ok (.iconst 1, 1) := by decide +kernel
theorem dX9_mayFlood_18 : decode cX9_mayFlood 18 = .ok (.goto 4, 3) := by decide +kernel
theorem dX9_mayFlood_21 : decode cX9_mayFlood 21 = .ok (.iconst 0, 1) := by decide +kernel
theorem dX9_mayFlood_22 : decode cX9_mayFlood 22 = .ok (.ireturn, 1) := by decide +kernel
theorem dX9_floods_0 : decode cX9_floods 0 = .ok (.aload_n 0, 1) := by decide +kernel
theorem dX9_floods_1 : decode cX9_floods 1 = .ok (.invokevirtual 159, 3) := by decide +kernel
theorem dX9_floods_4 : decode cX9_floods 4 = .ok (.aload_n 0, 1) := by decide +kernel
theorem dX9_floods_5 : decode cX9_floods 5 = .ok (.iload_n 1, 1) := by decide +kernel
theorem dX9_floods_6 : decode cX9_floods 6 = .ok (.iload_n 2, 1) := by decide +kernel
theorem dX9_floods_7 : decode cX9_floods 7 = .ok (.iload_n 3, 1) := by decide +kernel
theorem dX9_floods_8 : decode cX9_floods 8 = .ok (.iconst 1, 1) := by decide +kernel
theorem dX9_floods_9 : decode cX9_floods 9 = .ok (.invokevirtual 162, 3) := by decide +kernel
theorem dX9_floods_12 : decode cX9_floods 12 = .ok (.istore 4, 2) := by decide +kernel
theorem dX9_floods_14 : decode cX9_floods 14 = .ok (.iconst 1, 1) := by decide +kernel
theorem dX9_floods_15 : decode cX9_floods 15 = .ok (.aload_n 0, 1) := by decide +kernel
theorem dX9_floods_16 : decode cX9_floods 16 = .ok (.iload_n 1, 1) := by decide +kernel
theorem dX9_floods_17 : decode cX9_floods 17 = .ok (.iload_n 2, 1) := by decide +kernel
theorem dX9_floods_18 : decode cX9_floods 18 = .ok (.iload_n 3, 1) := by decide +kernel
theorem dX9_floods_19 : decode cX9_floods 19 = .ok (.invokevirtual 65, 3) := by decide +kernel
theorem dX9_floods_22 : decode cX9_floods 22 = .ok (.isub, 1) := by decide +kernel
theorem dX9_floods_23 : decode cX9_floods 23 = .ok (.istore 5, 2) := by decide +kernel
theorem dX9_floods_25 : decode cX9_floods 25 = .ok (.iconst 0, 1) := by decide +kernel
theorem dX9_floods_26 : decode cX9_floods 26 = .ok (.istore 6, 2) := by decide +kernel
theorem dX9_floods_28 : decode cX9_floods 28 = .ok (.iload 6, 2) := by decide +kernel
theorem dX9_floods_30 : decode cX9_floods 30 = .ok (.sipush 768, 3) := by decide +kernel
theorem dX9_floods_33 : decode cX9_floods 33 = .ok (.if_icmp .ge 38, 3) := by decide +kernel
theorem dX9_floods_36 : decode cX9_floods 36 = .ok (.aload_n 0, 1) := by decide +kernel
theorem dX9_floods_37 : decode cX9_floods 37 = .ok (.getfield 25, 3) := by decide +kernel
theorem dX9_floods_40 : decode cX9_floods 40 = .ok (.iload 6, 2) := by decide +kernel
theorem dX9_floods_42 : decode cX9_floods 42 = .ok (.baload, 1) := by decide +kernel
theorem dX9_floods_43 : decode cX9_floods 43 = .ok (.ifCond .eq 22, 3) := by decide +kernel
theorem dX9_floods_46 : decode cX9_floods 46 = .ok (.aload_n 0, 1) := by decide +kernel
theorem dX9_floods_47 : decode cX9_floods 47 = .ok (.iload_n 1, 1) := by decide +kernel
theorem dX9_floods_48 : decode cX9_floods 48 = .ok (.iload 6, 2) := by decide +kernel
theorem dX9_floods_50 : decode cX9_floods 50 = .ok (.bipush 32, 2) := by decide +kernel
theorem dX9_floods_52 : decode cX9_floods 52 = .ok (.irem, 1) := by decide +kernel
theorem dX9_floods_53 : decode cX9_floods 53 = .ok (.iload 6, 2) := by decide +kernel
theorem dX9_floods_55 : decode cX9_floods 55 = .ok (.bipush 32, 2) := by decide +kernel
theorem dX9_floods_57 : decode cX9_floods 57 = .ok (.idiv, 1) := by decide +kernel
theorem dX9_floods_58 : decode cX9_floods 58 = .ok (.iload 5, 2) := by decide +kernel
theorem dX9_floods_60 : decode cX9_floods 60 = .ok (.invokevirtual 75, 3) := by decide +kernel
theorem dX9_floods_63 : decode cX9_floods 63 = .ok (.istore 7, 2) := by decide +kernel
theorem dX9_floods_65 : decode cX9_floods 65 = .ok (.iinc 6 1, 3) := by decide +kernel
theorem dX9_floods_68 : decode cX9_floods 68 = .ok (.goto (-40), 3) := by decide +kernel
theorem dX9_floods_71 : decode cX9_floods 71 = .ok (.iload 4, 2) := by decide +kernel
theorem dX9_floods_73 : decode cX9_floods 73 = .ok (.ireturn, 1) := by decide +kernel
theorem dX9_flood_0 : decode cX9_flood 0 = .ok (.iload_n 1, 1) := by decide +kernel
theorem dX9_flood_1 : decode cX9_flood 1 = .ok (.invokestatic 79, 3) := by decide +kernel
theorem dX9_flood_4 : decode cX9_flood 4 = .ok (.ifCond .eq 11, 3) := by decide +kernel
theorem dX9_flood_7 : decode cX9_flood 7 = .ok (.iload_n 2, 1) := by decide +kernel
theorem dX9_flood_8 : decode cX9_flood 8 = .ok (.iload_n 3, 1) := by decide +kernel
theorem dX9_flood_9 : decode cX9_flood 9 = .ok (.invokestatic 107, 3) := by decide +kernel
theorem dX9_flood_12 : decode cX9_flood 12 = .ok (.ifCond .ne 10, 3) := by decide +kernel
theorem dX9_flood_15 : decode cX9_flood 15 = .ok (.aload_n 0, 1) := by decide +kernel
theorem dX9_flood_16 : decode cX9_flood 16 = .ok (.bipush (-2), 2) := by decide +kernel
theorem dX9_flood_18 : decode cX9_flood 18 = .ok (.invokevirtual 83, 3) := by decide +kernel
theorem dX9_flood_21 : decode cX9_flood 21 = .ok (.ireturn, 1) := by decide +kernel
theorem dX9_flood_22 : decode cX9_flood 22 = .ok (.aload_n 0, 1) := by decide +kernel
theorem dX9_flood_23 : decode cX9_flood 23 = .ok (.iload_n 2, 1) := by decide +kernel
theorem dX9_flood_24 : decode cX9_flood 24 = .ok (.iload_n 3, 1) := by decide +kernel
theorem dX9_flood_25 : decode cX9_flood 25 = .ok (.invokevirtual 166, 3) := by decide +kernel
theorem dX9_flood_28 : decode cX9_flood 28 = .ok (.ifCond .ne 8, 3) := by decide +kernel
theorem dX9_flood_31 : decode cX9_flood 31 = .ok (.aload_n 0, 1) := by decide +kernel
theorem dX9_flood_32 : decode cX9_flood 32 = .ok (.invokevirtual 169, 3) := by decide +kernel
theorem dX9_flood_35 : decode cX9_flood 35 = .ok (.ireturn, 1) := by decide +kernel
theorem dX9_flood_36 : decode cX9_flood 36 = .ok (.aload_n 0, 1) := by decide +kernel
theorem dX9_flood_37 : decode cX9_flood 37 = .ok (.invokevirtual 87, 3) := by decide +kernel
theorem dX9_flood_40 : decode cX9_flood 40 = .ok (.aload_n 0, 1) := by decide +kernel
theorem dX9_flood_41 : decode cX9_flood 41 = .ok (.iload_n 1, 1) := by decide +kernel
theorem dX9_flood_42 : decode cX9_flood 42 = .ok (.iload_n 2, 1) := by decide +kernel
theorem dX9_flood_43 : decode cX9_flood 43 = .ok (.iload_n 3, 1) := by decide +kernel
theorem dX9_flood_44 : decode cX9_flood 44 = .ok (.invokevirtual 172, 3) := by decide +kernel
theorem dX9_flood_47 : decode cX9_flood 47 = .ok (.ireturn, 1) := by decide +kernel
theorem dX9_rectangles_0 : decode cX9_rectangles 0 = .ok (.iconst 0, 1) := by decide +kernel
theorem dX9_rectangles_1 : decode cX9_rectangles 1 = .ok (.istore 7, 2) := by decide +kernel
theorem dX9_rectangles_3 : decode cX9_rectangles 3 = .ok (.iconst 0, 1) := by decide +kernel
theorem dX9_rectangles_4 : decode cX9_rectangles 4 = .ok (.istore 8, 2) := by decide +kernel
theorem dX9_rectangles_6 : decode cX9_rectangles 6 = .ok (.iload 8, 2) := by decide +kernel
theorem dX9_rectangles_8 : decode cX9_rectangles 8 = .ok (.iload 5, 2) := by decide +kernel
theorem dX9_rectangles_10 : decode cX9_rectangles 10 = .ok (.if_icmp .ge 46, 3) := by decide +kernel
theorem dX9_rectangles_13 : decode cX9_rectangles 13 = .ok (.iconst 0, 1) := by decide +kernel
theorem dX9_rectangles_14 : decode cX9_rectangles 14 = .ok (.istore 9, 2) := by decide +kernel
theorem dX9_rectangles_16 : decode cX9_rectangles 16 = .ok (.iload 9, 2) := by decide +kernel
theorem dX9_rectangles_18 : decode cX9_rectangles 18 = .ok (.iload 4, 2) := by decide +kernel
theorem dX9_rectangles_20 : decode cX9_rectangles 20 = .ok (.if_icmp .ge 30, 3) := by decide +kernel
theorem dX9_rectangles_23 : decode cX9_rectangles 23 = .ok (.iload 7, 2) := by decide +kernel
theorem dX9_rectangles_25 : decode cX9_rectangles 25 = .ok (.aload_n 0, 1) := by decide +kernel
theorem dX9_rectangles_26 : decode cX9_rectangles 26 = .ok (.iload_n 1, 1) := by decide +kernel
theorem dX9_rectangles_27 : decode cX9_rectangles 27 = .ok (.iload_n 2, 1) := by decide +kernel
theorem dX9_rectangles_28 : decode cX9_rectangles 28 = .ok (.iload 9, 2) := by decide +kernel
theorem dX9_rectangles_30 : decode cX9_rectangles 30 = .ok (.iadd, 1) := by decide +kernel
theorem dX9_rectangles_31 : decode cX9_rectangles 31 = .ok (.iload_n 3, 1) := by decide +kernel
theorem dX9_rectangles_32 : decode cX9_rectangles 32 = .ok (.iload 8, 2) := by decide +kernel
theorem dX9_rectangles_34 : decode cX9_rectangles 34 = .ok (.iadd, 1) := by decide +kernel
theorem dX9_rectangles_35 : decode cX9_rectangles 35 = .ok (.iconst 1, 1) := by decide +kernel
theorem dX9_rectangles_36 : decode cX9_rectangles 36 = .ok (.iload 6, 2) := by decide +kernel
theorem dX9_rectangles_38 : decode cX9_rectangles 38 = .ok (.invokevirtual 131, 3) := by decide +kernel
theorem dX9_rectangles_41 : decode cX9_rectangles 41 = .ok (.iadd, 1) := by decide +kernel
theorem dX9_rectangles_42 : decode cX9_rectangles 42 = .ok (.istore 7, 2) := by decide +kernel
theorem dX9_rectangles_44 : decode cX9_rectangles 44 = .ok (.iinc 9 1, 3) := by decide +kernel
theorem dX9_rectangles_47 : decode cX9_rectangles 47 = .ok (.goto (-31), 3) := by decide +kernel
theorem dX9_rectangles_50 : decode cX9_rectangles 50 = .ok (.iinc 8 1, 3) := by decide +kernel
theorem dX9_rectangles_53 : decode cX9_rectangles 53 = .ok (.goto (-47), 3) := by decide +kernel
theorem dX9_rectangles_56 : decode cX9_rectangles 56 = .ok (.iload 7, 2) := by decide +kernel
theorem dX9_rectangles_58 : decode cX9_rectangles 58 = .ok (.ireturn, 1) := by decide +kernel
theorem dX9_rectangle_0 : decode cX9_rectangle 0 = .ok (.iload_n 1, 1) := by decide +kernel
theorem dX9_rectangle_1 : decode cX9_rectangle 1 = .ok (.invokestatic 79, 3) := by decide +kernel
theorem dX9_rectangle_4 : decode cX9_rectangle 4 = .ok (.ifCond .eq 29, 3) := by decide +kernel
theorem dX9_rectangle_7 : decode cX9_rectangle 7 = .ok (.iload_n 2, 1) := by decide +kernel
theorem dX9_rectangle_8 : decode cX9_rectangle 8 = .ok (.iload_n 3, 1) := by decide +kernel
theorem dX9_rectangle_9 : decode cX9_rectangle 9 = .ok (.invokestatic 107, 3) := by decide +kernel
theorem dX9_rectangle_12 : decode cX9_rectangle 12 = .ok (.ifCond .eq 21, 3) := by decide +kernel
theorem dX9_rectangle_15 : decode cX9_rectangle 15 = .ok (.iload 4, 2) := by decide +kernel
theorem dX9_rectangle_17 : decode cX9_rectangle 17 = .ok (.iload 5, 2) := by decide +kernel
theorem dX9_rectangle_19 : decode cX9_rectangle 19 = .ok (.invokestatic 110, 3) := by decide +kernel
theorem dX9_rectangle_22 : decode cX9_rectangle 22 = .ok (.ifCond .eq 11, 3) := by decide +kernel
theorem dX9_rectangle_25 : decode cX9_rectangle 25 = .ok (.iload 6, 2) := by decide +kernel
theorem dX9_rectangle_27 : decode cX9_rectangle 27 = .ok (.invokestatic 135, 3) := by decide +kernel
theorem dX9_rectangle_30 : decode cX9_rectangle 30 = .ok (.ifCond .ne 10, 3) := by decide +kernel
theorem dX9_rectangle_33 : decode cX9_rectangle 33 = .ok (.aload_n 0, 1) := by decide +kernel
theorem dX9_rectangle_34 : decode cX9_rectangle 34 = .ok (.bipush (-2), 2) := by decide +kernel
theorem dX9_rectangle_36 : decode cX9_rectangle 36 = .ok (.invokevirtual 83, 3) := by decide +kernel
theorem dX9_rectangle_39 : decode cX9_rectangle 39 = .ok (.ireturn, 1) := by decide +kernel
theorem dX9_rectangle_40 : decode cX9_rectangle 40 = .ok (.aload_n 0, 1) := by decide +kernel
theorem dX9_rectangle_41 : decode cX9_rectangle 41 = .ok (.invokevirtual 87, 3) := by decide +kernel
theorem dX9_rectangle_44 : decode cX9_rectangle 44 = .ok (.aload_n 0, 1) := by decide +kernel
theorem dX9_rectangle_45 : decode cX9_rectangle 45 = .ok (.iload_n 1, 1) := by decide +kernel
theorem dX9_rectangle_46 : decode cX9_rectangle 46 = .ok (.iload_n 2, 1) := by decide +kernel
theorem dX9_rectangle_47 : decode cX9_rectangle 47 = .ok (.iload_n 3, 1) := by decide +kernel
theorem dX9_rectangle_48 : decode cX9_rectangle 48 = .ok (.iload 4, 2) := by decide +kernel
theorem dX9_rectangle_50 : decode cX9_rectangle 50 = .ok (.iload 5, 2) := by decide +kernel
theorem dX9_rectangle_52 : decode cX9_rectangle 52 = .ok (.iload 6, 2) := by decide +kernel
theorem dX9_rectangle_54 : decode cX9_rectangle 54 = .ok (.invokevirtual 175, 3) := by decide +kernel
theorem dX9_rectangle_57 : decode cX9_rectangle 57 = .ok (.ireturn, 1) := by decide +kernel
theorem dX9_letters_0 : decode cX9_letters 0 = .ok (.iconst 0, 1) := by decide +kernel
theorem dX9_letters_1 : decode cX9_letters 1 = .ok (.istore 6, 2) := by decide +kernel
theorem dX9_letters_3 : decode cX9_letters 3 = .ok (.iconst 0, 1) := by decide +kernel
theorem dX9_letters_4 : decode cX9_letters 4 = .ok (.istore 7, 2) := by decide +kernel
theorem dX9_letters_6 : decode cX9_letters 6 = .ok (.iload 7, 2) := by decide +kernel
theorem dX9_letters_8 : decode cX9_letters 8 = .ok (.iconst 4, 1) := by decide +kernel
theorem dX9_letters_9 : decode cX9_letters 9 = .ok (.if_icmp .ge 71, 3) := by decide +kernel
theorem dX9_letters_12 : decode cX9_letters 12 = .ok (.iconst 5, 1) := by decide +kernel
theorem dX9_letters_13 : decode cX9_letters 13 = .ok (.iload_n 2, 1) := by decide +kernel
theorem dX9_letters_14 : decode cX9_letters 14 = .ok (.imul, 1) := by decide +kernel
theorem dX9_letters_15 : decode cX9_letters 15 = .ok (.iconst 3, 1) := by decide +kernel
theorem dX9_letters_16 : decode cX9_letters 16 = .ok (.iload 7, 2) := by decide +kernel
theorem dX9_letters_18 : decode cX9_letters 18 = .ok (.imul, 1) := by decide +kernel
theorem dX9_letters_19 : decode cX9_letters 19 = .ok (.iadd, 1) := by decide +kernel
theorem dX9_letters_20 : decode cX9_letters 20 = .ok (.iload_n 2, 1) := by decide +kernel
theorem dX9_letters_21 : decode cX9_letters 21 = .ok (.iconst 3, 1) := by decide +kernel
theorem dX9_letters_22 : decode cX9_letters 22 = .ok (.idiv, 1) := by decide +kernel
theorem dX9_letters_23 : decode cX9_letters 23 = .ok (.iadd, 1) := by decide +kernel
theorem dX9_letters_24 : decode cX9_letters 24 = .ok (.bipush 16, 2) := by decide +kernel
theorem dX9_letters_26 : decode cX9_letters 26 = .ok (.irem, 1) := by decide +kernel
theorem dX9_letters_27 : decode cX9_letters 27 = .ok (.istore 8, 2) := by decide +kernel
theorem dX9_letters_29 : decode cX9_letters 29 = .ok (.iconst 0, 1) := by decide +kernel
theorem dX9_letters_30 : decode cX9_letters 30 = .ok (.istore 9, 2) := by decide +kernel
theorem dX9_letters_32 : decode cX9_letters 32 = .ok (.iload 9, 2) := by decide +kernel
theorem dX9_letters_34 : decode cX9_letters 34 = .ok (.iconst 4, 1) := by decide +kernel
theorem dX9_letters_35 : decode cX9_letters 35 = .ok (.if_icmp .ge 39, 3) := by decide +kernel
theorem dX9_letters_38 : decode cX9_letters 38 = .ok (.iload 6, 2) := by decide +kernel
theorem dX9_letters_40 : decode cX9_letters 40 = .ok (.aload_n 0, 1) := by decide +kernel
theorem dX9_letters_41 : decode cX9_letters 41 = .ok (.iload_n 1, 1) := by decide +kernel
theorem dX9_letters_42 : decode cX9_letters 42 = .ok (.iload_n 3, 1) := by decide +kernel
theorem dX9_letters_43 : decode cX9_letters 43 = .ok (.iload 9, 2) := by decide +kernel
theorem dX9_letters_45 : decode cX9_letters 45 = .ok (.iadd, 1) := by decide +kernel
theorem dX9_letters_46 : decode cX9_letters 46 = .ok (.iload 4, 2) := by decide +kernel
theorem dX9_letters_48 : decode cX9_letters 48 = .ok (.iload 7, 2) := by decide +kernel
theorem dX9_letters_50 : decode cX9_letters 50 = .ok (.iadd, 1) := by decide +kernel
theorem dX9_letters_51 : decode cX9_letters 51 = .ok (.iload 8, 2) := by decide +kernel
theorem dX9_letters_53 : decode cX9_letters 53 = .ok (.iconst 3, 1) := by decide +kernel
theorem dX9_letters_54 : decode cX9_letters 54 = .ok (.iload 9, 2) := by decide +kernel
theorem dX9_letters_56 : decode cX9_letters 56 = .ok (.isub, 1) := by decide +kernel
theorem dX9_letters_57 : decode cX9_letters 57 = .ok (.ishr, 1) := by decide +kernel
theorem dX9_letters_58 : decode cX9_letters 58 = .ok (.iconst 1, 1) := by decide +kernel
theorem dX9_letters_59 : decode cX9_letters 59 = .ok (.iand, 1) := by decide +kernel
theorem dX9_letters_60 : decode cX9_letters 60 = .ok (.iload 5, 2) := by decide +kernel
theorem dX9_letters_62 : decode cX9_letters 62 = .ok (.invokevirtual 131, 3) := by decide +kernel
theorem dX9_letters_65 : decode cX9_letters 65 = .ok (.iadd, 1) := by decide +kernel
theorem dX9_letters_66 : decode cX9_letters 66 = .ok (.istore 6, 2) := by decide +kernel
theorem dX9_letters_68 : decode cX9_letters 68 = .ok (.iinc 9 1, 3) := by decide +kernel
theorem dX9_letters_71 : decode cX9_letters 71 = .ok (.goto (-39), 3) := by decide +kernel
theorem dX9_letters_74 : decode cX9_letters 74 = .ok (.iinc 7 1, 3) := by decide +kernel
theorem dX9_letters_77 : decode cX9_letters 77 = .ok (.goto (-71), 3) := by decide +kernel
theorem dX9_letters_80 : decode cX9_letters 80 = .ok (.iload 6, 2) := by decide +kernel
theorem dX9_letters_82 : decode cX9_letters 82 = .ok (.ireturn, 1) := by decide +kernel
theorem dX9_letter_0 : decode cX9_letter 0 = .ok (.iload_n 1, 1) := by decide +kernel
theorem dX9_letter_1 : decode cX9_letter 1 = .ok (.invokestatic 79, 3) := by decide +kernel
theorem dX9_letter_4 : decode cX9_letter 4 = .ok (.ifCond .eq 32, 3) := by decide +kernel
theorem dX9_letter_7 : decode cX9_letter 7 = .ok (.iload_n 2, 1) := by decide +kernel
theorem dX9_letter_8 : decode cX9_letter 8 = .ok (.i2l, 1) := by decide +kernel
theorem dX9_letter_9 : decode cX9_letter 9 = .ok (.lconst 0, 1) := by decide +kernel
theorem dX9_letter_10 : decode cX9_letter 10 = .ok (.ldc2_w 178, 3) := by decide +kernel
theorem dX9_letter_13 : decode cX9_letter 13 = .ok (.invokestatic 37, 3) := by decide +kernel
theorem dX9_letter_16 : decode cX9_letter 16 = .ok (.ifCond .eq 20, 3) := by decide +kernel
theorem dX9_letter_19 : decode cX9_letter 19 = .ok (.iload_n 3, 1) := by decide +kernel
theorem dX9_letter_20 : decode cX9_letter 20 = .ok (.iload 4, 2) := by decide +kernel
theorem dX9_letter_22 : decode cX9_letter 22 = .ok (.invokestatic 107, 3) := by decide +kernel
theorem dX9_letter_25 : decode cX9_letter 25 = .ok (.ifCond .eq 11, 3) := by decide +kernel
theorem dX9_letter_28 : decode cX9_letter 28 = .ok (.iload 5, 2) := by decide +kernel
theorem dX9_letter_30 : decode cX9_letter 30 = .ok (.invokestatic 135, 3) := by decide +kernel
theorem dX9_letter_33 : decode cX9_letter 33 = .ok (.ifCond .ne 10, 3) := by decide +kernel
theorem dX9_letter_36 : decode cX9_letter 36 = .ok (.aload_n 0, 1) := by decide +kernel
theorem dX9_letter_37 : decode cX9_letter 37 = .ok (.bipush (-2), 2) := by decide +kernel
theorem dX9_letter_39 : decode cX9_letter 39 = .ok (.invokevirtual 83, 3) := by decide +kernel
theorem dX9_letter_42 : decode cX9_letter 42 = .ok (.ireturn, 1) := by decide +kernel
theorem dX9_letter_43 : decode cX9_letter 43 = .ok (.aload_n 0, 1) := by decide +kernel
theorem dX9_letter_44 : decode cX9_letter 44 = .ok (.invokevirtual 87, 3) := by decide +kernel
theorem dX9_letter_47 : decode cX9_letter 47 = .ok (.aload_n 0, 1) := by decide +kernel
theorem dX9_letter_48 : decode cX9_letter 48 = .ok (.iload_n 1, 1) := by decide +kernel
theorem dX9_letter_49 : decode cX9_letter 49 = .ok (.iload_n 2, 1) := by decide +kernel
theorem dX9_letter_50 : decode cX9_letter 50 = .ok (.iload_n 3, 1) := by decide +kernel
theorem dX9_letter_51 : decode cX9_letter 51 = .ok (.iload 4, 2) := by decide +kernel
theorem dX9_letter_53 : decode cX9_letter 53 = .ok (.iload 5, 2) := by decide +kernel
theorem dX9_letter_55 : decode cX9_letter 55 = .ok (.invokevirtual 180, 3) := by decide +kernel
theorem dX9_letter_58 : decode cX9_letter 58 = .ok (.ireturn, 1) := by decide +kernel
theorem dX9_joins_0 : decode cX9_joins 0 = .ok (.iload_n 1, 1) := by decide +kernel
theorem dX9_joins_1 : decode cX9_joins 1 = .ok (.invokestatic 79, 3) := by decide +kernel
theorem dX9_joins_4 : decode cX9_joins 4 = .ok (.ifCond .eq 17, 3) := by decide +kernel
theorem dX9_joins_7 : decode cX9_joins 7 = .ok (.iload_n 2, 1) := by decide +kernel
theorem dX9_joins_8 : decode cX9_joins 8 = .ok (.invokestatic 79, 3) := by decide +kernel
theorem dX9_joins_11 : decode cX9_joins 11 = .ok (.ifCond .eq 10, 3) := by decide +kernel
theorem dX9_joins_14 : decode cX9_joins 14 = .ok (.iload_n 3, 1) := by decide +kernel
theorem dX9_joins_15 : decode cX9_joins 15 = .ok (.invokestatic 135, 3) := by decide +kernel
theorem dX9_joins_18 : decode cX9_joins 18 = .ok (.ifCond .ne 10, 3) := by decide +kernel
theorem dX9_joins_21 : decode cX9_joins 21 = .ok (.aload_n 0, 1) := by decide +kernel
theorem dX9_joins_22 : decode cX9_joins 22 = .ok (.bipush (-2), 2) := by decide +kernel
theorem dX9_joins_24 : decode cX9_joins 24 = .ok (.invokevirtual 83, 3) := by decide +kernel
theorem dX9_joins_27 : decode cX9_joins 27 = .ok (.ireturn, 1) := by decide +kernel
theorem dX9_joins_28 : decode cX9_joins 28 = .ok (.aload_n 0, 1) := by decide +kernel
theorem dX9_joins_29 : decode cX9_joins 29 = .ok (.invokevirtual 87, 3) := by decide +kernel
theorem dX9_joins_32 : decode cX9_joins 32 = .ok (.aload_n 0, 1) := by decide +kernel
theorem dX9_joins_33 : decode cX9_joins 33 = .ok (.iload_n 1, 1) := by decide +kernel
theorem dX9_joins_34 : decode cX9_joins 34 = .ok (.iconst 0, 1) := by decide +kernel
theorem dX9_joins_35 : decode cX9_joins 35 = .ok (.iconst 0, 1) := by decide +kernel
theorem dX9_joins_36 : decode cX9_joins 36 = .ok (.bipush 32, 2) := by decide +kernel
theorem dX9_joins_38 : decode cX9_joins 38 = .ok (.bipush 24, 2) := by decide +kernel
theorem dX9_joins_40 : decode cX9_joins 40 = .ok (.iload_n 2, 1) := by decide +kernel
theorem dX9_joins_41 : decode cX9_joins 41 = .ok (.iconst 0, 1) := by decide +kernel
theorem dX9_joins_42 : decode cX9_joins 42 = .ok (.iconst 0, 1) := by decide +kernel
theorem dX9_joins_43 : decode cX9_joins 43 = .ok (.iload_n 3, 1) := by decide +kernel
theorem dX9_joins_44 : decode cX9_joins 44 = .ok (.invokevirtual 138, 3) := by decide +kernel
theorem dX9_joins_47 : decode cX9_joins 47 = .ok (.ireturn, 1) := by decide +kernel
theorem dX9_sides_0 : decode cX9_sides 0 = .ok (.aload_n 0, 1) := by decide +kernel
theorem dX9_sides_1 : decode cX9_sides 1 = .ok (.iload_n 1, 1) := by decide +kernel
theorem dX9_sides_2 : decode cX9_sides 2 = .ok (.iload_n 2, 1) := by decide +kernel
theorem dX9_sides_3 : decode cX9_sides 3 = .ok (.iconst 1, 1) := by decide +kernel
theorem dX9_sides_4 : decode cX9_sides 4 = .ok (.iadd, 1) := by decide +kernel
theorem dX9_sides_5 : decode cX9_sides 5 = .ok (.iload_n 3, 1) := by decide +kernel
theorem dX9_sides_6 : decode cX9_sides 6 = .ok (.invokevirtual 128, 3) := by decide +kernel
theorem dX9_sides_9 : decode cX9_sides 9 = .ok (.aload_n 0, 1) := by decide +kernel
theorem dX9_sides_10 : decode cX9_sides 10 = .ok (.iload_n 1, 1) := by decide +kernel
theorem dX9_sides_11 : decode cX9_sides 11 = .ok (.iload_n 2, 1) := by decide +kernel
theorem dX9_sides_12 : decode cX9_sides 12 = .ok (.iconst 1, 1) := by decide +kernel
theorem dX9_sides_13 : decode cX9_sides 13 = .ok (.isub, 1) := by decide +kernel
theorem dX9_sides_14 : decode cX9_sides 14 = .ok (.iload_n 3, 1) := by decide +kernel
theorem dX9_sides_15 : decode cX9_sides 15 = .ok (.invokevirtual 128, 3) := by decide +kernel
theorem dX9_sides_18 : decode cX9_sides 18 = .ok (.iadd, 1) := by decide +kernel
theorem dX9_sides_19 : decode cX9_sides 19 = .ok (.aload_n 0, 1) := by decide +kernel
theorem dX9_sides_20 : decode cX9_sides 20 = .ok (.iload_n 1, 1) := by decide +kernel
theorem dX9_sides_21 : decode cX9_sides 21 = .ok (.iload_n 2, 1) := by decide +kernel
theorem dX9_sides_22 : decode cX9_sides 22 = .ok (.iload_n 3, 1) := by decide +kernel
theorem dX9_sides_23 : decode cX9_sides 23 = .ok (.iconst 1, 1) := by decide +kernel
theorem dX9_sides_24 : decode cX9_sides 24 = .ok (.iadd, 1) := by decide +kernel
theorem dX9_sides_25 : decode cX9_sides 25 = .ok (.invokevirtual 128, 3) := by decide +kernel
theorem dX9_sides_28 : decode cX9_sides 28 = .ok (.iadd, 1) := by decide +kernel
theorem dX9_sides_29 : decode cX9_sides 29 = .ok (.aload_n 0, 1) := by decide +kernel
theorem dX9_sides_30 : decode cX9_sides 30 = .ok (.iload_n 1, 1) := by decide +kernel
theorem dX9_sides_31 : decode cX9_sides 31 = .ok (.iload_n 2, 1) := by decide +kernel
theorem dX9_sides_32 : decode cX9_sides 32 = .ok (.iload_n 3, 1) := by decide +kernel
theorem dX9_sides_33 : decode cX9_sides 33 = .ok (.iconst 1, 1) := by decide +kernel
theorem dX9_sides_34 : decode cX9_sides 34 = .ok (.isub, 1) := by decide +kernel
theorem dX9_sides_35 : decode cX9_sides 35 = .ok (.invokevirtual 128, 3) := by decide +kernel
theorem dX9_sides_38 : decode cX9_sides 38 = .ok (.iadd, 1) := by decide +kernel
theorem dX9_sides_39 : decode cX9_sides 39 = .ok (.ireturn, 1) := by decide +kernel
theorem dX9_changed_0 : decode cX9_changed 0 = .ok (.aload_n 0, 1) := by decide +kernel
theorem dX9_changed_1 : decode cX9_changed 1 = .ok (.iload_n 1, 1) := by decide +kernel
theorem dX9_changed_2 : decode cX9_changed 2 = .ok (.iload_n 3, 1) := by decide +kernel
theorem dX9_changed_3 : decode cX9_changed 3 = .ok (.iload 4, 2) := by decide +kernel
theorem dX9_changed_5 : decode cX9_changed 5 = .ok (.invokevirtual 128, 3) := by decide +kernel
theorem dX9_changed_8 : decode cX9_changed 8 = .ok (.istore 5, 2) := by decide +kernel
theorem dX9_changed_10 : decode cX9_changed 10 = .ok (.aload_n 0, 1) := by decide +kernel
theorem dX9_changed_11 : decode cX9_changed 11 = .ok (.iload_n 1, 1) := by decide +kernel
theorem dX9_changed_12 : decode cX9_changed 12 = .ok (.iload_n 3, 1) := by decide +kernel
theorem dX9_changed_13 : decode cX9_changed 13 = .ok (.iload 4, 2) := by decide +kernel
theorem dX9_changed_15 : decode cX9_changed 15 = .ok (.invokevirtual 183, 3) := by decide +kernel
theorem dX9_changed_18 : decode cX9_changed 18 = .ok (.istore 6, 2) := by decide +kernel
theorem dX9_changed_20 : decode cX9_changed 20 = .ok (.iload_n 2, 1) := by decide +kernel
theorem dX9_changed_21 : decode cX9_changed 21 = .ok (.tableswitch 87 0 3 #[31, 43, 55, 69], 31) := by decide +kernel
theorem dX9_changed_52 : decode cX9_changed 52 = .ok (.aload_n 0, 1) := by decide +kernel
theorem dX9_changed_53 : decode cX9_changed 53 = .ok (.iload_n 1, 1) := by decide +kernel
theorem dX9_changed_54 : decode cX9_changed 54 = .ok (.bipush 31, 2) := by decide +kernel
theorem dX9_changed_56 : decode cX9_changed 56 = .ok (.iload_n 3, 1) := by decide +kernel
theorem dX9_changed_57 : decode cX9_changed 57 = .ok (.isub, 1) := by decide +kernel
theorem dX9_changed_58 : decode cX9_changed 58 = .ok (.iload 4, 2) := by decide +kernel
theorem dX9_changed_60 : decode cX9_changed 60 = .ok (.invokevirtual 128, 3) := by decide +kernel
theorem dX9_changed_63 : decode cX9_changed 63 = .ok (.ireturn, 1) := by decide +kernel
theorem dX9_changed_64 : decode cX9_changed 64 = .ok (.aload_n 0, 1) := by decide +kernel
theorem dX9_changed_65 : decode cX9_changed 65 = .ok (.iload_n 1, 1) := by decide +kernel
theorem dX9_changed_66 : decode cX9_changed 66 = .ok (.iload_n 3, 1) := by decide +kernel
theorem dX9_changed_67 : decode cX9_changed 67 = .ok (.bipush 23, 2) := by decide +kernel
theorem dX9_changed_69 : decode cX9_changed 69 = .ok (.iload 4, 2) := by decide +kernel
theorem dX9_changed_71 : decode cX9_changed 71 = .ok (.isub, 1) := by decide +kernel
theorem dX9_changed_72 : decode cX9_changed 72 = .ok (.invokevirtual 128, 3) := by decide +kernel
theorem dX9_changed_75 : decode cX9_changed 75 = .ok (.ireturn, 1) := by decide +kernel
theorem dX9_changed_76 : decode cX9_changed 76 = .ok (.iload 5, 2) := by decide +kernel
theorem dX9_changed_78 : decode cX9_changed 78 = .ok (.iload 6, 2) := by decide +kernel
theorem dX9_changed_80 : decode cX9_changed 80 = .ok (.iadd, 1) := by decide +kernel
theorem dX9_changed_81 : decode cX9_changed 81 = .ok (.ifCond .le 7, 3) := by decide +kernel
theorem dX9_changed_84 : decode cX9_changed 84 = .ok (.iconst 1, 1) := by decide +kernel
theorem dX9_changed_85 : decode cX9_changed 85 = .ok (.goto 4, 3) := by decide +kernel
theorem dX9_changed_88 : decode cX9_changed 88 = .ok (.iconst 0, 1) := by decide +kernel
theorem dX9_changed_89 : decode cX9_changed 89 = .ok (.ireturn, 1) := by decide +kernel
theorem dX9_changed_90 : decode cX9_changed 90 = .ok (.iload 5, 2) := by decide +kernel
theorem dX9_changed_92 : decode cX9_changed 92 = .ok (.iconst 1, 1) := by decide +kernel
theorem dX9_changed_93 : decode cX9_changed 93 = .ok (.if_icmp .ne 13, 3) := by decide +kernel
theorem dX9_changed_96 : decode cX9_changed 96 = .ok (.iload 6, 2) := by decide +kernel
theorem dX9_changed_98 : decode cX9_changed 98 = .ok (.iconst 4, 1) := by decide +kernel
theorem dX9_changed_99 : decode cX9_changed 99 = .ok (.if_icmp .ne 7, 3) := by decide +kernel
theorem dX9_changed_102 : decode cX9_changed 102 = .ok (.iconst 1, 1) := by decide +kernel
theorem dX9_changed_103 : decode cX9_changed 103 = .ok (.goto 4, 3) := by decide +kernel
theorem dX9_changed_106 : decode cX9_changed 106 = .ok (.iconst 0, 1) := by decide +kernel
theorem dX9_changed_107 : decode cX9_changed 107 = .ok (.ireturn, 1) := by decide +kernel
theorem dX9_changed_108 : decode cX9_changed 108 = .ok (.iload 5, 2) := by decide +kernel
theorem dX9_changed_110 : decode cX9_changed 110 = .ok (.iconst 1, 1) := by decide +kernel
theorem dX9_changed_111 : decode cX9_changed 111 = .ok (.if_icmp .ne 13, 3) := by decide +kernel
theorem dX9_changed_114 : decode cX9_changed 114 = .ok (.iload 6, 2) := by decide +kernel
theorem dX9_changed_116 : decode cX9_changed 116 = .ok (.iconst 4, 1) := by decide +kernel
theorem dX9_changed_117 : decode cX9_changed 117 = .ok (.if_icmp .ge 7, 3) := by decide +kernel
theorem dX9_changed_120 : decode cX9_changed 120 = .ok (.iconst 1, 1) := by decide +kernel
theorem dX9_changed_121 : decode cX9_changed 121 = .ok (.goto 4, 3) := by decide +kernel
theorem dX9_changed_124 : decode cX9_changed 124 = .ok (.iconst 0, 1) := by decide +kernel
theorem dX9_changed_125 : decode cX9_changed 125 = .ok (.ireturn, 1) := by decide +kernel
theorem dX9_changes_0 : decode cX9_changes 0 = .ok (.iload_n 1, 1) := by decide +kernel
theorem dX9_changes_1 : decode cX9_changes 1 = .ok (.invokestatic 79, 3) := by decide +kernel
theorem dX9_changes_4 : decode cX9_changes 4 = .ok (.ifCond .eq 15, 3) := by decide +kernel
theorem dX9_changes_7 : decode cX9_changes 7 = .ok (.iload_n 2, 1) := by decide +kernel
theorem dX9_changes_8 : decode cX9_changes 8 = .ok (.i2l, 1) := by decide +kernel
theorem dX9_changes_9 : decode cX9_changes 9 = .ok (.lconst 0, 1) := by decide +kernel
theorem dX9_changes_10 : decode cX9_changes 10 = .ok (.ldc2_w 186, 3) := by decide +kernel
theorem dX9_changes_13 : decode cX9_changes 13 = .ok (.invokestatic 37, 3) := by decide +kernel
theorem dX9_changes_16 : decode cX9_changes 16 = .ok (.ifCond .ne 10, 3) := by decide +kernel
theorem dX9_changes_19 : decode cX9_changes 19 = .ok (.aload_n 0, 1) := by decide +kernel
theorem dX9_changes_20 : decode cX9_changes 20 = .ok (.bipush (-2), 2) := by decide +kernel
theorem dX9_changes_22 : decode cX9_changes 22 = .ok (.invokevirtual 83, 3) := by decide +kernel
theorem dX9_changes_25 : decode cX9_changes 25 = .ok (.ireturn, 1) := by decide +kernel
theorem dX9_changes_26 : decode cX9_changes 26 = .ok (.iconst 0, 1) := by decide +kernel
theorem dX9_changes_27 : decode cX9_changes 27 = .ok (.istore_n 3, 1) := by decide +kernel
theorem dX9_changes_28 : decode cX9_changes 28 = .ok (.aload_n 0, 1) := by decide +kernel
theorem dX9_changes_29 : decode cX9_changes 29 = .ok (.invokevirtual 87, 3) := by decide +kernel
theorem dX9_changes_32 : decode cX9_changes 32 = .ok (.aload_n 0, 1) := by decide +kernel
theorem dX9_changes_33 : decode cX9_changes 33 = .ok (.aload_n 0, 1) := by decide +kernel
theorem dX9_changes_34 : decode cX9_changes 34 = .ok (.getfield 19, 3) := by decide +kernel
theorem dX9_changes_37 : decode cX9_changes 37 = .ok (.invokevirtual 124, 3) := by decide +kernel
theorem dX9_changes_40 : decode cX9_changes 40 = .ok (.iconst 0, 1) := by decide +kernel
theorem dX9_changes_41 : decode cX9_changes 41 = .ok (.istore 4, 2) := by decide +kernel
theorem dX9_changes_43 : decode cX9_changes 43 = .ok (.iload 4, 2) := by decide +kernel
theorem dX9_changes_45 : decode cX9_changes 45 = .ok (.bipush 24, 2) := by decide +kernel
theorem dX9_changes_47 : decode cX9_changes 47 = .ok (.if_icmp .ge 47, 3) := by decide +kernel
theorem dX9_changes_50 : decode cX9_changes 50 = .ok (.iconst 0, 1) := by decide +kernel
theorem dX9_changes_51 : decode cX9_changes 51 = .ok (.istore 5, 2) := by decide +kernel
theorem dX9_changes_53 : decode cX9_changes 53 = .ok (.iload 5, 2) := by decide +kernel
theorem dX9_changes_55 : decode cX9_changes 55 = .ok (.bipush 32, 2) := by decide +kernel
theorem dX9_changes_57 : decode cX9_changes 57 = .ok (.if_icmp .ge 31, 3) := by decide +kernel
theorem dX9_changes_60 : decode cX9_changes 60 = .ok (.iload_n 3, 1) := by decide +kernel
theorem dX9_changes_61 : decode cX9_changes 61 = .ok (.aload_n 0, 1) := by decide +kernel
theorem dX9_changes_62 : decode cX9_changes 62 = .ok (.iload_n 1, 1) := by decide +kernel
theorem dX9_changes_63 : decode cX9_changes 63 = .ok (.iload 5, 2) := by decide +kernel
theorem dX9_changes_65 : decode cX9_changes 65 = .ok (.iload 4, 2) := by decide +kernel
theorem dX9_changes_67 : decode cX9_changes 67 = .ok (.aload_n 0, 1) := by decide +kernel
theorem dX9_changes_68 : decode cX9_changes 68 = .ok (.iload_n 1, 1) := by decide +kernel
theorem dX9_changes_69 : decode cX9_changes 69 = .ok (.iload_n 2, 1) := by decide +kernel
theorem dX9_changes_70 : decode cX9_changes 70 = .ok (.iload 5, 2) := by decide +kernel
theorem dX9_changes_72 : decode cX9_changes 72 = .ok (.iload 4, 2) := by decide +kernel
theorem dX9_changes_74 : decode cX9_changes 74 = .ok (.invokevirtual 188, 3) := by decide +kernel
theorem dX9_changes_77 : decode cX9_changes 77 = .ok (.invokevirtual 75, 3) := by decide +kernel
theorem dX9_changes_80 : decode cX9_changes 80 = .ok (.iadd, 1) := by decide +kernel
theorem dX9_changes_81 : decode cX9_changes 81 = .ok (.istore_n 3, 1) := by decide +kernel
theorem dX9_changes_82 : decode cX9_changes 82 = .ok (.iinc 5 1, 3) := by decide +kernel
theorem dX9_changes_85 : decode cX9_changes 85 = .ok (.goto (-32), 3) := by decide +kernel
theorem dX9_changes_88 : decode cX9_changes 88 = .ok (.iinc 4 1, 3) := by decide +kernel
theorem dX9_changes_91 : decode cX9_changes 91 = .ok (.goto (-48), 3) := by decide +kernel
theorem dX9_changes_94 : decode cX9_changes 94 = .ok (.iload_n 3, 1) := by decide +kernel
theorem dX9_changes_95 : decode cX9_changes 95 = .ok (.ireturn, 1) := by decide +kernel
theorem dX9_rolls_0 : decode cX9_rolls 0 = .ok (.iload_n 1, 1) := by decide +kernel
theorem dX9_rolls_1 : decode cX9_rolls 1 = .ok (.invokestatic 79, 3) := by decide +kernel
theorem dX9_rolls_4 : decode cX9_rolls 4 = .ok (.ifCond .eq 31, 3) := by decide +kernel
theorem dX9_rolls_7 : decode cX9_rolls 7 = .ok (.iload_n 2, 1) := by decide +kernel
theorem dX9_rolls_8 : decode cX9_rolls 8 = .ok (.i2l, 1) := by decide +kernel
theorem dX9_rolls_9 : decode cX9_rolls 9 = .ok (.ldc2_w 191, 3) := by decide +kernel
theorem dX9_rolls_12 : decode cX9_rolls 12 = .ok (.ldc2_w 49, 3) := by decide +kernel
theorem dX9_rolls_15 : decode cX9_rolls 15 = .ok (.invokestatic 37, 3) := by decide +kernel
theorem dX9_rolls_18 : decode cX9_rolls 18 = .ok (.ifCond .eq 17, 3) := by decide +kernel
theorem dX9_rolls_21 : decode cX9_rolls 21 = .ok (.iload_n 3, 1) := by decide +kernel
theorem dX9_rolls_22 : decode cX9_rolls 22 = .ok (.i2l, 1) := by decide +kernel
theorem dX9_rolls_23 : decode cX9_rolls 23 = .ok (.ldc2_w 191, 3) := by decide +kernel
theorem dX9_rolls_26 : decode cX9_rolls 26 = .ok (.ldc2_w 49, 3) := by decide +kernel
theorem dX9_rolls_29 : decode cX9_rolls 29 = .ok (.invokestatic 37, 3) := by decide +kernel
theorem dX9_rolls_32 : decode cX9_rolls 32 = .ok (.ifCond .ne 10, 3) := by decide +kernel
theorem dX9_rolls_35 : decode cX9_rolls 35 = .ok (.aload_n 0, 1) := by decide +kernel
theorem dX9_rolls_36 : decode cX9_rolls 36 = .ok (.bipush (-2), 2) := by decide +kernel
theorem dX9_rolls_38 : decode cX9_rolls 38 = .ok (.invokevirtual 83, 3) := by decide +kernel
theorem dX9_rolls_41 : decode cX9_rolls 41 = .ok (.ireturn, 1) := by decide +kernel
theorem dX9_rolls_42 : decode cX9_rolls 42 = .ok (.iconst 0, 1) := by decide +kernel
theorem dX9_rolls_43 : decode cX9_rolls 43 = .ok (.istore 4, 2) := by decide +kernel
theorem dX9_rolls_45 : decode cX9_rolls 45 = .ok (.aload_n 0, 1) := by decide +kernel
theorem dX9_rolls_46 : decode cX9_rolls 46 = .ok (.invokevirtual 87, 3) := by decide +kernel
theorem dX9_rolls_49 : decode cX9_rolls 49 = .ok (.aload_n 0, 1) := by decide +kernel
theorem dX9_rolls_50 : decode cX9_rolls 50 = .ok (.aload_n 0, 1) := by decide +kernel
theorem dX9_rolls_51 : decode cX9_rolls 51 = .ok (.getfield 19, 3) := by decide +kernel
theorem dX9_rolls_54 : decode cX9_rolls 54 = .ok (.invokevirtual 124, 3) := by decide +kernel
theorem dX9_rolls_57 : decode cX9_rolls 57 = .ok (.iconst 0, 1) := by decide +kernel
theorem dX9_rolls_58 : decode cX9_rolls 58 = .ok (.istore 5, 2) := by decide +kernel
theorem dX9_rolls_60 : decode cX9_rolls 60 = .ok (.iload 5, 2) := by decide +kernel
theorem dX9_rolls_62 : decode cX9_rolls 62 = .ok (.bipush 24, 2) := by decide +kernel
theorem dX9_rolls_64 : decode cX9_rolls 64 = .ok (.if_icmp .ge 64, 3) := by decide +kernel
theorem dX9_rolls_67 : decode cX9_rolls 67 = .ok (.iconst 0, 1) := by decide +kernel
theorem dX9_rolls_68 : decode cX9_rolls 68 = .ok (.istore 6, 2) := by decide +kernel
theorem dX9_rolls_70 : decode cX9_rolls 70 = .ok (.iload 6, 2) := by decide +kernel
theorem dX9_rolls_72 : decode cX9_rolls 72 = .ok (.bipush 32, 2) := by decide +kernel
theorem dX9_rolls_74 : decode cX9_rolls 74 = .ok (.if_icmp .ge 48, 3) := by decide +kernel
theorem dX9_rolls_77 : decode cX9_rolls 77 = .ok (.iload 4, 2) := by decide +kernel
theorem dX9_rolls_79 : decode cX9_rolls 79 = .ok (.aload_n 0, 1) := by decide +kernel
theorem dX9_rolls_80 : decode cX9_rolls 80 = .ok (.iload_n 1, 1) := by decide +kernel
theorem dX9_rolls_81 : decode cX9_rolls 81 = .ok (.iload 6, 2) := by decide +kernel
theorem dX9_rolls_83 : decode cX9_rolls 83 = .ok (.iload 5, 2) := by decide +kernel
theorem dX9_rolls_85 : decode cX9_rolls 85 = .ok (.aload_n 0, 1) := by decide +kernel
theorem dX9_rolls_86 : decode cX9_rolls 86 = .ok (.iload_n 1, 1) := by decide +kernel
theorem dX9_rolls_87 : decode cX9_rolls 87 = .ok (.iload 6, 2) := by decide +kernel
theorem dX9_rolls_89 : decode cX9_rolls 89 = .ok (.iload_n 2, 1) := by decide +kernel
theorem dX9_rolls_90 : decode cX9_rolls 90 = .ok (.isub, 1) := by decide +kernel
theorem dX9_rolls_91 : decode cX9_rolls 91 = .ok (.bipush 64, 2) := by decide +kernel
theorem dX9_rolls_93 : decode cX9_rolls 93 = .ok (.iadd, 1) := by decide +kernel
theorem dX9_rolls_94 : decode cX9_rolls 94 = .ok (.bipush 32, 2) := by decide +kernel
theorem dX9_rolls_96 : decode cX9_rolls 96 = .ok (.irem, 1) := by decide +kernel
theorem dX9_rolls_97 : decode cX9_rolls 97 = .ok (.iload 5, 2) := by decide +kernel
theorem dX9_rolls_99 : decode cX9_rolls 99 = .ok (.iload_n 3, 1) := by decide +kernel
theorem dX9_rolls_100 : decode cX9_rolls 100 = .ok (.isub, 1) := by decide +kernel
theorem dX9_rolls_101 : decode cX9_rolls 101 = .ok (.bipush 48, 2) := by decide +kernel
theorem dX9_rolls_103 : decode cX9_rolls 103 = .ok (.iadd, 1) := by decide +kernel
theorem dX9_rolls_104 : decode cX9_rolls 104 = .ok (.bipush 24, 2) := by decide +kernel
theorem dX9_rolls_106 : decode cX9_rolls 106 = .ok (.irem, 1) := by decide +kernel
theorem dX9_rolls_107 : decode cX9_rolls 107 = .ok (.invokevirtual 128, 3) := by decide +kernel
theorem dX9_rolls_110 : decode cX9_rolls 110 = .ok (.invokevirtual 75, 3) := by decide +kernel
theorem dX9_rolls_113 : decode cX9_rolls 113 = .ok (.iadd, 1) := by decide +kernel
theorem dX9_rolls_114 : decode cX9_rolls 114 = .ok (.istore 4, 2) := by decide +kernel
theorem dX9_rolls_116 : decode cX9_rolls 116 = .ok (.iinc 6 1, 3) := by decide +kernel
theorem dX9_rolls_119 : decode cX9_rolls 119 = .ok (.goto (-49), 3) := by decide +kernel
theorem dX9_rolls_122 : decode cX9_rolls 122 = .ok (.iinc 5 1, 3) := by decide +kernel
theorem dX9_rolls_125 : decode cX9_rolls 125 = .ok (.goto (-65), 3) := by decide +kernel
theorem dX9_rolls_128 : decode cX9_rolls 128 = .ok (.iload 4, 2) := by decide +kernel
theorem dX9_rolls_130 : decode cX9_rolls 130 = .ok (.ireturn, 1) := by decide +kernel
theorem dX9_at_0 : decode cX9_at 0 = .ok (.iload_n 1, 1) := by decide +kernel
theorem dX9_at_1 : decode cX9_at 1 = .ok (.invokestatic 79, 3) := by decide +kernel
theorem dX9_at_4 : decode cX9_at 4 = .ok (.ifCond .eq 13, 3) := by decide +kernel
theorem dX9_at_7 : decode cX9_at 7 = .ok (.aload_n 0, 1) := by decide +kernel
theorem dX9_at_8 : decode cX9_at 8 = .ok (.iload_n 1, 1) := by decide +kernel
theorem dX9_at_9 : decode cX9_at 9 = .ok (.iload_n 2, 1) := by decide +kernel
theorem dX9_at_10 : decode cX9_at 10 = .ok (.iload_n 3, 1) := by decide +kernel
theorem dX9_at_11 : decode cX9_at 11 = .ok (.invokevirtual 65, 3) := by decide +kernel
theorem dX9_at_14 : decode cX9_at 14 = .ok (.goto 9, 3) := by decide +kernel
theorem dX9_at_17 : decode cX9_at 17 = .ok (.aload_n 0, 1) := by decide +kernel
theorem dX9_at_18 : decode cX9_at 18 = .ok (.bipush (-2), 2) := by decide +kernel
theorem dX9_at_20 : decode cX9_at 20 = .ok (.invokevirtual 83, 3) := by decide +kernel
theorem dX9_at_23 : decode cX9_at 23 = .ok (.ireturn, 1) := by decide +kernel
theorem dX9_row_0 : decode cX9_row 0 = .ok (.iload_n 1, 1) := by decide +kernel
theorem dX9_row_1 : decode cX9_row 1 = .ok (.invokestatic 79, 3) := by decide +kernel
theorem dX9_row_4 : decode cX9_row 4 = .ok (.ifCond .eq 29, 3) := by decide +kernel
theorem dX9_row_7 : decode cX9_row 7 = .ok (.iload_n 2, 1) := by decide +kernel
theorem dX9_row_8 : decode cX9_row 8 = .ok (.i2l, 1) := by decide +kernel
theorem dX9_row_9 : decode cX9_row 9 = .ok (.lconst 0, 1) := by decide +kernel
theorem dX9_row_10 : decode cX9_row 10 = .ok (.ldc2_w 51, 3) := by decide +kernel
theorem dX9_row_13 : decode cX9_row 13 = .ok (.invokestatic 37, 3) := by decide +kernel
theorem dX9_row_16 : decode cX9_row 16 = .ok (.ifCond .eq 17, 3) := by decide +kernel
theorem dX9_row_19 : decode cX9_row 19 = .ok (.aload_n 0, 1) := by decide +kernel
theorem dX9_row_20 : decode cX9_row 20 = .ok (.getfield 7, 3) := by decide +kernel
theorem dX9_row_23 : decode cX9_row 23 = .ok (.bipush 24, 2) := by decide +kernel
theorem dX9_row_25 : decode cX9_row 25 = .ok (.iload_n 1, 1) := by decide +kernel
theorem dX9_row_26 : decode cX9_row 26 = .ok (.imul, 1) := by decide +kernel
theorem dX9_row_27 : decode cX9_row 27 = .ok (.iload_n 2, 1) := by decide +kernel
theorem dX9_row_28 : decode cX9_row 28 = .ok (.iadd, 1) := by decide +kernel
theorem dX9_row_29 : decode cX9_row 29 = .ok (.iaload, 1) := by decide +kernel
theorem dX9_row_30 : decode cX9_row 30 = .ok (.goto 8, 3) := by decide +kernel
theorem dX9_row_33 : decode cX9_row 33 = .ok (.aload_n 0, 1) := by decide +kernel
theorem dX9_row_34 : decode cX9_row 34 = .ok (.iconst 0, 1) := by decide +kernel
theorem dX9_row_35 : decode cX9_row 35 = .ok (.invokevirtual 83, 3) := by decide +kernel
theorem dX9_row_38 : decode cX9_row 38 = .ok (.ireturn, 1) := by decide +kernel
theorem dX9_partsOf_0 : decode cX9_partsOf 0 = .ok (.iconst 0, 1) := by decide +kernel
theorem dX9_partsOf_1 : decode cX9_partsOf 1 = .ok (.istore_n 2, 1) := by decide +kernel
theorem dX9_partsOf_2 : decode cX9_partsOf 2 = .ok (.aload_n 0, 1) := by decide +kernel
theorem dX9_partsOf_3 : decode cX9_partsOf 3 = .ok (.invokevirtual 159, 3) := by decide +kernel
theorem dX9_partsOf_6 : decode cX9_partsOf 6 = .ok (.iconst 0, 1) := by decide +kernel
theorem dX9_partsOf_7 : decode cX9_partsOf 7 = .ok (.istore_n 3, 1) := by decide +kernel
theorem dX9_partsOf_8 : decode cX9_partsOf 8 = .ok (.iload_n 3, 1) := by decide +kernel
theorem dX9_partsOf_9 : decode cX9_partsOf 9 = .ok (.sipush 768, 3) := by decide +kernel
theorem dX9_partsOf_12 : decode cX9_partsOf 12 = .ok (.if_icmp .ge 54, 3) := by decide +kernel
theorem dX9_partsOf_15 : decode cX9_partsOf 15 = .ok (.aload_n 0, 1) := by decide +kernel
theorem dX9_partsOf_16 : decode cX9_partsOf 16 = .ok (.getfield 25, 3) := by decide +kernel
theorem dX9_partsOf_19 : decode cX9_partsOf 19 = .ok (.iload_n 3, 1) := by decide +kernel
theorem dX9_partsOf_20 : decode cX9_partsOf 20 = .ok (.baload, 1) := by decide +kernel
theorem dX9_partsOf_21 : decode cX9_partsOf 21 = .ok (.ifCond .ne 39, 3) := by decide +kernel
theorem dX9_partsOf_24 : decode cX9_partsOf 24 = .ok (.aload_n 0, 1) := by decide +kernel
theorem dX9_partsOf_25 : decode cX9_partsOf 25 = .ok (.iload_n 1, 1) := by decide +kernel
theorem dX9_partsOf_26 : decode cX9_partsOf 26 = .ok (.iload_n 3, 1) := by decide +kernel
theorem dX9_partsOf_27 : decode cX9_partsOf 27 = .ok (.bipush 32, 2) := by decide +kernel
theorem dX9_partsOf_29 : decode cX9_partsOf 29 = .ok (.irem, 1) := by decide +kernel
theorem dX9_partsOf_30 : decode cX9_partsOf 30 = .ok (.iload_n 3, 1) := by decide +kernel
theorem dX9_partsOf_31 : decode cX9_partsOf 31 = .ok (.bipush 32, 2) := by decide +kernel
theorem dX9_partsOf_33 : decode cX9_partsOf 33 = .ok (.idiv, 1) := by decide +kernel
theorem dX9_partsOf_34 : decode cX9_partsOf 34 = .ok (.invokevirtual 65, 3) := by decide +kernel
theorem dX9_partsOf_37 : decode cX9_partsOf 37 = .ok (.iconst 1, 1) := by decide +kernel
theorem dX9_partsOf_38 : decode cX9_partsOf 38 = .ok (.if_icmp .ne 22, 3) := by decide +kernel
theorem dX9_partsOf_41 : decode cX9_partsOf 41 = .ok (.aload_n 0, 1) := by decide +kernel
theorem dX9_partsOf_42 : decode cX9_partsOf 42 = .ok (.iload_n 1, 1) := by decide +kernel
theorem dX9_partsOf_43 : decode cX9_partsOf 43 = .ok (.iload_n 3, 1) := by decide +kernel
theorem dX9_partsOf_44 : decode cX9_partsOf 44 = .ok (.bipush 32, 2) := by decide +kernel
theorem dX9_partsOf_46 : decode cX9_partsOf 46 = .ok (.irem, 1) := by decide +kernel
theorem dX9_partsOf_47 : decode cX9_partsOf 47 = .ok (.iload_n 3, 1) := by decide +kernel
theorem dX9_partsOf_48 : decode cX9_partsOf 48 = .ok (.bipush 32, 2) := by decide +kernel
theorem dX9_partsOf_50 : decode cX9_partsOf 50 = .ok (.idiv, 1) := by decide +kernel
theorem dX9_partsOf_51 : decode cX9_partsOf 51 = .ok (.iconst 0, 1) := by decide +kernel
theorem dX9_partsOf_52 : decode cX9_partsOf 52 = .ok (.invokevirtual 162, 3) := by decide +kernel
theorem dX9_partsOf_55 : decode cX9_partsOf 55 = .ok (.istore 4, 2) := by decide +kernel
theorem dX9_partsOf_57 : decode cX9_partsOf 57 = .ok (.iinc 2 1, 3) := by decide +kernel
theorem dX9_partsOf_60 : decode cX9_partsOf 60 = .ok (.iinc 3 1, 3) := by decide +kernel
theorem dX9_partsOf_63 : decode cX9_partsOf 63 = .ok (.goto (-55), 3) := by decide +kernel
theorem dX9_partsOf_66 : decode cX9_partsOf 66 = .ok (.iload_n 2, 1) := by decide +kernel
theorem dX9_partsOf_67 : decode cX9_partsOf 67 = .ok (.ireturn, 1) := by decide +kernel
theorem dX9_edge_0 : decode cX9_edge 0 = .ok (.iconst (-1), 1) := by decide +kernel
theorem dX9_edge_1 : decode cX9_edge 1 = .ok (.istore 4, 2) := by decide +kernel
theorem dX9_edge_3 : decode cX9_edge 3 = .ok (.iconst 0, 1) := by decide +kernel
theorem dX9_edge_4 : decode cX9_edge 4 = .ok (.istore 5, 2) := by decide +kernel
theorem dX9_edge_6 : decode cX9_edge 6 = .ok (.iload 5, 2) := by decide +kernel
theorem dX9_edge_8 : decode cX9_edge 8 = .ok (.sipush 768, 3) := by decide +kernel
theorem dX9_edge_11 : decode cX9_edge 11 = .ok (.if_icmp .ge 95, 3) := by decide +kernel
theorem dX9_edge_14 : decode cX9_edge 14 = .ok (.iload_n 2, 1) := by decide +kernel
theorem dX9_edge_15 : decode cX9_edge 15 = .ok (.ifCond .eq 11, 3) := by decide +kernel
theorem dX9_edge_18 : decode cX9_edge 18 = .ok (.iload 5, 2) := by decide +kernel
theorem dX9_edge_20 : decode cX9_edge 20 = .ok (.bipush 32, 2) := by decide +kernel
theorem dX9_edge_22 : decode cX9_edge 22 = .ok (.irem, 1) := by decide +kernel
theorem dX9_edge_23 : decode cX9_edge 23 = .ok (.goto 8, 3) := by decide +kernel
theorem dX9_edge_26 : decode cX9_edge 26 = .ok (.iload 5, 2) := by decide +kernel
theorem dX9_edge_28 : decode cX9_edge 28 = .ok (.bipush 32, 2) := by decide +kernel
theorem dX9_edge_30 : decode cX9_edge 30 = .ok (.idiv, 1) := by decide +kernel
theorem dX9_edge_31 : decode cX9_edge 31 = .ok (.istore 6, 2) := by decide +kernel
theorem dX9_edge_33 : decode cX9_edge 33 = .ok (.iload 4, 2) := by decide +kernel
theorem dX9_edge_35 : decode cX9_edge 35 = .ok (.iconst (-1), 1) := by decide +kernel
theorem dX9_edge_36 : decode cX9_edge 36 = .ok (.if_icmp .eq 24, 3) := by decide +kernel
theorem dX9_edge_39 : decode cX9_edge 39 = .ok (.iload_n 3, 1) := by decide +kernel
theorem dX9_edge_40 : decode cX9_edge 40 = .ok (.ifCond .eq 13, 3) := by decide +kernel
theorem dX9_edge_43 : decode cX9_edge 43 = .ok (.iload 6, 2) := by decide +kernel
theorem dX9_edge_45 : decode cX9_edge 45 = .ok (.iload 4, 2) := by decide +kernel
theorem dX9_edge_47 : decode cX9_edge 47 = .ok (.if_icmp .ge 17, 3) := by decide +kernel
theorem dX9_edge_50 : decode cX9_edge 50 = .ok (.goto 10, 3) := by decide +kernel
theorem dX9_edge_53 : decode cX9_edge 53 = .ok (.iload 6, 2) := by decide +kernel
theorem dX9_edge_55 : decode cX9_edge 55 = .ok (.iload 4, 2) := by decide +kernel
theorem dX9_edge_57 : decode cX9_edge 57 = .ok (.if_icmp .le 7, 3) := by decide +kernel
theorem dX9_edge_60 : decode cX9_edge 60 = .ok (.iconst 1, 1) := by decide +kernel
theorem dX9_edge_61 : decode cX9_edge 61 = .ok (.goto 4, 3) := by decide +kernel
theorem dX9_edge_64 : decode cX9_edge 64 = .ok (.iconst 0, 1) := by decide +kernel
theorem dX9_edge_65 : decode cX9_edge 65 = .ok (.istore 7, 2) := by decide +kernel
theorem dX9_edge_67 : decode cX9_edge 67 = .ok (.iload 7, 2) := by decide +kernel
theorem dX9_edge_69 : decode cX9_edge 69 = .ok (.ifCond .eq 27, 3) := by decide +kernel
theorem dX9_edge_72 : decode cX9_edge 72 = .ok (.aload_n 0, 1) := by decide +kernel
theorem dX9_edge_73 : decode cX9_edge 73 = .ok (.iload_n 1, 1) := by decide +kernel
theorem dX9_edge_74 : decode cX9_edge 74 = .ok (.iload 5, 2) := by decide +kernel
theorem dX9_edge_76 : decode cX9_edge 76 = .ok (.bipush 32, 2) := by decide +kernel
theorem dX9_edge_78 : decode cX9_edge 78 = .ok (.irem, 1) := by decide +kernel
theorem dX9_edge_79 : decode cX9_edge 79 = .ok (.iload 5, 2) := by decide +kernel
theorem dX9_edge_81 : decode cX9_edge 81 = .ok (.bipush 32, 2) := by decide +kernel
theorem dX9_edge_83 : decode cX9_edge 83 = .ok (.idiv, 1) := by decide +kernel
theorem dX9_edge_84 : decode cX9_edge 84 = .ok (.invokevirtual 65, 3) := by decide +kernel
theorem dX9_edge_87 : decode cX9_edge 87 = .ok (.iconst 1, 1) := by decide +kernel
theorem dX9_edge_88 : decode cX9_edge 88 = .ok (.if_icmp .ne 8, 3) := by decide +kernel
theorem dX9_edge_91 : decode cX9_edge 91 = .ok (.iload 6, 2) := by decide +kernel
theorem dX9_edge_93 : decode cX9_edge 93 = .ok (.goto 5, 3) := by decide +kernel
theorem dX9_edge_96 : decode cX9_edge 96 = .ok (.iload 4, 2) := by decide +kernel
theorem dX9_edge_98 : decode cX9_edge 98 = .ok (.istore 4, 2) := by decide +kernel
theorem dX9_edge_100 : decode cX9_edge 100 = .ok (.iinc 5 1, 3) := by decide +kernel
theorem dX9_edge_103 : decode cX9_edge 103 = .ok (.goto (-97), 3) := by decide +kernel
theorem dX9_edge_106 : decode cX9_edge 106 = .ok (.iload 4, 2) := by decide +kernel
theorem dX9_edge_108 : decode cX9_edge 108 = .ok (.ireturn, 1) := by decide +kernel
theorem dX9_openDots_0 : decode cX9_openDots 0 = .ok (.iconst 0, 1) := by decide +kernel
theorem dX9_openDots_1 : decode cX9_openDots 1 = .ok (.istore_n 1, 1) := by decide +kernel
theorem dX9_openDots_2 : decode cX9_openDots 2 = .ok (.iconst 0, 1) := by decide +kernel
theorem dX9_openDots_3 : decode cX9_openDots 3 = .ok (.istore_n 2, 1) := by decide +kernel
theorem dX9_openDots_4 : decode cX9_openDots 4 = .ok (.iload_n 2, 1) := by decide +kernel
theorem dX9_openDots_5 : decode cX9_openDots 5 = .ok (.sipush 768, 3) := by decide +kernel
theorem dX9_openDots_8 : decode cX9_openDots 8 = .ok (.if_icmp .ge 32, 3) := by decide +kernel
theorem dX9_openDots_11 : decode cX9_openDots 11 = .ok (.iload_n 1, 1) := by decide +kernel
theorem dX9_openDots_12 : decode cX9_openDots 12 = .ok (.aload_n 0, 1) := by decide +kernel
theorem dX9_openDots_13 : decode cX9_openDots 13 = .ok (.iload_n 2, 1) := by decide +kernel
theorem dX9_openDots_14 : decode cX9_openDots 14 = .ok (.bipush 32, 2) := by decide +kernel
theorem dX9_openDots_16 : decode cX9_openDots 16 = .ok (.irem, 1) := by decide +kernel
theorem dX9_openDots_17 : decode cX9_openDots 17 = .ok (.iload_n 2, 1) := by decide +kernel
theorem dX9_openDots_18 : decode cX9_openDots 18 = .ok (.bipush 32, 2) := by decide +kernel
theorem dX9_openDots_20 : decode cX9_openDots 20 = .ok (.idiv, 1) := by decide +kernel
theorem dX9_openDots_21 : decode cX9_openDots 21 = .ok (.invokevirtual 69, 3) := by decide +kernel
theorem dX9_openDots_24 : decode cX9_openDots 24 = .ok (.ifCond .eq 7, 3) := by decide +kernel
theorem dX9_openDots_27 : decode cX9_openDots 27 = .ok (.iconst 1, 1) := by decide +kernel
theorem dX9_openDots_28 : decode cX9_openDots 28 = .ok (.goto 4, 3) := by decide +kernel
theorem dX9_openDots_31 : decode cX9_openDots 31 = .ok (.iconst 0, 1) := by decide +kernel
theorem dX9_openDots_32 : decode cX9_openDots 32 = .ok (.iadd, 1) := by decide +kernel
theorem dX9_openDots_33 : decode cX9_openDots 33 = .ok (.istore_n 1, 1) := by decide +kernel
theorem dX9_openDots_34 : decode cX9_openDots 34 = .ok (.iinc 2 1, 3) := by decide +kernel
theorem dX9_openDots_37 : decode cX9_openDots 37 = .ok (.goto (-33), 3) := by decide +kernel
theorem dX9_openDots_40 : decode cX9_openDots 40 = .ok (.iload_n 1, 1) := by decide +kernel
theorem dX9_openDots_41 : decode cX9_openDots 41 = .ok (.ireturn, 1) := by decide +kernel
theorem dX9_of_0 : decode cX9_of 0 = .ok (.iload_n 1, 1) := by decide +kernel
theorem dX9_of_1 : decode cX9_of 1 = .ok (.invokestatic 79, 3) := by decide +kernel
theorem dX9_of_4 : decode cX9_of 4 = .ok (.ifCond .eq 15, 3) := by decide +kernel
theorem dX9_of_7 : decode cX9_of 7 = .ok (.iload_n 2, 1) := by decide +kernel
theorem dX9_of_8 : decode cX9_of 8 = .ok (.i2l, 1) := by decide +kernel
theorem dX9_of_9 : decode cX9_of 9 = .ok (.lconst 0, 1) := by decide +kernel
theorem dX9_of_10 : decode cX9_of 10 = .ok (.ldc2_w 193, 3) := by decide +kernel
theorem dX9_of_13 : decode cX9_of 13 = .ok (.invokestatic 37, 3) := by decide +kernel
theorem dX9_of_16 : decode cX9_of 16 = .ok (.ifCond .ne 10, 3) := by decide +kernel
theorem dX9_of_19 : decode cX9_of 19 = .ok (.aload_n 0, 1) := by decide +kernel
theorem dX9_of_20 : decode cX9_of 20 = .ok (.bipush (-2), 2) := by decide +kernel
theorem dX9_of_22 : decode cX9_of 22 = .ok (.invokevirtual 83, 3) := by decide +kernel
theorem dX9_of_25 : decode cX9_of 25 = .ok (.ireturn, 1) := by decide +kernel
theorem dX9_of_26 : decode cX9_of 26 = .ok (.iload_n 2, 1) := by decide +kernel
theorem dX9_of_27 : decode cX9_of 27 = .ok (.ifCond .ne 11, 3) := by decide +kernel
theorem dX9_of_30 : decode cX9_of 30 = .ok (.aload_n 0, 1) := by decide +kernel
theorem dX9_of_31 : decode cX9_of 31 = .ok (.iload_n 1, 1) := by decide +kernel
theorem dX9_of_32 : decode cX9_of 32 = .ok (.invokevirtual 104, 3) := by decide +kernel
theorem dX9_of_35 : decode cX9_of 35 = .ok (.goto 55, 3) := by decide +kernel
theorem dX9_of_38 : decode cX9_of 38 = .ok (.iload_n 2, 1) := by decide +kernel
theorem dX9_of_39 : decode cX9_of 39 = .ok (.iconst 1, 1) := by decide +kernel
theorem dX9_of_40 : decode cX9_of 40 = .ok (.if_icmp .ne 11, 3) := by decide +kernel
theorem dX9_of_43 : decode cX9_of 43 = .ok (.aload_n 0, 1) := by decide +kernel
theorem dX9_of_44 : decode cX9_of 44 = .ok (.iload_n 1, 1) := by decide +kernel
theorem dX9_of_45 : decode cX9_of 45 = .ok (.invokevirtual 195, 3) := by decide +kernel
theorem dX9_of_48 : decode cX9_of 48 = .ok (.goto 42, 3) := by decide +kernel
theorem dX9_of_51 : decode cX9_of 51 = .ok (.iload_n 2, 1) := by decide +kernel
theorem dX9_of_52 : decode cX9_of 52 = .ok (.bipush 6, 2) := by decide +kernel
theorem dX9_of_54 : decode cX9_of 54 = .ok (.if_icmp .ne 10, 3) := by decide +kernel
theorem dX9_of_57 : decode cX9_of 57 = .ok (.aload_n 0, 1) := by decide +kernel
theorem dX9_of_58 : decode cX9_of 58 = .ok (.invokevirtual 198, 3) := by decide +kernel
theorem dX9_of_61 : decode cX9_of 61 = .ok (.goto 29, 3) := by decide +kernel
theorem dX9_of_64 : decode cX9_of 64 = .ok (.aload_n 0, 1) := by decide +kernel
theorem dX9_of_65 : decode cX9_of 65 = .ok (.iload_n 1, 1) := by decide +kernel
theorem dX9_of_66 : decode cX9_of 66 = .ok (.iload_n 2, 1) := by decide +kernel
theorem dX9_of_67 : decode cX9_of 67 = .ok (.iconst 4, 1) := by decide +kernel
theorem dX9_of_68 : decode cX9_of 68 = .ok (.if_icmp .ge 7, 3) := by decide +kernel
theorem dX9_of_71 : decode cX9_of 71 = .ok (.iconst 1, 1) := by decide +kernel
theorem dX9_of_72 : decode cX9_of 72 = .ok (.goto 4, 3) := by decide +kernel
theorem dX9_of_75 : decode cX9_of 75 = .ok (.iconst 0, 1) := by decide +kernel
theorem dX9_of_76 : decode cX9_of 76 = .ok (.iload_n 2, 1) := by decide +kernel
theorem dX9_of_77 : decode cX9_of 77 = .ok (.iconst 2, 1) := by decide +kernel
theorem dX9_of_78 : decode cX9_of 78 = .ok (.irem, 1) := by decide +kernel
theorem dX9_of_79 : decode cX9_of 79 = .ok (.ifCond .ne 7, 3) := by decide +kernel
theorem dX9_of_82 : decode cX9_of 82 = .ok (.iconst 1, 1) := by decide +kernel
theorem dX9_of_83 : decode cX9_of 83 = .ok (.goto 4, 3) := by decide +kernel
theorem dX9_of_86 : decode cX9_of 86 = .ok (.iconst 0, 1) := by decide +kernel
theorem dX9_of_87 : decode cX9_of 87 = .ok (.invokevirtual 201, 3) := by decide +kernel
theorem dX9_of_90 : decode cX9_of 90 = .ok (.ireturn, 1) := by decide +kernel
theorem dX9_count_0 : decode cX9_count 0 = .ok (.iload_n 1, 1) := by decide +kernel
theorem dX9_count_1 : decode cX9_count 1 = .ok (.invokestatic 79, 3) := by decide +kernel
theorem dX9_count_4 : decode cX9_count 4 = .ok (.ifCond .eq 21, 3) := by decide +kernel
theorem dX9_count_7 : decode cX9_count 7 = .ok (.iload_n 2, 1) := by decide +kernel
theorem dX9_count_8 : decode cX9_count 8 = .ok (.iload_n 3, 1) := by decide +kernel
theorem dX9_count_9 : decode cX9_count 9 = .ok (.invokestatic 107, 3) := by decide +kernel
theorem dX9_count_12 : decode cX9_count 12 = .ok (.ifCond .eq 13, 3) := by decide +kernel
theorem dX9_count_15 : decode cX9_count 15 = .ok (.iload 4, 2) := by decide +kernel
theorem dX9_count_17 : decode cX9_count 17 = .ok (.iload 5, 2) := by decide +kernel
theorem dX9_count_19 : decode cX9_count 19 = .ok (.invokestatic 110, 3) := by decide +kernel
theorem dX9_count_22 : decode cX9_count 22 = .ok (.ifCond .ne 10, 3) := by decide +kernel
theorem dX9_count_25 : decode cX9_count 25 = .ok (.aload_n 0, 1) := by decide +kernel
theorem dX9_count_26 : decode cX9_count 26 = .ok (.bipush (-2), 2) := by decide +kernel
theorem dX9_count_28 : decode cX9_count 28 = .ok (.invokevirtual 83, 3) := by decide +kernel
theorem dX9_count_31 : decode cX9_count 31 = .ok (.ireturn, 1) := by decide +kernel
theorem dX9_count_32 : decode cX9_count 32 = .ok (.iconst 0, 1) := by decide +kernel
theorem dX9_count_33 : decode cX9_count 33 = .ok (.istore 6, 2) := by decide +kernel
theorem dX9_count_35 : decode cX9_count 35 = .ok (.iconst 0, 1) := by decide +kernel
theorem dX9_count_36 : decode cX9_count 36 = .ok (.istore 7, 2) := by decide +kernel
theorem dX9_count_38 : decode cX9_count 38 = .ok (.iload 7, 2) := by decide +kernel
theorem dX9_count_40 : decode cX9_count 40 = .ok (.iload 5, 2) := by decide +kernel
theorem dX9_count_42 : decode cX9_count 42 = .ok (.if_icmp .ge 43, 3) := by decide +kernel
theorem dX9_count_45 : decode cX9_count 45 = .ok (.iconst 0, 1) := by decide +kernel
theorem dX9_count_46 : decode cX9_count 46 = .ok (.istore 8, 2) := by decide +kernel
theorem dX9_count_48 : decode cX9_count 48 = .ok (.iload 8, 2) := by decide +kernel
theorem dX9_count_50 : decode cX9_count 50 = .ok (.iload 4, 2) := by decide +kernel
theorem dX9_count_52 : decode cX9_count 52 = .ok (.if_icmp .ge 27, 3) := by decide +kernel
theorem dX9_count_55 : decode cX9_count 55 = .ok (.iload 6, 2) := by decide +kernel
theorem dX9_count_57 : decode cX9_count 57 = .ok (.aload_n 0, 1) := by decide +kernel
theorem dX9_count_58 : decode cX9_count 58 = .ok (.iload_n 1, 1) := by decide +kernel
theorem dX9_count_59 : decode cX9_count 59 = .ok (.iload_n 2, 1) := by decide +kernel
theorem dX9_count_60 : decode cX9_count 60 = .ok (.iload 8, 2) := by decide +kernel
theorem dX9_count_62 : decode cX9_count 62 = .ok (.iadd, 1) := by decide +kernel
theorem dX9_count_63 : decode cX9_count 63 = .ok (.iload_n 3, 1) := by decide +kernel
theorem dX9_count_64 : decode cX9_count 64 = .ok (.iload 7, 2) := by decide +kernel
theorem dX9_count_66 : decode cX9_count 66 = .ok (.iadd, 1) := by decide +kernel
theorem dX9_count_67 : decode cX9_count 67 = .ok (.invokevirtual 65, 3) := by decide +kernel
theorem dX9_count_70 : decode cX9_count 70 = .ok (.iadd, 1) := by decide +kernel
theorem dX9_count_71 : decode cX9_count 71 = .ok (.istore 6, 2) := by decide +kernel
theorem dX9_count_73 : decode cX9_count 73 = .ok (.iinc 8 1, 3) := by decide +kernel
theorem dX9_count_76 : decode cX9_count 76 = .ok (.goto (-28), 3) := by decide +kernel
theorem dX9_count_79 : decode cX9_count 79 = .ok (.iinc 7 1, 3) := by decide +kernel
theorem dX9_count_82 : decode cX9_count 82 = .ok (.goto (-44), 3) := by decide +kernel
theorem dX9_count_85 : decode cX9_count 85 = .ok (.iload 6, 2) := by decide +kernel
theorem dX9_count_87 : decode cX9_count 87 = .ok (.ireturn, 1) := by decide +kernel
theorem dX9_unlike_0 : decode cX9_unlike 0 = .ok (.iload_n 1, 1) := by decide +kernel
theorem dX9_unlike_1 : decode cX9_unlike 1 = .ok (.invokestatic 79, 3) := by decide +kernel
theorem dX9_unlike_4 : decode cX9_unlike 4 = .ok (.ifCond .eq 10, 3) := by decide +kernel
theorem dX9_unlike_7 : decode cX9_unlike 7 = .ok (.iload_n 2, 1) := by decide +kernel
theorem dX9_unlike_8 : decode cX9_unlike 8 = .ok (.invokestatic 79, 3) := by decide +kernel
theorem dX9_unlike_11 : decode cX9_unlike 11 = .ok (.ifCond .ne 10, 3) := by decide +kernel
theorem dX9_unlike_14 : decode cX9_unlike 14 = .ok (.aload_n 0, 1) := by decide +kernel
theorem dX9_unlike_15 : decode cX9_unlike 15 = .ok (.bipush (-2), 2) := by decide +kernel
theorem dX9_unlike_17 : decode cX9_unlike 17 = .ok (.invokevirtual 83, 3) := by decide +kernel
theorem dX9_unlike_20 : decode cX9_unlike 20 = .ok (.ireturn, 1) := by decide +kernel
theorem dX9_unlike_21 : decode cX9_unlike 21 = .ok (.iconst 0, 1) := by decide +kernel
theorem dX9_unlike_22 : decode cX9_unlike 22 = .ok (.istore_n 3, 1) := by decide +kernel
theorem dX9_unlike_23 : decode cX9_unlike 23 = .ok (.iconst 0, 1) := by decide +kernel
theorem dX9_unlike_24 : decode cX9_unlike 24 = .ok (.istore 4, 2) := by decide +kernel
theorem dX9_unlike_26 : decode cX9_unlike 26 = .ok (.iload 4, 2) := by decide +kernel
theorem dX9_unlike_28 : decode cX9_unlike 28 = .ok (.sipush 768, 3) := by decide +kernel
theorem dX9_unlike_31 : decode cX9_unlike 31 = .ok (.if_icmp .ge 50, 3) := by decide +kernel
theorem dX9_unlike_34 : decode cX9_unlike 34 = .ok (.iload_n 3, 1) := by decide +kernel
theorem dX9_unlike_35 : decode cX9_unlike 35 = .ok (.aload_n 0, 1) := by decide +kernel
theorem dX9_unlike_36 : decode cX9_unlike 36 = .ok (.iload_n 1, 1) := by decide +kernel
theorem dX9_unlike_37 : decode cX9_unlike 37 = .ok (.iload 4, 2) := by decide +kernel
theorem dX9_unlike_39 : decode cX9_unlike 39 = .ok (.bipush 32, 2) := by decide +kernel
theorem dX9_unlike_41 : decode cX9_unlike 41 = .ok (.irem, 1) := by decide +kernel
theorem dX9_unlike_42 : decode cX9_unlike 42 = .ok (.iload 4, 2) := by decide +kernel
theorem dX9_unlike_44 : decode cX9_unlike 44 = .ok (.bipush 32, 2) := by decide +kernel
theorem dX9_unlike_46 : decode cX9_unlike 46 = .ok (.idiv, 1) := by decide +kernel
theorem dX9_unlike_47 : decode cX9_unlike 47 = .ok (.invokevirtual 65, 3) := by decide +kernel
theorem dX9_unlike_50 : decode cX9_unlike 50 = .ok (.aload_n 0, 1) := by decide +kernel
theorem dX9_unlike_51 : decode cX9_unlike 51 = .ok (.iload_n 2, 1) := by decide +kernel
theorem dX9_unlike_52 : decode cX9_unlike 52 = .ok (.iload 4, 2) := by decide +kernel
theorem dX9_unlike_54 : decode cX9_unlike 54 = .ok (.bipush 32, 2) := by decide +kernel
theorem dX9_unlike_56 : decode cX9_unlike 56 = .ok (.irem, 1) := by decide +kernel
theorem dX9_unlike_57 : decode cX9_unlike 57 = .ok (.iload 4, 2) := by decide +kernel
theorem dX9_unlike_59 : decode cX9_unlike 59 = .ok (.bipush 32, 2) := by decide +kernel
theorem dX9_unlike_61 : decode cX9_unlike 61 = .ok (.idiv, 1) := by decide +kernel
theorem dX9_unlike_62 : decode cX9_unlike 62 = .ok (.invokevirtual 65, 3) := by decide +kernel
theorem dX9_unlike_65 : decode cX9_unlike 65 = .ok (.if_icmp .ne 7, 3) := by decide +kernel
theorem dX9_unlike_68 : decode cX9_unlike 68 = .ok (.iconst 0, 1) := by decide +kernel
theorem dX9_unlike_69 : decode cX9_unlike 69 = .ok (.goto 4, 3) := by decide +kernel
theorem dX9_unlike_72 : decode cX9_unlike 72 = .ok (.iconst 1, 1) := by decide +kernel
theorem dX9_unlike_73 : decode cX9_unlike 73 = .ok (.iadd, 1) := by decide +kernel
theorem dX9_unlike_74 : decode cX9_unlike 74 = .ok (.istore_n 3, 1) := by decide +kernel
theorem dX9_unlike_75 : decode cX9_unlike 75 = .ok (.iinc 4 1, 3) := by decide +kernel
theorem dX9_unlike_78 : decode cX9_unlike 78 = .ok (.goto (-52), 3) := by decide +kernel
theorem dX9_unlike_81 : decode cX9_unlike 81 = .ok (.iload_n 3, 1) := by decide +kernel
theorem dX9_unlike_82 : decode cX9_unlike 82 = .ok (.ireturn, 1) := by decide +kernel
theorem dX9_isLike_0 : decode cX9_isLike 0 = .ok (.iconst 1, 1) := by decide +kernel
theorem dX9_isLike_1 : decode cX9_isLike 1 = .ok (.istore 9, 2) := by decide +kernel
theorem dX9_isLike_3 : decode cX9_isLike 3 = .ok (.iconst 0, 1) := by decide +kernel
theorem dX9_isLike_4 : decode cX9_isLike 4 = .ok (.istore 10, 2) := by decide +kernel
theorem dX9_isLike_6 : decode cX9_isLike 6 = .ok (.iload 10, 2) := by decide +kernel
theorem dX9_isLike_8 : decode cX9_isLike 8 = .ok (.iload 5, 2) := by decide +kernel
theorem dX9_isLike_10 : decode cX9_isLike 10 = .ok (.if_icmp .ge 74, 3) := by decide +kernel
theorem dX9_isLike_13 : decode cX9_isLike 13 = .ok (.iload 9, 2) := by decide +kernel
theorem dX9_isLike_15 : decode cX9_isLike 15 = .ok (.ifCond .eq 69, 3) := by decide +kernel
theorem dX9_isLike_18 : decode cX9_isLike 18 = .ok (.iconst 0, 1) := by decide +kernel
theorem dX9_isLike_19 : decode cX9_isLike 19 = .ok (.istore 11, 2) := by decide +kernel
theorem dX9_isLike_21 : decode cX9_isLike 21 = .ok (.iload 11, 2) := by decide +kernel
theorem dX9_isLike_23 : decode cX9_isLike 23 = .ok (.iload 4, 2) := by decide +kernel
theorem dX9_isLike_25 : decode cX9_isLike 25 = .ok (.if_icmp .ge 53, 3) := by decide +kernel
theorem dX9_isLike_28 : decode cX9_isLike 28 = .ok (.iload 9, 2) := by decide +kernel
theorem dX9_isLike_30 : decode cX9_isLike 30 = .ok (.ifCond .eq 48, 3) := by decide +kernel
theorem dX9_isLike_33 : decode cX9_isLike 33 = .ok (.aload_n 0, 1) := by decide +kernel
theorem dX9_isLike_34 : decode cX9_isLike 34 = .ok (.iload_n 1, 1) := by decide +kernel
theorem dX9_isLike_35 : decode cX9_isLike 35 = .ok (.iload_n 2, 1) := by decide +kernel
theorem dX9_isLike_36 : decode cX9_isLike 36 = .ok (.iload 11, 2) := by decide +kernel
theorem dX9_isLike_38 : decode cX9_isLike 38 = .ok (.iadd, 1) := by decide +kernel
theorem dX9_isLike_39 : decode cX9_isLike 39 = .ok (.iload_n 3, 1) := by decide +kernel
theorem dX9_isLike_40 : decode cX9_isLike 40 = .ok (.iload 10, 2) := by decide +kernel
theorem dX9_isLike_42 : decode cX9_isLike 42 = .ok (.iadd, 1) := by decide +kernel
theorem dX9_isLike_43 : decode cX9_isLike 43 = .ok (.invokevirtual 65, 3) := by decide +kernel
theorem dX9_isLike_46 : decode cX9_isLike 46 = .ok (.aload_n 0, 1) := by decide +kernel
theorem dX9_isLike_47 : decode cX9_isLike 47 = .ok (.iload 6, 2) := by decide +kernel
theorem dX9_isLike_49 : decode cX9_isLike 49 = .ok (.iload 7, 2) := by decide +kernel
theorem dX9_isLike_51 : decode cX9_isLike 51 = .ok (.iload 11, 2) := by decide +kernel
theorem dX9_isLike_53 : decode cX9_isLike 53 = .ok (.iadd, 1) := by decide +kernel
theorem dX9_isLike_54 : decode cX9_isLike 54 = .ok (.iload 8, 2) := by decide +kernel
theorem dX9_isLike_56 : decode cX9_isLike 56 = .ok (.iload 10, 2) := by decide +kernel
theorem dX9_isLike_58 : decode cX9_isLike 58 = .ok (.iadd, 1) := by decide +kernel
theorem dX9_isLike_59 : decode cX9_isLike 59 = .ok (.invokevirtual 65, 3) := by decide +kernel
theorem dX9_isLike_62 : decode cX9_isLike 62 = .ok (.if_icmp .ne 7, 3) := by decide +kernel
theorem dX9_isLike_65 : decode cX9_isLike 65 = .ok (.iconst 1, 1) := by decide +kernel
theorem dX9_isLike_66 : decode cX9_isLike 66 = .ok (.goto 4, 3) := by decide +kernel
theorem dX9_isLike_69 : decode cX9_isLike 69 = .ok (.iconst 0, 1) := by decide +kernel
theorem dX9_isLike_70 : decode cX9_isLike 70 = .ok (.istore 9, 2) := by decide +kernel
theorem dX9_isLike_72 : decode cX9_isLike 72 = .ok (.iinc 11 1, 3) := by decide +kernel
theorem dX9_isLike_75 : decode cX9_isLike 75 = .ok (.goto (-54), 3) := by decide +kernel
theorem dX9_isLike_78 : decode cX9_isLike 78 = .ok (.iinc 10 1, 3) := by decide +kernel
theorem dX9_isLike_81 : decode cX9_isLike 81 = .ok (.goto (-75), 3) := by decide +kernel
theorem dX9_isLike_84 : decode cX9_isLike 84 = .ok (.iload 9, 2) := by decide +kernel
theorem dX9_isLike_86 : decode cX9_isLike 86 = .ok (.ireturn, 1) := by decide +kernel
theorem dX9_finds_0 : decode cX9_finds 0 = .ok (.iload_n 1, 1) := by decide +kernel
theorem dX9_finds_1 : decode cX9_finds 1 = .ok (.invokestatic 79, 3) := by decide +kernel
theorem dX9_finds_4 : decode cX9_finds 4 = .ok (.ifCond .eq 67, 3) := by decide +kernel
theorem dX9_finds_7 : decode cX9_finds 7 = .ok (.iload 4, 2) := by decide +kernel
theorem dX9_finds_9 : decode cX9_finds 9 = .ok (.i2l, 1) := by decide +kernel
theorem dX9_finds_10 : decode cX9_finds 10 = .ok (.lconst 1, 1) := by decide +kernel
theorem dX9_finds_11 : decode cX9_finds 11 = .ok (.ldc2_w 205, 3) := by decide +kernel
theorem dX9_finds_14 : decode cX9_finds 14 = .ok (.invokestatic 37, 3) := by decide +kernel
theorem dX9_finds_17 : decode cX9_finds 17 = .ok (.ifCond .eq 54, 3) := by decide +kernel
theorem dX9_finds_20 : decode cX9_finds 20 = .ok (.iload 5, 2) := by decide +kernel
theorem dX9_finds_22 : decode cX9_finds 22 = .ok (.i2l, 1) := by decide +kernel
theorem dX9_finds_23 : decode cX9_finds 23 = .ok (.lconst 1, 1) := by decide +kernel
theorem dX9_finds_24 : decode cX9_finds 24 = .ok (.ldc2_w 205, 3) := by decide +kernel
theorem dX9_finds_27 : decode cX9_finds 27 = .ok (.invokestatic 37, 3) := by decide +kernel
theorem dX9_finds_30 : decode cX9_finds 30 = .ok (.ifCond .eq 41, 3) := by decide +kernel
theorem dX9_finds_33 : decode cX9_finds 33 = .ok (.iload_n 2, 1) := by decide +kernel
theorem dX9_finds_34 : decode cX9_finds 34 = .ok (.i2l, 1) := by decide +kernel
theorem dX9_finds_35 : decode cX9_finds 35 = .ok (.lconst 0, 1) := by decide +kernel
theorem dX9_finds_36 : decode cX9_finds 36 = .ok (.bipush 32, 2) := by decide +kernel
theorem dX9_finds_38 : decode cX9_finds 38 = .ok (.iload 4, 2) := by decide +kernel
theorem dX9_finds_40 : decode cX9_finds 40 = .ok (.isub, 1) := by decide +kernel
theorem dX9_finds_41 : decode cX9_finds 41 = .ok (.i2l, 1) := by decide +kernel
theorem dX9_finds_42 : decode cX9_finds 42 = .ok (.invokestatic 37, 3) := by decide +kernel
theorem dX9_finds_45 : decode cX9_finds 45 = .ok (.ifCond .eq 26, 3) := by decide +kernel
theorem dX9_finds_48 : decode cX9_finds 48 = .ok (.iload_n 3, 1) := by decide +kernel
theorem dX9_finds_49 : decode cX9_finds 49 = .ok (.i2l, 1) := by decide +kernel
theorem dX9_finds_50 : decode cX9_finds 50 = .ok (.lconst 0, 1) := by decide +kernel
theorem dX9_finds_51 : decode cX9_finds 51 = .ok (.bipush 24, 2) := by decide +kernel
theorem dX9_finds_53 : decode cX9_finds 53 = .ok (.iload 5, 2) := by decide +kernel
theorem dX9_finds_55 : decode cX9_finds 55 = .ok (.isub, 1) := by decide +kernel
theorem dX9_finds_56 : decode cX9_finds 56 = .ok (.i2l, 1) := by decide +kernel
theorem dX9_finds_57 : decode cX9_finds 57 = .ok (.invokestatic 37, 3) := by decide +kernel
theorem dX9_finds_60 : decode cX9_finds 60 = .ok (.ifCond .eq 11, 3) := by decide +kernel
theorem dX9_finds_63 : decode cX9_finds 63 = .ok (.iload 6, 2) := by decide +kernel
theorem dX9_finds_65 : decode cX9_finds 65 = .ok (.invokestatic 79, 3) := by decide +kernel
theorem dX9_finds_68 : decode cX9_finds 68 = .ok (.ifCond .ne 10, 3) := by decide +kernel
theorem dX9_finds_71 : decode cX9_finds 71 = .ok (.aload_n 0, 1) := by decide +kernel
theorem dX9_finds_72 : decode cX9_finds 72 = .ok (.bipush (-2), 2) := by decide +kernel
theorem dX9_finds_74 : decode cX9_finds 74 = .ok (.invokevirtual 83, 3) := by decide +kernel
theorem dX9_finds_77 : decode cX9_finds 77 = .ok (.ireturn, 1) := by decide +kernel
theorem dX9_finds_78 : decode cX9_finds 78 = .ok (.iconst 0, 1) := by decide +kernel
theorem dX9_finds_79 : decode cX9_finds 79 = .ok (.istore 7, 2) := by decide +kernel
theorem dX9_finds_81 : decode cX9_finds 81 = .ok (.iconst 0, 1) := by decide +kernel
theorem dX9_finds_82 : decode cX9_finds 82 = .ok (.istore 8, 2) := by decide +kernel
theorem dX9_finds_84 : decode cX9_finds 84 = .ok (.iload 8, 2) := by decide +kernel
theorem dX9_finds_86 : decode cX9_finds 86 = .ok (.iload 5, 2) := by decide +kernel
theorem dX9_finds_88 : decode cX9_finds 88 = .ok (.iadd, 1) := by decide +kernel
theorem dX9_finds_89 : decode cX9_finds 89 = .ok (.bipush 24, 2) := by decide +kernel
theorem dX9_finds_91 : decode cX9_finds 91 = .ok (.if_icmp .gt 58, 3) := by decide +kernel
theorem dX9_finds_94 : decode cX9_finds 94 = .ok (.iconst 0, 1) := by decide +kernel
theorem dX9_finds_95 : decode cX9_finds 95 = .ok (.istore 9, 2) := by decide +kernel
theorem dX9_finds_97 : decode cX9_finds 97 = .ok (.iload 9, 2) := by decide +kernel
theorem dX9_finds_99 : decode cX9_finds 99 = .ok (.iload 4, 2) := by decide +kernel
theorem dX9_finds_101 : decode cX9_finds 101 = .ok (.iadd, 1) := by decide +kernel
theorem dX9_finds_102 : decode cX9_finds 102 = .ok (.bipush 32, 2) := by decide +kernel
theorem dX9_finds_104 : decode cX9_finds 104 = .ok (.if_icmp .gt 39, 3) := by decide +kernel
theorem dX9_finds_107 : decode cX9_finds 107 = .ok (.iload 7, 2) := by decide +kernel
theorem dX9_finds_109 : decode cX9_finds 109 = .ok (.aload_n 0, 1) := by decide +kernel
theorem dX9_finds_110 : decode cX9_finds 110 = .ok (.iload_n 1, 1) := by decide +kernel
theorem dX9_finds_111 : decode cX9_finds 111 = .ok (.iload_n 2, 1) := by decide +kernel
theorem dX9_finds_112 : decode cX9_finds 112 = .ok (.iload_n 3, 1) := by decide +kernel
theorem dX9_finds_113 : decode cX9_finds 113 = .ok (.iload 4, 2) := by decide +kernel
theorem dX9_finds_115 : decode cX9_finds 115 = .ok (.iload 5, 2) := by decide +kernel
theorem dX9_finds_117 : decode cX9_finds 117 = .ok (.iload 6, 2) := by decide +kernel
theorem dX9_finds_119 : decode cX9_finds 119 = .ok (.iload 9, 2) := by decide +kernel
theorem dX9_finds_121 : decode cX9_finds 121 = .ok (.iload 8, 2) := by decide +kernel
theorem dX9_finds_123 : decode cX9_finds 123 = .ok (.invokevirtual 207, 3) := by decide +kernel
theorem dX9_finds_126 : decode cX9_finds 126 = .ok (.ifCond .eq 7, 3) := by decide +kernel
theorem dX9_finds_129 : decode cX9_finds 129 = .ok (.iconst 1, 1) := by decide +kernel
theorem dX9_finds_130 : decode cX9_finds 130 = .ok (.goto 4, 3) := by decide +kernel
theorem dX9_finds_133 : decode cX9_finds 133 = .ok (.iconst 0, 1) := by decide +kernel
theorem dX9_finds_134 : decode cX9_finds 134 = .ok (.iadd, 1) := by decide +kernel
theorem dX9_finds_135 : decode cX9_finds 135 = .ok (.istore 7, 2) := by decide +kernel
theorem dX9_finds_137 : decode cX9_finds 137 = .ok (.iinc 9 1, 3) := by decide +kernel
theorem dX9_finds_140 : decode cX9_finds 140 = .ok (.goto (-43), 3) := by decide +kernel
theorem dX9_finds_143 : decode cX9_finds 143 = .ok (.iinc 8 1, 3) := by decide +kernel
theorem dX9_finds_146 : decode cX9_finds 146 = .ok (.goto (-62), 3) := by decide +kernel
theorem dX9_finds_149 : decode cX9_finds 149 = .ok (.iload 7, 2) := by decide +kernel
theorem dX9_finds_151 : decode cX9_finds 151 = .ok (.ireturn, 1) := by decide +kernel
theorem dX9_open_0 : decode cX9_open 0 = .ok (.iload_n 1, 1) := by decide +kernel
theorem dX9_open_1 : decode cX9_open 1 = .ok (.iload_n 2, 1) := by decide +kernel
theorem dX9_open_2 : decode cX9_open 2 = .ok (.invokestatic 57, 3) := by decide +kernel
theorem dX9_open_5 : decode cX9_open 5 = .ok (.ifCond .ne 12, 3) := by decide +kernel
theorem dX9_open_8 : decode cX9_open 8 = .ok (.aload_n 0, 1) := by decide +kernel
theorem dX9_open_9 : decode cX9_open 9 = .ok (.bipush (-2), 2) := by decide +kernel
theorem dX9_open_11 : decode cX9_open 11 = .ok (.invokevirtual 83, 3) := by decide +kernel
theorem dX9_open_14 : decode cX9_open 14 = .ok (.goto 17, 3) := by decide +kernel
theorem dX9_open_17 : decode cX9_open 17 = .ok (.aload_n 0, 1) := by decide +kernel
theorem dX9_open_18 : decode cX9_open 18 = .ok (.iload_n 1, 1) := by decide +kernel
theorem dX9_open_19 : decode cX9_open 19 = .ok (.iload_n 2, 1) := by decide +kernel
theorem dX9_open_20 : decode cX9_open 20 = .ok (.invokevirtual 69, 3) := by decide +kernel
theorem dX9_open_23 : decode cX9_open 23 = .ok (.ifCond .eq 7, 3) := by decide +kernel
theorem dX9_open_26 : decode cX9_open 26 = .ok (.iconst 1, 1) := by decide +kernel
theorem dX9_open_27 : decode cX9_open 27 = .ok (.goto 4, 3) := by decide +kernel
theorem dX9_open_30 : decode cX9_open 30 = .ok (.iconst 0, 1) := by decide +kernel
theorem dX9_open_31 : decode cX9_open 31 = .ok (.ireturn, 1) := by decide +kernel
theorem dX9_type_0 : decode cX9_type 0 = .ok (.iload_n 1, 1) := by decide +kernel
theorem dX9_type_1 : decode cX9_type 1 = .ok (.i2l, 1) := by decide +kernel
theorem dX9_type_2 : decode cX9_type 2 = .ok (.lconst 0, 1) := by decide +kernel
theorem dX9_type_3 : decode cX9_type 3 = .ok (.ldc2_w 211, 3) := by decide +kernel
theorem dX9_type_6 : decode cX9_type 6 = .ok (.invokestatic 37, 3) := by decide +kernel
theorem dX9_type_9 : decode cX9_type 9 = .ok (.ifCond .ne 10, 3) := by decide +kernel
theorem dX9_type_12 : decode cX9_type 12 = .ok (.aload_n 0, 1) := by decide +kernel
theorem dX9_type_13 : decode cX9_type 13 = .ok (.bipush (-2), 2) := by decide +kernel
theorem dX9_type_15 : decode cX9_type 15 = .ok (.invokevirtual 83, 3) := by decide +kernel
theorem dX9_type_18 : decode cX9_type 18 = .ok (.ireturn, 1) := by decide +kernel
theorem dX9_type_19 : decode cX9_type 19 = .ok (.aload_n 0, 1) := by decide +kernel
theorem dX9_type_20 : decode cX9_type 20 = .ok (.getfield 213, 3) := by decide +kernel
theorem dX9_type_23 : decode cX9_type 23 = .ok (.bipush 120, 2) := by decide +kernel
theorem dX9_type_25 : decode cX9_type 25 = .ok (.if_icmp .ne 8, 3) := by decide +kernel
theorem dX9_type_28 : decode cX9_type 28 = .ok (.aload_n 0, 1) := by decide +kernel
theorem dX9_type_29 : decode cX9_type 29 = .ok (.invokevirtual 113, 3) := by decide +kernel
theorem dX9_type_32 : decode cX9_type 32 = .ok (.ireturn, 1) := by decide +kernel
theorem dX9_type_33 : decode cX9_type 33 = .ok (.aload_n 0, 1) := by decide +kernel
theorem dX9_type_34 : decode cX9_type 34 = .ok (.getfield 29, 3) := by decide +kernel
theorem dX9_type_37 : decode cX9_type 37 = .ok (.aload_n 0, 1) := by decide +kernel
theorem dX9_type_38 : decode cX9_type 38 = .ok (.getfield 213, 3) := by decide +kernel
theorem dX9_type_41 : decode cX9_type 41 = .ok (.iload_n 1, 1) := by decide +kernel
theorem dX9_type_42 : decode cX9_type 42 = .ok (.iastore, 1) := by decide +kernel
theorem dX9_type_43 : decode cX9_type 43 = .ok (.aload_n 0, 1) := by decide +kernel
theorem dX9_type_44 : decode cX9_type 44 = .ok (.dup, 1) := by decide +kernel
theorem dX9_type_45 : decode cX9_type 45 = .ok (.getfield 213, 3) := by decide +kernel
theorem dX9_type_48 : decode cX9_type 48 = .ok (.iconst 1, 1) := by decide +kernel
theorem dX9_type_49 : decode cX9_type 49 = .ok (.iadd, 1) := by decide +kernel
theorem dX9_type_50 : decode cX9_type 50 = .ok (.putfield 213, 3) := by decide +kernel
theorem dX9_type_53 : decode cX9_type 53 = .ok (.aload_n 0, 1) := by decide +kernel
theorem dX9_type_54 : decode cX9_type 54 = .ok (.getfield 213, 3) := by decide +kernel
theorem dX9_type_57 : decode cX9_type 57 = .ok (.ireturn, 1) := by decide +kernel
theorem dX9_clear_0 : decode cX9_clear 0 = .ok (.aload_n 0, 1) := by decide +kernel
theorem dX9_clear_1 : decode cX9_clear 1 = .ok (.getfield 213, 3) := by decide +kernel
theorem dX9_clear_4 : decode cX9_clear 4 = .ok (.istore_n 1, 1) := by decide +kernel
theorem dX9_clear_5 : decode cX9_clear 5 = .ok (.aload_n 0, 1) := by decide +kernel
theorem dX9_clear_6 : decode cX9_clear 6 = .ok (.iconst 0, 1) := by decide +kernel
theorem dX9_clear_7 : decode cX9_clear 7 = .ok (.putfield 213, 3) := by decide +kernel
theorem dX9_clear_10 : decode cX9_clear 10 = .ok (.iload_n 1, 1) := by decide +kernel
theorem dX9_clear_11 : decode cX9_clear 11 = .ok (.ireturn, 1) := by decide +kernel
theorem dX9_skip_0 : decode cX9_skip 0 = .ok (.aload_n 0, 1) := by decide +kernel
theorem dX9_skip_1 : decode cX9_skip 1 = .ok (.getfield 216, 3) := by decide +kernel
theorem dX9_skip_4 : decode cX9_skip 4 = .ok (.aload_n 0, 1) := by decide +kernel
theorem dX9_skip_5 : decode cX9_skip 5 = .ok (.getfield 213, 3) := by decide +kernel
theorem dX9_skip_8 : decode cX9_skip 8 = .ok (.if_icmp .ge 30, 3) := by decide +kernel
theorem dX9_skip_11 : decode cX9_skip 11 = .ok (.aload_n 0, 1) := by decide +kernel
theorem dX9_skip_12 : decode cX9_skip 12 = .ok (.getfield 29, 3) := by decide +kernel
theorem dX9_skip_15 : decode cX9_skip 15 = .ok (.aload_n 0, 1) := by decide +kernel
theorem dX9_skip_16 : decode cX9_skip 16 = .ok (.getfield 216, 3) := by decide +kernel
theorem dX9_skip_19 : decode cX9_skip 19 = .ok (.iaload, 1) := by decide +kernel
theorem dX9_skip_20 : decode cX9_skip 20 = .ok (.bipush 32, 2) := by decide +kernel
theorem dX9_skip_22 : decode cX9_skip 22 = .ok (.if_icmp .ne 16, 3) := by decide +kernel
theorem dX9_skip_25 : decode cX9_skip 25 = .ok (.aload_n 0, 1) := by decide +kernel
theorem dX9_skip_26 : decode cX9_skip 26 = .ok (.dup, 1) := by decide +kernel
theorem dX9_skip_27 : decode cX9_skip 27 = .ok (.getfield 216, 3) := by decide +kernel
theorem dX9_skip_30 : decode cX9_skip 30 = .ok (.iconst 1, 1) := by decide +kernel
theorem dX9_skip_31 : decode cX9_skip 31 = .ok (.iadd, 1) := by decide +kernel
theorem dX9_skip_32 : decode cX9_skip 32 = .ok (.putfield 216, 3) := by decide +kernel
theorem dX9_skip_35 : decode cX9_skip 35 = .ok (.goto (-35), 3) := by decide +kernel
theorem dX9_skip_38 : decode cX9_skip 38 = .ok (.return_, 1) := by decide +kernel
theorem dX9_isByte_0 : decode cX9_isByte 0 = .ok (.iload_n 1, 1) := by decide +kernel
theorem dX9_isByte_1 : decode cX9_isByte 1 = .ok (.aload_n 0, 1) := by decide +kernel
theorem dX9_isByte_2 : decode cX9_isByte 2 = .ok (.getfield 213, 3) := by decide +kernel
theorem dX9_isByte_5 : decode cX9_isByte 5 = .ok (.if_icmp .ge 24, 3) := by decide +kernel
theorem dX9_isByte_8 : decode cX9_isByte 8 = .ok (.aload_n 0, 1) := by decide +kernel
theorem dX9_isByte_9 : decode cX9_isByte 9 = .ok (.getfield 29, 3) := by decide +kernel
theorem dX9_isByte_12 : decode cX9_isByte 12 = .ok (.iload_n 1, 1) := by decide +kernel
theorem dX9_isByte_13 : decode cX9_isByte 13 = .ok (.iaload, 1) := by decide +kernel
theorem dX9_isByte_14 : decode cX9_isByte 14 = .ok (.i2l, 1) := by decide +kernel
theorem dX9_isByte_15 : decode cX9_isByte 15 = .ok (.iload_n 2, 1) := by decide +kernel
theorem dX9_isByte_16 : decode cX9_isByte 16 = .ok (.i2l, 1) := by decide +kernel
theorem dX9_isByte_17 : decode cX9_isByte 17 = .ok (.iload_n 3, 1) := by decide +kernel
theorem dX9_isByte_18 : decode cX9_isByte 18 = .ok (.i2l, 1) := by decide +kernel
theorem dX9_isByte_19 : decode cX9_isByte 19 = .ok (.invokestatic 37, 3) := by decide +kernel
theorem dX9_isByte_22 : decode cX9_isByte 22 = .ok (.ifCond .eq 7, 3) := by decide +kernel
theorem dX9_isByte_25 : decode cX9_isByte 25 = .ok (.iconst 1, 1) := by decide +kernel
theorem dX9_isByte_26 : decode cX9_isByte 26 = .ok (.goto 4, 3) := by decide +kernel
theorem dX9_isByte_29 : decode cX9_isByte 29 = .ok (.iconst 0, 1) := by decide +kernel
theorem dX9_isByte_30 : decode cX9_isByte 30 = .ok (.ireturn, 1) := by decide +kernel
theorem dX9_sortsOf_0 : decode cX9_sortsOf 0 = .ok (.iload_n 0, 1) := by decide +kernel
theorem dX9_sortsOf_1 : decode cX9_sortsOf 1 = .ok (.tableswitch 99 99 114 #[91, 99, 99, 85, 99, 99, 99, 99, 99, 82, 79, 99, 95, 99, 99, 88], 79) := by decide +kernel
theorem dX9_sortsOf_80 : decode cX9_sortsOf 80 = .ok (.ldc 219, 2) := by decide +kernel
theorem dX9_sortsOf_82 : decode cX9_sortsOf 82 = .ok (.ireturn, 1) := by decide +kernel
theorem dX9_sortsOf_83 : decode cX9_sortsOf 83 = .ok (.ldc 220, 2) := by decide +kernel
theorem dX9_sortsOf_85 : decode cX9_sortsOf 85 = .ok (.ireturn, 1) := by decide +kernel
theorem dX9_sortsOf_86 : decode cX9_sortsOf 86 = .ok (.bipush 110, 2) := by decide +kernel
theorem dX9_sortsOf_88 : decode cX9_sortsOf 88 = .ok (.ireturn, 1) := by decide +kernel
theorem dX9_sortsOf_89 : decode cX9_sortsOf 89 = .ok (.ldc 221, 2) := by decide +kernel
theorem dX9_sortsOf_91 : decode cX9_sortsOf 91 = .ok (.ireturn, 1) := by decide +kernel
theorem dX9_sortsOf_92 : decode cX9_sortsOf 92 = .ok (.sipush 31140, 3) := by decide +kernel
theorem dX9_sortsOf_95 : decode cX9_sortsOf 95 = .ok (.ireturn, 1) := by decide +kernel
theorem dX9_sortsOf_96 : decode cX9_sortsOf 96 = .ok (.sipush 2211, 3) := by decide +kernel
theorem dX9_sortsOf_99 : decode cX9_sortsOf 99 = .ok (.ireturn, 1) := by decide +kernel
theorem dX9_sortsOf_100 : decode cX9_sortsOf 100 = .ok (.iconst 0, 1) := by decide +kernel
theorem dX9_sortsOf_101 : decode cX9_sortsOf 101 = .ok (.ireturn, 1) := by decide +kernel
theorem dX9_manyOf_0 : decode cX9_manyOf 0 = .ok (.iload_n 0, 1) := by decide +kernel
theorem dX9_manyOf_1 : decode cX9_manyOf 1 = .ok (.bipush 109, 2) := by decide +kernel
theorem dX9_manyOf_3 : decode cX9_manyOf 3 = .ok (.if_icmp .ne 8, 3) := by decide +kernel
theorem dX9_manyOf_6 : decode cX9_manyOf 6 = .ok (.bipush 9, 2) := by decide +kernel
theorem dX9_manyOf_8 : decode cX9_manyOf 8 = .ok (.goto 61, 3) := by decide +kernel
theorem dX9_manyOf_11 : decode cX9_manyOf 11 = .ok (.iload_n 0, 1) := by decide +kernel
theorem dX9_manyOf_12 : decode cX9_manyOf 12 = .ok (.bipush 108, 2) := by decide +kernel
theorem dX9_manyOf_14 : decode cX9_manyOf 14 = .ok (.if_icmp .eq 9, 3) := by decide +kernel
theorem dX9_manyOf_17 : decode cX9_manyOf 17 = .ok (.iload_n 0, 1) := by decide +kernel
theorem dX9_manyOf_18 : decode cX9_manyOf 18 = .ok (.bipush 114, 2) := by decide +kernel
theorem dX9_manyOf_20 : decode cX9_manyOf 20 = .ok (.if_icmp .ne 8, 3) := by decide +kernel
theorem dX9_manyOf_23 : decode cX9_manyOf 23 = .ok (.bipush 6, 2) := by decide +kernel
theorem dX9_manyOf_25 : decode cX9_manyOf 25 = .ok (.goto 44, 3) := by decide +kernel
theorem dX9_manyOf_28 : decode cX9_manyOf 28 = .ok (.iload_n 0, 1) := by decide +kernel
theorem dX9_manyOf_29 : decode cX9_manyOf 29 = .ok (.bipush 102, 2) := by decide +kernel
theorem dX9_manyOf_31 : decode cX9_manyOf 31 = .ok (.if_icmp .ne 7, 3) := by decide +kernel
theorem dX9_manyOf_34 : decode cX9_manyOf 34 = .ok (.iconst 3, 1) := by decide +kernel
theorem dX9_manyOf_35 : decode cX9_manyOf 35 = .ok (.goto 34, 3) := by decide +kernel
theorem dX9_manyOf_38 : decode cX9_manyOf 38 = .ok (.iload_n 0, 1) := by decide +kernel
theorem dX9_manyOf_39 : decode cX9_manyOf 39 = .ok (.bipush 99, 2) := by decide +kernel
theorem dX9_manyOf_41 : decode cX9_manyOf 41 = .ok (.if_icmp .ne 7, 3) := by decide +kernel
theorem dX9_manyOf_44 : decode cX9_manyOf 44 = .ok (.iconst 5, 1) := by decide +kernel
theorem dX9_manyOf_45 : decode cX9_manyOf 45 = .ok (.goto 24, 3) := by decide +kernel
theorem dX9_manyOf_48 : decode cX9_manyOf 48 = .ok (.iload_n 0, 1) := by decide +kernel
theorem dX9_manyOf_49 : decode cX9_manyOf 49 = .ok (.bipush 111, 2) := by decide +kernel
theorem dX9_manyOf_51 : decode cX9_manyOf 51 = .ok (.if_icmp .ne 7, 3) := by decide +kernel
theorem dX9_manyOf_54 : decode cX9_manyOf 54 = .ok (.iconst 4, 1) := by decide +kernel
theorem dX9_manyOf_55 : decode cX9_manyOf 55 = .ok (.goto 14, 3) := by decide +kernel
theorem dX9_manyOf_58 : decode cX9_manyOf 58 = .ok (.iload_n 0, 1) := by decide +kernel
theorem dX9_manyOf_59 : decode cX9_manyOf 59 = .ok (.bipush 107, 2) := by decide +kernel
theorem dX9_manyOf_61 : decode cX9_manyOf 61 = .ok (.if_icmp .ne 7, 3) := by decide +kernel
theorem dX9_manyOf_64 : decode cX9_manyOf 64 = .ok (.iconst 0, 1) := by decide +kernel
theorem dX9_manyOf_65 : decode cX9_manyOf 65 = .ok (.goto 4, 3) := by decide +kernel
theorem dX9_manyOf_68 : decode cX9_manyOf 68 = .ok (.iconst (-1), 1) := by decide +kernel
theorem dX9_manyOf_69 : decode cX9_manyOf 69 = .ok (.ireturn, 1) := by decide +kernel
theorem dX9_isAs_0 : decode cX9_isAs 0 = .ok (.iload_n 0, 1) := by decide +kernel
theorem dX9_isAs_1 : decode cX9_isAs 1 = .ok (.ifCond .ne 15, 3) := by decide +kernel
theorem dX9_isAs_4 : decode cX9_isAs 4 = .ok (.iload_n 1, 1) := by decide +kernel
theorem dX9_isAs_5 : decode cX9_isAs 5 = .ok (.i2l, 1) := by decide +kernel
theorem dX9_isAs_6 : decode cX9_isAs 6 = .ok (.lconst 0, 1) := by decide +kernel
theorem dX9_isAs_7 : decode cX9_isAs 7 = .ok (.ldc2_w 35, 3) := by decide +kernel
theorem dX9_isAs_10 : decode cX9_isAs 10 = .ok (.invokestatic 37, 3) := by decide +kernel
theorem dX9_isAs_13 : decode cX9_isAs 13 = .ok (.goto 65, 3) := by decide +kernel
theorem dX9_isAs_16 : decode cX9_isAs 16 = .ok (.iload_n 0, 1) := by decide +kernel
theorem dX9_isAs_17 : decode cX9_isAs 17 = .ok (.iconst 1, 1) := by decide +kernel
theorem dX9_isAs_18 : decode cX9_isAs 18 = .ok (.if_icmp .ne 17, 3) := by decide +kernel
theorem dX9_isAs_21 : decode cX9_isAs 21 = .ok (.iload_n 1, 1) := by decide +kernel
theorem dX9_isAs_22 : decode cX9_isAs 22 = .ok (.i2l, 1) := by decide +kernel
theorem dX9_isAs_23 : decode cX9_isAs 23 = .ok (.ldc2_w 41, 3) := by decide +kernel
theorem dX9_isAs_26 : decode cX9_isAs 26 = .ok (.ldc2_w 43, 3) := by decide +kernel
theorem dX9_isAs_29 : decode cX9_isAs 29 = .ok (.invokestatic 37, 3) := by decide +kernel
theorem dX9_isAs_32 : decode cX9_isAs 32 = .ok (.goto 46, 3) := by decide +kernel
theorem dX9_isAs_35 : decode cX9_isAs 35 = .ok (.iload_n 0, 1) := by decide +kernel
theorem dX9_isAs_36 : decode cX9_isAs 36 = .ok (.iconst 2, 1) := by decide +kernel
theorem dX9_isAs_37 : decode cX9_isAs 37 = .ok (.if_icmp .ne 15, 3) := by decide +kernel
theorem dX9_isAs_40 : decode cX9_isAs 40 = .ok (.iload_n 1, 1) := by decide +kernel
theorem dX9_isAs_41 : decode cX9_isAs 41 = .ok (.i2l, 1) := by decide +kernel
theorem dX9_isAs_42 : decode cX9_isAs 42 = .ok (.lconst 1, 1) := by decide +kernel
theorem dX9_isAs_43 : decode cX9_isAs 43 = .ok (.ldc2_w 45, 3) := by decide +kernel
theorem dX9_isAs_46 : decode cX9_isAs 46 = .ok (.invokestatic 37, 3) := by decide +kernel
theorem dX9_isAs_49 : decode cX9_isAs 49 = .ok (.goto 29, 3) := by decide +kernel
theorem dX9_isAs_52 : decode cX9_isAs 52 = .ok (.iload_n 0, 1) := by decide +kernel
theorem dX9_isAs_53 : decode cX9_isAs 53 = .ok (.iconst 3, 1) := by decide +kernel
theorem dX9_isAs_54 : decode cX9_isAs 54 = .ok (.if_icmp .ne 15, 3) := by decide +kernel
theorem dX9_isAs_57 : decode cX9_isAs 57 = .ok (.iload_n 1, 1) := by decide +kernel
theorem dX9_isAs_58 : decode cX9_isAs 58 = .ok (.i2l, 1) := by decide +kernel
theorem dX9_isAs_59 : decode cX9_isAs 59 = .ok (.lconst 0, 1) := by decide +kernel
theorem dX9_isAs_60 : decode cX9_isAs 60 = .ok (.ldc2_w 47, 3) := by decide +kernel
theorem dX9_isAs_63 : decode cX9_isAs 63 = .ok (.invokestatic 37, 3) := by decide +kernel
theorem dX9_isAs_66 : decode cX9_isAs 66 = .ok (.goto 12, 3) := by decide +kernel
theorem dX9_isAs_69 : decode cX9_isAs 69 = .ok (.iload_n 1, 1) := by decide +kernel
theorem dX9_isAs_70 : decode cX9_isAs 70 = .ok (.i2l, 1) := by decide +kernel
theorem dX9_isAs_71 : decode cX9_isAs 71 = .ok (.lconst 0, 1) := by decide +kernel
theorem dX9_isAs_72 : decode cX9_isAs 72 = .ok (.ldc2_w 178, 3) := by decide +kernel
theorem dX9_isAs_75 : decode cX9_isAs 75 = .ok (.invokestatic 37, 3) := by decide +kernel
theorem dX9_isAs_78 : decode cX9_isAs 78 = .ok (.ireturn, 1) := by decide +kernel
theorem dX9_takes_0 : decode cX9_takes 0 = .ok (.aload_n 0, 1) := by decide +kernel
theorem dX9_takes_1 : decode cX9_takes 1 = .ok (.getfield 216, 3) := by decide +kernel
theorem dX9_takes_4 : decode cX9_takes 4 = .ok (.istore_n 3, 1) := by decide +kernel
theorem dX9_takes_5 : decode cX9_takes 5 = .ok (.aload_n 0, 1) := by decide +kernel
theorem dX9_takes_6 : decode cX9_takes 6 = .ok (.invokevirtual 222, 3) := by decide +kernel
theorem dX9_takes_9 : decode cX9_takes 9 = .ok (.aload_n 0, 1) := by decide +kernel
theorem dX9_takes_10 : decode cX9_takes 10 = .ok (.getfield 216, 3) := by decide +kernel
theorem dX9_takes_13 : decode cX9_takes 13 = .ok (.istore 4, 2) := by decide +kernel
theorem dX9_takes_15 : decode cX9_takes 15 = .ok (.aload_n 0, 1) := by decide +kernel
theorem dX9_takes_16 : decode cX9_takes 16 = .ok (.iload 4, 2) := by decide +kernel
theorem dX9_takes_18 : decode cX9_takes 18 = .ok (.bipush 45, 2) := by decide +kernel
theorem dX9_takes_20 : decode cX9_takes 20 = .ok (.bipush 45, 2) := by decide +kernel
theorem dX9_takes_22 : decode cX9_takes 22 = .ok (.invokevirtual 225, 3) := by decide +kernel
theorem dX9_takes_25 : decode cX9_takes 25 = .ok (.istore 5, 2) := by decide +kernel
theorem dX9_takes_27 : decode cX9_takes 27 = .ok (.iload_n 1, 1) := by decide +kernel
theorem dX9_takes_28 : decode cX9_takes 28 = .ok (.ifCond .eq 14, 3) := by decide +kernel
theorem dX9_takes_31 : decode cX9_takes 31 = .ok (.iload 4, 2) := by decide +kernel
theorem dX9_takes_33 : decode cX9_takes 33 = .ok (.iload_n 3, 1) := by decide +kernel
theorem dX9_takes_34 : decode cX9_takes 34 = .ok (.if_icmp .gt 8, 3) := by decide +kernel
theorem dX9_takes_37 : decode cX9_takes 37 = .ok (.iload 5, 2) := by decide +kernel
theorem dX9_takes_39 : decode cX9_takes 39 = .ok (.ifCond .eq 7, 3) := by decide +kernel
theorem dX9_takes_42 : decode cX9_takes 42 = .ok (.iconst 1, 1) := by decide +kernel
theorem dX9_takes_43 : decode cX9_takes 43 = .ok (.goto 4, 3) := by decide +kernel
theorem dX9_takes_46 : decode cX9_takes 46 = .ok (.iconst 0, 1) := by decide +kernel
theorem dX9_takes_47 : decode cX9_takes 47 = .ok (.istore 6, 2) := by decide +kernel
theorem dX9_takes_49 : decode cX9_takes 49 = .ok (.iload 5, 2) := by decide +kernel
theorem dX9_takes_51 : decode cX9_takes 51 = .ok (.ifCond .eq 10, 3) := by decide +kernel
theorem dX9_takes_54 : decode cX9_takes 54 = .ok (.iload 4, 2) := by decide +kernel
theorem dX9_takes_56 : decode cX9_takes 56 = .ok (.iconst 1, 1) := by decide +kernel
theorem dX9_takes_57 : decode cX9_takes 57 = .ok (.iadd, 1) := by decide +kernel
theorem dX9_takes_58 : decode cX9_takes 58 = .ok (.goto 5, 3) := by decide +kernel
theorem dX9_takes_61 : decode cX9_takes 61 = .ok (.iload 4, 2) := by decide +kernel
theorem dX9_takes_63 : decode cX9_takes 63 = .ok (.istore 7, 2) := by decide +kernel
theorem dX9_takes_65 : decode cX9_takes 65 = .ok (.iconst 0, 1) := by decide +kernel
theorem dX9_takes_66 : decode cX9_takes 66 = .ok (.istore 8, 2) := by decide +kernel
theorem dX9_takes_68 : decode cX9_takes 68 = .ok (.iconst 0, 1) := by decide +kernel
theorem dX9_takes_69 : decode cX9_takes 69 = .ok (.istore 9, 2) := by decide +kernel
theorem dX9_takes_71 : decode cX9_takes 71 = .ok (.aload_n 0, 1) := by decide +kernel
theorem dX9_takes_72 : decode cX9_takes 72 = .ok (.iload 7, 2) := by decide +kernel
theorem dX9_takes_74 : decode cX9_takes 74 = .ok (.bipush 48, 2) := by decide +kernel
theorem dX9_takes_76 : decode cX9_takes 76 = .ok (.bipush 57, 2) := by decide +kernel
theorem dX9_takes_78 : decode cX9_takes 78 = .ok (.invokevirtual 225, 3) := by decide +kernel
theorem dX9_takes_81 : decode cX9_takes 81 = .ok (.ifCond .eq 41, 3) := by decide +kernel
theorem dX9_takes_84 : decode cX9_takes 84 = .ok (.iload 9, 2) := by decide +kernel
theorem dX9_takes_86 : decode cX9_takes 86 = .ok (.iconst 3, 1) := by decide +kernel
theorem dX9_takes_87 : decode cX9_takes 87 = .ok (.if_icmp .ge 22, 3) := by decide +kernel
theorem dX9_takes_90 : decode cX9_takes 90 = .ok (.bipush 10, 2) := by decide +kernel
theorem dX9_takes_92 : decode cX9_takes 92 = .ok (.iload 8, 2) := by decide +kernel
theorem dX9_takes_94 : decode cX9_takes 94 = .ok (.imul, 1) := by decide +kernel
theorem dX9_takes_95 : decode cX9_takes 95 = .ok (.aload_n 0, 1) := by decide +kernel
theorem dX9_takes_96 : decode cX9_takes 96 = .ok (.getfield 29, 3) := by decide +kernel
theorem dX9_takes_99 : decode cX9_takes 99 = .ok (.iload 7, 2) := by decide +kernel
theorem dX9_takes_101 : decode cX9_takes 101 = .ok (.iaload, 1) := by decide +kernel
theorem dX9_takes_102 : decode cX9_takes 102 = .ok (.iadd, 1) := by decide +kernel
theorem dX9_takes_103 : decode cX9_takes 103 = .ok (.bipush 48, 2) := by decide +kernel
theorem dX9_takes_105 : decode cX9_takes 105 = .ok (.isub, 1) := by decide +kernel
theorem dX9_takes_106 : decode cX9_takes 106 = .ok (.goto 5, 3) := by decide +kernel
theorem dX9_takes_109 : decode cX9_takes 109 = .ok (.iload 8, 2) := by decide +kernel
theorem dX9_takes_111 : decode cX9_takes 111 = .ok (.istore 8, 2) := by decide +kernel
theorem dX9_takes_113 : decode cX9_takes 113 = .ok (.iinc 9 1, 3) := by decide +kernel
theorem dX9_takes_116 : decode cX9_takes 116 = .ok (.iinc 7 1, 3) := by decide +kernel
theorem dX9_takes_119 : decode cX9_takes 119 = .ok (.goto (-48), 3) := by decide +kernel
theorem dX9_takes_122 : decode cX9_takes 122 = .ok (.iload 6, 2) := by decide +kernel
theorem dX9_takes_124 : decode cX9_takes 124 = .ok (.ifCond .eq 40, 3) := by decide +kernel
theorem dX9_takes_127 : decode cX9_takes 127 = .ok (.iload 9, 2) := by decide +kernel
theorem dX9_takes_129 : decode cX9_takes 129 = .ok (.i2l, 1) := by decide +kernel
theorem dX9_takes_130 : decode cX9_takes 130 = .ok (.lconst 1, 1) := by decide +kernel
theorem dX9_takes_131 : decode cX9_takes 131 = .ok (.ldc2_w 229, 3) := by decide +kernel
theorem dX9_takes_134 : decode cX9_takes 134 = .ok (.invokestatic 37, 3) := by decide +kernel
theorem dX9_takes_137 : decode cX9_takes 137 = .ok (.ifCond .eq 27, 3) := by decide +kernel
theorem dX9_takes_140 : decode cX9_takes 140 = .ok (.iload_n 2, 1) := by decide +kernel
theorem dX9_takes_141 : decode cX9_takes 141 = .ok (.iload 5, 2) := by decide +kernel
theorem dX9_takes_143 : decode cX9_takes 143 = .ok (.ifCond .eq 9, 3) := by decide +kernel
theorem dX9_takes_146 : decode cX9_takes 146 = .ok (.iload 8, 2) := by decide +kernel
theorem dX9_takes_148 : decode cX9_takes 148 = .ok (.ineg, 1) := by decide +kernel
theorem dX9_takes_149 : decode cX9_takes 149 = .ok (.goto 5, 3) := by decide +kernel
theorem dX9_takes_152 : decode cX9_takes 152 = .ok (.iload 8, 2) := by decide +kernel
theorem dX9_takes_154 : decode cX9_takes 154 = .ok (.invokestatic 231, 3) := by decide +kernel
theorem dX9_takes_157 : decode cX9_takes 157 = .ok (.ifCond .eq 7, 3) := by decide +kernel
theorem dX9_takes_160 : decode cX9_takes 160 = .ok (.iconst 1, 1) := by decide +kernel
theorem dX9_takes_161 : decode cX9_takes 161 = .ok (.goto 4, 3) := by decide +kernel
theorem dX9_takes_164 : decode cX9_takes 164 = .ok (.iconst 0, 1) := by decide +kernel
theorem dX9_takes_165 : decode cX9_takes 165 = .ok (.istore 10, 2) := by decide +kernel
theorem dX9_takes_167 : decode cX9_takes 167 = .ok (.aload_n 0, 1) := by decide +kernel
theorem dX9_takes_168 : decode cX9_takes 168 = .ok (.getfield 32, 3) := by decide +kernel
theorem dX9_takes_171 : decode cX9_takes 171 = .ok (.iload_n 1, 1) := by decide +kernel
theorem dX9_takes_172 : decode cX9_takes 172 = .ok (.iload 5, 2) := by decide +kernel
theorem dX9_takes_174 : decode cX9_takes 174 = .ok (.ifCond .eq 9, 3) := by decide +kernel
theorem dX9_takes_177 : decode cX9_takes 177 = .ok (.iload 8, 2) := by decide +kernel
theorem dX9_takes_179 : decode cX9_takes 179 = .ok (.ineg, 1) := by decide +kernel
theorem dX9_takes_180 : decode cX9_takes 180 = .ok (.goto 5, 3) := by decide +kernel
theorem dX9_takes_183 : decode cX9_takes 183 = .ok (.iload 8, 2) := by decide +kernel
theorem dX9_takes_185 : decode cX9_takes 185 = .ok (.iastore, 1) := by decide +kernel
theorem dX9_takes_186 : decode cX9_takes 186 = .ok (.aload_n 0, 1) := by decide +kernel
theorem dX9_takes_187 : decode cX9_takes 187 = .ok (.iload 10, 2) := by decide +kernel
theorem dX9_takes_189 : decode cX9_takes 189 = .ok (.ifCond .eq 8, 3) := by decide +kernel
theorem dX9_takes_192 : decode cX9_takes 192 = .ok (.iload 7, 2) := by decide +kernel
theorem dX9_takes_194 : decode cX9_takes 194 = .ok (.goto 5, 3) := by decide +kernel
theorem dX9_takes_197 : decode cX9_takes 197 = .ok (.iload 4, 2) := by decide +kernel
theorem dX9_takes_199 : decode cX9_takes 199 = .ok (.putfield 216, 3) := by decide +kernel
theorem dX9_takes_202 : decode cX9_takes 202 = .ok (.iload 10, 2) := by decide +kernel
theorem dX9_takes_204 : decode cX9_takes 204 = .ok (.ireturn, 1) := by decide +kernel
theorem dX9_reads_0 : decode cX9_reads 0 = .ok (.aload_n 0, 1) := by decide +kernel
theorem dX9_reads_1 : decode cX9_reads 1 = .ok (.invokevirtual 222, 3) := by decide +kernel
theorem dX9_reads_4 : decode cX9_reads 4 = .ok (.aload_n 0, 1) := by decide +kernel
theorem dX9_reads_5 : decode cX9_reads 5 = .ok (.getfield 216, 3) := by decide +kernel
theorem dX9_reads_8 : decode cX9_reads 8 = .ok (.istore_n 2, 1) := by decide +kernel
theorem dX9_reads_9 : decode cX9_reads 9 = .ok (.iload_n 2, 1) := by decide +kernel
theorem dX9_reads_10 : decode cX9_reads 10 = .ok (.aload_n 0, 1) := by decide +kernel
theorem dX9_reads_11 : decode cX9_reads 11 = .ok (.getfield 213, 3) := by decide +kernel
theorem dX9_reads_14 : decode cX9_reads 14 = .ok (.if_icmp .ge 12, 3) := by decide +kernel
theorem dX9_reads_17 : decode cX9_reads 17 = .ok (.aload_n 0, 1) := by decide +kernel
theorem dX9_reads_18 : decode cX9_reads 18 = .ok (.getfield 29, 3) := by decide +kernel
theorem dX9_reads_21 : decode cX9_reads 21 = .ok (.iload_n 2, 1) := by decide +kernel
theorem dX9_reads_22 : decode cX9_reads 22 = .ok (.iaload, 1) := by decide +kernel
theorem dX9_reads_23 : decode cX9_reads 23 = .ok (.goto 4, 3) := by decide +kernel
theorem dX9_reads_26 : decode cX9_reads 26 = .ok (.iconst (-1), 1) := by decide +kernel
theorem dX9_reads_27 : decode cX9_reads 27 = .ok (.istore_n 3, 1) := by decide +kernel
theorem dX9_reads_28 : decode cX9_reads 28 = .ok (.iload_n 3, 1) := by decide +kernel
theorem dX9_reads_29 : decode cX9_reads 29 = .ok (.invokestatic 234, 3) := by decide +kernel
theorem dX9_reads_32 : decode cX9_reads 32 = .ok (.istore 4, 2) := by decide +kernel
theorem dX9_reads_34 : decode cX9_reads 34 = .ok (.iload 4, 2) := by decide +kernel
theorem dX9_reads_36 : decode cX9_reads 36 = .ok (.iconst (-1), 1) := by decide +kernel
theorem dX9_reads_37 : decode cX9_reads 37 = .ok (.if_icmp .eq 14, 3) := by decide +kernel
theorem dX9_reads_40 : decode cX9_reads 40 = .ok (.iload_n 3, 1) := by decide +kernel
theorem dX9_reads_41 : decode cX9_reads 41 = .ok (.bipush 111, 2) := by decide +kernel
theorem dX9_reads_43 : decode cX9_reads 43 = .ok (.if_icmp .ne 10, 3) := by decide +kernel
theorem dX9_reads_46 : decode cX9_reads 46 = .ok (.iload_n 1, 1) := by decide +kernel
theorem dX9_reads_47 : decode cX9_reads 47 = .ok (.iconst 4, 1) := by decide +kernel
theorem dX9_reads_48 : decode cX9_reads 48 = .ok (.if_icmp .ne 5, 3) := by decide +kernel
theorem dX9_reads_51 : decode cX9_reads 51 = .ok (.iconst (-1), 1) := by decide +kernel
theorem dX9_reads_52 : decode cX9_reads 52 = .ok (.ireturn, 1) := by decide +kernel
theorem dX9_reads_53 : decode cX9_reads 53 = .ok (.aload_n 0, 1) := by decide +kernel
theorem dX9_reads_54 : decode cX9_reads 54 = .ok (.dup, 1) := by decide +kernel
theorem dX9_reads_55 : decode cX9_reads 55 = .ok (.getfield 216, 3) := by decide +kernel
theorem dX9_reads_58 : decode cX9_reads 58 = .ok (.iconst 1, 1) := by decide +kernel
theorem dX9_reads_59 : decode cX9_reads 59 = .ok (.iadd, 1) := by decide +kernel
theorem dX9_reads_60 : decode cX9_reads 60 = .ok (.putfield 216, 3) := by decide +kernel
theorem dX9_reads_63 : decode cX9_reads 63 = .ok (.iload_n 3, 1) := by decide +kernel
theorem dX9_reads_64 : decode cX9_reads 64 = .ok (.invokestatic 237, 3) := by decide +kernel
theorem dX9_reads_67 : decode cX9_reads 67 = .ok (.istore 5, 2) := by decide +kernel
theorem dX9_reads_69 : decode cX9_reads 69 = .ok (.iconst 0, 1) := by decide +kernel
theorem dX9_reads_70 : decode cX9_reads 70 = .ok (.istore 6, 2) := by decide +kernel
theorem dX9_reads_72 : decode cX9_reads 72 = .ok (.iload 6, 2) := by decide +kernel
theorem dX9_reads_74 : decode cX9_reads 74 = .ok (.iload 4, 2) := by decide +kernel
theorem dX9_reads_76 : decode cX9_reads 76 = .ok (.if_icmp .ge 32, 3) := by decide +kernel
theorem dX9_reads_79 : decode cX9_reads 79 = .ok (.aload_n 0, 1) := by decide +kernel
theorem dX9_reads_80 : decode cX9_reads 80 = .ok (.iload 6, 2) := by decide +kernel
theorem dX9_reads_82 : decode cX9_reads 82 = .ok (.iload 5, 2) := by decide +kernel
theorem dX9_reads_84 : decode cX9_reads 84 = .ok (.bipush 10, 2) := by decide +kernel
theorem dX9_reads_86 : decode cX9_reads 86 = .ok (.irem, 1) := by decide +kernel
theorem dX9_reads_87 : decode cX9_reads 87 = .ok (.invokevirtual 240, 3) := by decide +kernel
theorem dX9_reads_90 : decode cX9_reads 90 = .ok (.ifCond .ne 5, 3) := by decide +kernel
theorem dX9_reads_93 : decode cX9_reads 93 = .ok (.iconst (-1), 1) := by decide +kernel
theorem dX9_reads_94 : decode cX9_reads 94 = .ok (.ireturn, 1) := by decide +kernel
theorem dX9_reads_95 : decode cX9_reads 95 = .ok (.iload 5, 2) := by decide +kernel
theorem dX9_reads_97 : decode cX9_reads 97 = .ok (.bipush 10, 2) := by decide +kernel
theorem dX9_reads_99 : decode cX9_reads 99 = .ok (.idiv, 1) := by decide +kernel
theorem dX9_reads_100 : decode cX9_reads 100 = .ok (.istore 5, 2) := by decide +kernel
theorem dX9_reads_102 : decode cX9_reads 102 = .ok (.iinc 6 1, 3) := by decide +kernel
theorem dX9_reads_105 : decode cX9_reads 105 = .ok (.goto (-33), 3) := by decide +kernel
theorem dX9_reads_108 : decode cX9_reads 108 = .ok (.aload_n 0, 1) := by decide +kernel
theorem dX9_reads_109 : decode cX9_reads 109 = .ok (.invokevirtual 222, 3) := by decide +kernel
theorem dX9_reads_112 : decode cX9_reads 112 = .ok (.aload_n 0, 1) := by decide +kernel
theorem dX9_reads_113 : decode cX9_reads 113 = .ok (.aload_n 0, 1) := by decide +kernel
theorem dX9_reads_114 : decode cX9_reads 114 = .ok (.getfield 216, 3) := by decide +kernel
theorem dX9_reads_117 : decode cX9_reads 117 = .ok (.bipush 59, 2) := by decide +kernel
theorem dX9_reads_119 : decode cX9_reads 119 = .ok (.bipush 59, 2) := by decide +kernel
theorem dX9_reads_121 : decode cX9_reads 121 = .ok (.invokevirtual 225, 3) := by decide +kernel
theorem dX9_reads_124 : decode cX9_reads 124 = .ok (.ifCond .ne 5, 3) := by decide +kernel
theorem dX9_reads_127 : decode cX9_reads 127 = .ok (.iconst (-1), 1) := by decide +kernel
theorem dX9_reads_128 : decode cX9_reads 128 = .ok (.ireturn, 1) := by decide +kernel
theorem dX9_reads_129 : decode cX9_reads 129 = .ok (.aload_n 0, 1) := by decide +kernel
theorem dX9_reads_130 : decode cX9_reads 130 = .ok (.dup, 1) := by decide +kernel
theorem dX9_reads_131 : decode cX9_reads 131 = .ok (.getfield 216, 3) := by decide +kernel
theorem dX9_reads_134 : decode cX9_reads 134 = .ok (.iconst 1, 1) := by decide +kernel
theorem dX9_reads_135 : decode cX9_reads 135 = .ok (.iadd, 1) := by decide +kernel
theorem dX9_reads_136 : decode cX9_reads 136 = .ok (.putfield 216, 3) := by decide +kernel
theorem dX9_reads_139 : decode cX9_reads 139 = .ok (.iload_n 3, 1) := by decide +kernel
theorem dX9_reads_140 : decode cX9_reads 140 = .ok (.ireturn, 1) := by decide +kernel
theorem dX9_doesOne_0 : decode cX9_doesOne 0 = .ok (.aload_n 0, 1) := by decide +kernel
theorem dX9_doesOne_1 : decode cX9_doesOne 1 = .ok (.getfield 32, 3) := by decide +kernel
theorem dX9_doesOne_4 : decode cX9_doesOne 4 = .ok (.iconst 0, 1) := by decide +kernel
theorem dX9_doesOne_5 : decode cX9_doesOne 5 = .ok (.iaload, 1) := by decide +kernel
theorem dX9_doesOne_6 : decode cX9_doesOne 6 = .ok (.istore_n 2, 1) := by decide +kernel
theorem dX9_doesOne_7 : decode cX9_doesOne 7 = .ok (.iload_n 1, 1) := by decide +kernel
theorem dX9_doesOne_8 : decode cX9_doesOne 8 = .ok (.tableswitch 305 99 114 #[250, 305, 305, 173, 305, 305, 305, 305, 305, 137, 80, 305, 280, 305, 305, 214], 80) := by decide +kernel
theorem dX9_doesOne_88 : decode cX9_doesOne 88 = .ok (.aload_n 0, 1) := by decide +kernel
theorem dX9_doesOne_89 : decode cX9_doesOne 89 = .ok (.iload_n 2, 1) := by decide +kernel
theorem dX9_doesOne_90 : decode cX9_doesOne 90 = .ok (.aload_n 0, 1) := by decide +kernel
theorem dX9_doesOne_91 : decode cX9_doesOne 91 = .ok (.getfield 32, 3) := by decide +kernel
theorem dX9_doesOne_94 : decode cX9_doesOne 94 = .ok (.iconst 1, 1) := by decide +kernel
theorem dX9_doesOne_95 : decode cX9_doesOne 95 = .ok (.iaload, 1) := by decide +kernel
theorem dX9_doesOne_96 : decode cX9_doesOne 96 = .ok (.aload_n 0, 1) := by decide +kernel
theorem dX9_doesOne_97 : decode cX9_doesOne 97 = .ok (.getfield 32, 3) := by decide +kernel
theorem dX9_doesOne_100 : decode cX9_doesOne 100 = .ok (.iconst 2, 1) := by decide +kernel
theorem dX9_doesOne_101 : decode cX9_doesOne 101 = .ok (.iaload, 1) := by decide +kernel
theorem dX9_doesOne_102 : decode cX9_doesOne 102 = .ok (.aload_n 0, 1) := by decide +kernel
theorem dX9_doesOne_103 : decode cX9_doesOne 103 = .ok (.getfield 32, 3) := by decide +kernel
theorem dX9_doesOne_106 : decode cX9_doesOne 106 = .ok (.iconst 3, 1) := by decide +kernel
theorem dX9_doesOne_107 : decode cX9_doesOne 107 = .ok (.iaload, 1) := by decide +kernel
theorem dX9_doesOne_108 : decode cX9_doesOne 108 = .ok (.aload_n 0, 1) := by decide +kernel
theorem dX9_doesOne_109 : decode cX9_doesOne 109 = .ok (.getfield 32, 3) := by decide +kernel
theorem dX9_doesOne_112 : decode cX9_doesOne 112 = .ok (.iconst 4, 1) := by decide +kernel
theorem dX9_doesOne_113 : decode cX9_doesOne 113 = .ok (.iaload, 1) := by decide +kernel
theorem dX9_doesOne_114 : decode cX9_doesOne 114 = .ok (.aload_n 0, 1) := by decide +kernel
theorem dX9_doesOne_115 : decode cX9_doesOne 115 = .ok (.getfield 32, 3) := by decide +kernel
theorem dX9_doesOne_118 : decode cX9_doesOne 118 = .ok (.iconst 5, 1) := by decide +kernel
theorem dX9_doesOne_119 : decode cX9_doesOne 119 = .ok (.iaload, 1) := by decide +kernel
theorem dX9_doesOne_120 : decode cX9_doesOne 120 = .ok (.aload_n 0, 1) := by decide +kernel
theorem dX9_doesOne_121 : decode cX9_doesOne 121 = .ok (.getfield 32, 3) := by decide +kernel
theorem dX9_doesOne_124 : decode cX9_doesOne 124 = .ok (.bipush 6, 2) := by decide +kernel
theorem dX9_doesOne_126 : decode cX9_doesOne 126 = .ok (.iaload, 1) := by decide +kernel
theorem dX9_doesOne_127 : decode cX9_doesOne 127 = .ok (.aload_n 0, 1) := by decide +kernel
theorem dX9_doesOne_128 : decode cX9_doesOne 128 = .ok (.getfield 32, 3) := by decide +kernel
theorem dX9_doesOne_131 : decode cX9_doesOne 131 = .ok (.bipush 7, 2) := by decide +kernel
theorem dX9_doesOne_133 : decode cX9_doesOne 133 = .ok (.iaload, 1) := by decide +kernel
theorem dX9_doesOne_134 : decode cX9_doesOne 134 = .ok (.aload_n 0, 1) := by decide +kernel
theorem dX9_doesOne_135 : decode cX9_doesOne 135 = .ok (.getfield 32, 3) := by decide +kernel
theorem dX9_doesOne_138 : decode cX9_doesOne 138 = .ok (.bipush 8, 2) := by decide +kernel
theorem dX9_doesOne_140 : decode cX9_doesOne 140 = .ok (.iaload, 1) := by decide +kernel
theorem dX9_doesOne_141 : decode cX9_doesOne 141 = .ok (.invokevirtual 138, 3) := by decide +kernel
theorem dX9_doesOne_144 : decode cX9_doesOne 144 = .ok (.ireturn, 1) := by decide +kernel
theorem dX9_doesOne_145 : decode cX9_doesOne 145 = .ok (.aload_n 0, 1) := by decide +kernel
theorem dX9_doesOne_146 : decode cX9_doesOne 146 = .ok (.iload_n 2, 1) := by decide +kernel
theorem dX9_doesOne_147 : decode cX9_doesOne 147 = .ok (.aload_n 0, 1) := by decide +kernel
theorem dX9_doesOne_148 : decode cX9_doesOne 148 = .ok (.getfield 32, 3) := by decide +kernel
theorem dX9_doesOne_151 : decode cX9_doesOne 151 = .ok (.iconst 1, 1) := by decide +kernel
theorem dX9_doesOne_152 : decode cX9_doesOne 152 = .ok (.iaload, 1) := by decide +kernel
theorem dX9_doesOne_153 : decode cX9_doesOne 153 = .ok (.aload_n 0, 1) := by decide +kernel
theorem dX9_doesOne_154 : decode cX9_doesOne 154 = .ok (.getfield 32, 3) := by decide +kernel
theorem dX9_doesOne_157 : decode cX9_doesOne 157 = .ok (.iconst 2, 1) := by decide +kernel
theorem dX9_doesOne_158 : decode cX9_doesOne 158 = .ok (.iaload, 1) := by decide +kernel
theorem dX9_doesOne_159 : decode cX9_doesOne 159 = .ok (.aload_n 0, 1) := by decide +kernel
theorem dX9_doesOne_160 : decode cX9_doesOne 160 = .ok (.getfield 32, 3) := by decide +kernel
theorem dX9_doesOne_163 : decode cX9_doesOne 163 = .ok (.iconst 3, 1) := by decide +kernel
theorem dX9_doesOne_164 : decode cX9_doesOne 164 = .ok (.iaload, 1) := by decide +kernel
theorem dX9_doesOne_165 : decode cX9_doesOne 165 = .ok (.aload_n 0, 1) := by decide +kernel
theorem dX9_doesOne_166 : decode cX9_doesOne 166 = .ok (.getfield 32, 3) := by decide +kernel
theorem dX9_doesOne_169 : decode cX9_doesOne 169 = .ok (.iconst 4, 1) := by decide +kernel
theorem dX9_doesOne_170 : decode cX9_doesOne 170 = .ok (.iaload, 1) := by decide +kernel
theorem dX9_doesOne_171 : decode cX9_doesOne 171 = .ok (.aload_n 0, 1) := by decide +kernel
theorem dX9_doesOne_172 : decode cX9_doesOne 172 = .ok (.getfield 32, 3) := by decide +kernel
theorem dX9_doesOne_175 : decode cX9_doesOne 175 = .ok (.iconst 5, 1) := by decide +kernel
theorem dX9_doesOne_176 : decode cX9_doesOne 176 = .ok (.iaload, 1) := by decide +kernel
theorem dX9_doesOne_177 : decode cX9_doesOne 177 = .ok (.invokevirtual 148, 3) := by decide +kernel
theorem dX9_doesOne_180 : decode cX9_doesOne 180 = .ok (.ireturn, 1) := by decide +kernel
theorem dX9_doesOne_181 : decode cX9_doesOne 181 = .ok (.aload_n 0, 1) := by decide +kernel
theorem dX9_doesOne_182 : decode cX9_doesOne 182 = .ok (.aload_n 0, 1) := by decide +kernel
theorem dX9_doesOne_183 : decode cX9_doesOne 183 = .ok (.getfield 32, 3) := by decide +kernel
theorem dX9_doesOne_186 : decode cX9_doesOne 186 = .ok (.iconst 1, 1) := by decide +kernel
theorem dX9_doesOne_187 : decode cX9_doesOne 187 = .ok (.iaload, 1) := by decide +kernel
theorem dX9_doesOne_188 : decode cX9_doesOne 188 = .ok (.aload_n 0, 1) := by decide +kernel
theorem dX9_doesOne_189 : decode cX9_doesOne 189 = .ok (.getfield 32, 3) := by decide +kernel
theorem dX9_doesOne_192 : decode cX9_doesOne 192 = .ok (.iconst 2, 1) := by decide +kernel
theorem dX9_doesOne_193 : decode cX9_doesOne 193 = .ok (.iaload, 1) := by decide +kernel
theorem dX9_doesOne_194 : decode cX9_doesOne 194 = .ok (.invokevirtual 166, 3) := by decide +kernel
theorem dX9_doesOne_197 : decode cX9_doesOne 197 = .ok (.ifCond .eq 23, 3) := by decide +kernel
theorem dX9_doesOne_200 : decode cX9_doesOne 200 = .ok (.aload_n 0, 1) := by decide +kernel
theorem dX9_doesOne_201 : decode cX9_doesOne 201 = .ok (.iload_n 2, 1) := by decide +kernel
theorem dX9_doesOne_202 : decode cX9_doesOne 202 = .ok (.aload_n 0, 1) := by decide +kernel
theorem dX9_doesOne_203 : decode cX9_doesOne 203 = .ok (.getfield 32, 3) := by decide +kernel
theorem dX9_doesOne_206 : decode cX9_doesOne 206 = .ok (.iconst 1, 1) := by decide +kernel
theorem dX9_doesOne_207 : decode cX9_doesOne 207 = .ok (.iaload, 1) := by decide +kernel
theorem dX9_doesOne_208 : decode cX9_doesOne 208 = .ok (.aload_n 0, 1) := by decide +kernel
theorem dX9_doesOne_209 : decode cX9_doesOne 209 = .ok (.getfield 32, 3) := by decide +kernel
theorem dX9_doesOne_212 : decode cX9_doesOne 212 = .ok (.iconst 2, 1) := by decide +kernel
theorem dX9_doesOne_213 : decode cX9_doesOne 213 = .ok (.iaload, 1) := by decide +kernel
theorem dX9_doesOne_214 : decode cX9_doesOne 214 = .ok (.invokevirtual 172, 3) := by decide +kernel
theorem dX9_doesOne_217 : decode cX9_doesOne 217 = .ok (.goto 4, 3) := by decide +kernel
theorem dX9_doesOne_220 : decode cX9_doesOne 220 = .ok (.iconst 0, 1) := by decide +kernel
theorem dX9_doesOne_221 : decode cX9_doesOne 221 = .ok (.ireturn, 1) := by decide +kernel
theorem dX9_doesOne_222 : decode cX9_doesOne 222 = .ok (.aload_n 0, 1) := by decide +kernel
theorem dX9_doesOne_223 : decode cX9_doesOne 223 = .ok (.iload_n 2, 1) := by decide +kernel
theorem dX9_doesOne_224 : decode cX9_doesOne 224 = .ok (.aload_n 0, 1) := by decide +kernel
theorem dX9_doesOne_225 : decode cX9_doesOne 225 = .ok (.getfield 32, 3) := by decide +kernel
theorem dX9_doesOne_228 : decode cX9_doesOne 228 = .ok (.iconst 1, 1) := by decide +kernel
theorem dX9_doesOne_229 : decode cX9_doesOne 229 = .ok (.iaload, 1) := by decide +kernel
theorem dX9_doesOne_230 : decode cX9_doesOne 230 = .ok (.aload_n 0, 1) := by decide +kernel
theorem dX9_doesOne_231 : decode cX9_doesOne 231 = .ok (.getfield 32, 3) := by decide +kernel
theorem dX9_doesOne_234 : decode cX9_doesOne 234 = .ok (.iconst 2, 1) := by decide +kernel
theorem dX9_doesOne_235 : decode cX9_doesOne 235 = .ok (.iaload, 1) := by decide +kernel
theorem dX9_doesOne_236 : decode cX9_doesOne 236 = .ok (.aload_n 0, 1) := by decide +kernel
theorem dX9_doesOne_237 : decode cX9_doesOne 237 = .ok (.getfield 32, 3) := by decide +kernel
theorem dX9_doesOne_240 : decode cX9_doesOne 240 = .ok (.iconst 3, 1) := by decide +kernel
theorem dX9_doesOne_241 : decode cX9_doesOne 241 = .ok (.iaload, 1) := by decide +kernel
theorem dX9_doesOne_242 : decode cX9_doesOne 242 = .ok (.aload_n 0, 1) := by decide +kernel
theorem dX9_doesOne_243 : decode cX9_doesOne 243 = .ok (.getfield 32, 3) := by decide +kernel
theorem dX9_doesOne_246 : decode cX9_doesOne 246 = .ok (.iconst 4, 1) := by decide +kernel
theorem dX9_doesOne_247 : decode cX9_doesOne 247 = .ok (.iaload, 1) := by decide +kernel
theorem dX9_doesOne_248 : decode cX9_doesOne 248 = .ok (.aload_n 0, 1) := by decide +kernel
theorem dX9_doesOne_249 : decode cX9_doesOne 249 = .ok (.getfield 32, 3) := by decide +kernel
theorem dX9_doesOne_252 : decode cX9_doesOne 252 = .ok (.iconst 5, 1) := by decide +kernel
theorem dX9_doesOne_253 : decode cX9_doesOne 253 = .ok (.iaload, 1) := by decide +kernel
theorem dX9_doesOne_254 : decode cX9_doesOne 254 = .ok (.invokevirtual 175, 3) := by decide +kernel
theorem dX9_doesOne_257 : decode cX9_doesOne 257 = .ok (.ireturn, 1) := by decide +kernel
theorem dX9_doesOne_258 : decode cX9_doesOne 258 = .ok (.aload_n 0, 1) := by decide +kernel
theorem dX9_doesOne_259 : decode cX9_doesOne 259 = .ok (.iload_n 2, 1) := by decide +kernel
theorem dX9_doesOne_260 : decode cX9_doesOne 260 = .ok (.aload_n 0, 1) := by decide +kernel
theorem dX9_doesOne_261 : decode cX9_doesOne 261 = .ok (.getfield 32, 3) := by decide +kernel
theorem dX9_doesOne_264 : decode cX9_doesOne 264 = .ok (.iconst 1, 1) := by decide +kernel
theorem dX9_doesOne_265 : decode cX9_doesOne 265 = .ok (.iaload, 1) := by decide +kernel
theorem dX9_doesOne_266 : decode cX9_doesOne 266 = .ok (.aload_n 0, 1) := by decide +kernel
theorem dX9_doesOne_267 : decode cX9_doesOne 267 = .ok (.getfield 32, 3) := by decide +kernel
theorem dX9_doesOne_270 : decode cX9_doesOne 270 = .ok (.iconst 2, 1) := by decide +kernel
theorem dX9_doesOne_271 : decode cX9_doesOne 271 = .ok (.iaload, 1) := by decide +kernel
theorem dX9_doesOne_272 : decode cX9_doesOne 272 = .ok (.aload_n 0, 1) := by decide +kernel
theorem dX9_doesOne_273 : decode cX9_doesOne 273 = .ok (.getfield 32, 3) := by decide +kernel
theorem dX9_doesOne_276 : decode cX9_doesOne 276 = .ok (.iconst 3, 1) := by decide +kernel
theorem dX9_doesOne_277 : decode cX9_doesOne 277 = .ok (.iaload, 1) := by decide +kernel
theorem dX9_doesOne_278 : decode cX9_doesOne 278 = .ok (.aload_n 0, 1) := by decide +kernel
theorem dX9_doesOne_279 : decode cX9_doesOne 279 = .ok (.getfield 32, 3) := by decide +kernel
theorem dX9_doesOne_282 : decode cX9_doesOne 282 = .ok (.iconst 4, 1) := by decide +kernel
theorem dX9_doesOne_283 : decode cX9_doesOne 283 = .ok (.iaload, 1) := by decide +kernel
theorem dX9_doesOne_284 : decode cX9_doesOne 284 = .ok (.invokevirtual 180, 3) := by decide +kernel
theorem dX9_doesOne_287 : decode cX9_doesOne 287 = .ok (.ireturn, 1) := by decide +kernel
theorem dX9_doesOne_288 : decode cX9_doesOne 288 = .ok (.aload_n 0, 1) := by decide +kernel
theorem dX9_doesOne_289 : decode cX9_doesOne 289 = .ok (.iload_n 2, 1) := by decide +kernel
theorem dX9_doesOne_290 : decode cX9_doesOne 290 = .ok (.aload_n 0, 1) := by decide +kernel
theorem dX9_doesOne_291 : decode cX9_doesOne 291 = .ok (.getfield 32, 3) := by decide +kernel
theorem dX9_doesOne_294 : decode cX9_doesOne 294 = .ok (.iconst 1, 1) := by decide +kernel
theorem dX9_doesOne_295 : decode cX9_doesOne 295 = .ok (.iaload, 1) := by decide +kernel
theorem dX9_doesOne_296 : decode cX9_doesOne 296 = .ok (.aload_n 0, 1) := by decide +kernel
theorem dX9_doesOne_297 : decode cX9_doesOne 297 = .ok (.getfield 32, 3) := by decide +kernel
theorem dX9_doesOne_300 : decode cX9_doesOne 300 = .ok (.iconst 2, 1) := by decide +kernel
theorem dX9_doesOne_301 : decode cX9_doesOne 301 = .ok (.iaload, 1) := by decide +kernel
theorem dX9_doesOne_302 : decode cX9_doesOne 302 = .ok (.aload_n 0, 1) := by decide +kernel
theorem dX9_doesOne_303 : decode cX9_doesOne 303 = .ok (.getfield 32, 3) := by decide +kernel
theorem dX9_doesOne_306 : decode cX9_doesOne 306 = .ok (.iconst 3, 1) := by decide +kernel
theorem dX9_doesOne_307 : decode cX9_doesOne 307 = .ok (.iaload, 1) := by decide +kernel
theorem dX9_doesOne_308 : decode cX9_doesOne 308 = .ok (.invokevirtual 117, 3) := by decide +kernel
theorem dX9_doesOne_311 : decode cX9_doesOne 311 = .ok (.iconst 0, 1) := by decide +kernel
theorem dX9_doesOne_312 : decode cX9_doesOne 312 = .ok (.ireturn, 1) := by decide +kernel
theorem dX9_doesOne_313 : decode cX9_doesOne 313 = .ok (.iconst 0, 1) := by decide +kernel
theorem dX9_doesOne_314 : decode cX9_doesOne 314 = .ok (.aload_n 0, 1) := by decide +kernel
theorem dX9_doesOne_315 : decode cX9_doesOne 315 = .ok (.invokevirtual 121, 3) := by decide +kernel
theorem dX9_doesOne_318 : decode cX9_doesOne 318 = .ok (.imul, 1) := by decide +kernel
theorem dX9_doesOne_319 : decode cX9_doesOne 319 = .ok (.ireturn, 1) := by decide +kernel
theorem dX9_goesThrough_0 : decode cX9_goesThrough 0 = .ok (.iconst 0, 1) := by decide +kernel
theorem dX9_goesThrough_1 : decode cX9_goesThrough 1 = .ok (.istore_n 2, 1) := by decide +kernel
theorem dX9_goesThrough_2 : decode cX9_goesThrough 2 = .ok (.aload_n 0, 1) := by decide +kernel
theorem dX9_goesThrough_3 : decode cX9_goesThrough 3 = .ok (.getfield 7, 3) := by decide +kernel
theorem dX9_goesThrough_6 : decode cX9_goesThrough 6 = .ok (.bipush 96, 2) := by decide +kernel
theorem dX9_goesThrough_8 : decode cX9_goesThrough 8 = .ok (.iaload, 1) := by decide +kernel
theorem dX9_goesThrough_9 : decode cX9_goesThrough 9 = .ok (.istore_n 3, 1) := by decide +kernel
theorem dX9_goesThrough_10 : decode cX9_goesThrough 10 = .ok (.iconst 1, 1) := by decide +kernel
theorem dX9_goesThrough_11 : decode cX9_goesThrough 11 = .ok (.istore 4, 2) := by decide +kernel
theorem dX9_goesThrough_13 : decode cX9_goesThrough 13 = .ok (.aload_n 0, 1) := by decide +kernel
theorem dX9_goesThrough_14 : decode cX9_goesThrough 14 = .ok (.iconst 0, 1) := by decide +kernel
theorem dX9_goesThrough_15 : decode cX9_goesThrough 15 = .ok (.putfield 216, 3) := by decide +kernel
theorem dX9_goesThrough_18 : decode cX9_goesThrough 18 = .ok (.iload 4, 2) := by decide +kernel
theorem dX9_goesThrough_20 : decode cX9_goesThrough 20 = .ok (.ifCond .eq 86, 3) := by decide +kernel
theorem dX9_goesThrough_23 : decode cX9_goesThrough 23 = .ok (.aload_n 0, 1) := by decide +kernel
theorem dX9_goesThrough_24 : decode cX9_goesThrough 24 = .ok (.iload_n 3, 1) := by decide +kernel
theorem dX9_goesThrough_25 : decode cX9_goesThrough 25 = .ok (.invokevirtual 243, 3) := by decide +kernel
theorem dX9_goesThrough_28 : decode cX9_goesThrough 28 = .ok (.istore 5, 2) := by decide +kernel
theorem dX9_goesThrough_30 : decode cX9_goesThrough 30 = .ok (.iload 5, 2) := by decide +kernel
theorem dX9_goesThrough_32 : decode cX9_goesThrough 32 = .ok (.iconst (-1), 1) := by decide +kernel
theorem dX9_goesThrough_33 : decode cX9_goesThrough 33 = .ok (.if_icmp .ne 5, 3) := by decide +kernel
theorem dX9_goesThrough_36 : decode cX9_goesThrough 36 = .ok (.iconst (-1), 1) := by decide +kernel
theorem dX9_goesThrough_37 : decode cX9_goesThrough 37 = .ok (.ireturn, 1) := by decide +kernel
theorem dX9_goesThrough_38 : decode cX9_goesThrough 38 = .ok (.iload 5, 2) := by decide +kernel
theorem dX9_goesThrough_40 : decode cX9_goesThrough 40 = .ok (.bipush 107, 2) := by decide +kernel
theorem dX9_goesThrough_42 : decode cX9_goesThrough 42 = .ok (.if_icmp .ne 7, 3) := by decide +kernel
theorem dX9_goesThrough_45 : decode cX9_goesThrough 45 = .ok (.iconst 0, 1) := by decide +kernel
theorem dX9_goesThrough_46 : decode cX9_goesThrough 46 = .ok (.goto 17, 3) := by decide +kernel
theorem dX9_goesThrough_49 : decode cX9_goesThrough 49 = .ok (.iload 5, 2) := by decide +kernel
theorem dX9_goesThrough_51 : decode cX9_goesThrough 51 = .ok (.bipush 111, 2) := by decide +kernel
theorem dX9_goesThrough_53 : decode cX9_goesThrough 53 = .ok (.if_icmp .ne 9, 3) := by decide +kernel
theorem dX9_goesThrough_56 : decode cX9_goesThrough 56 = .ok (.iload_n 3, 1) := by decide +kernel
theorem dX9_goesThrough_57 : decode cX9_goesThrough 57 = .ok (.iconst 1, 1) := by decide +kernel
theorem dX9_goesThrough_58 : decode cX9_goesThrough 58 = .ok (.iadd, 1) := by decide +kernel
theorem dX9_goesThrough_59 : decode cX9_goesThrough 59 = .ok (.goto 4, 3) := by decide +kernel
theorem dX9_goesThrough_62 : decode cX9_goesThrough 62 = .ok (.iload_n 3, 1) := by decide +kernel
theorem dX9_goesThrough_63 : decode cX9_goesThrough 63 = .ok (.istore_n 3, 1) := by decide +kernel
theorem dX9_goesThrough_64 : decode cX9_goesThrough 64 = .ok (.iload_n 2, 1) := by decide +kernel
theorem dX9_goesThrough_65 : decode cX9_goesThrough 65 = .ok (.iload_n 1, 1) := by decide +kernel
theorem dX9_goesThrough_66 : decode cX9_goesThrough 66 = .ok (.ifCond .eq 12, 3) := by decide +kernel
theorem dX9_goesThrough_69 : decode cX9_goesThrough 69 = .ok (.aload_n 0, 1) := by decide +kernel
theorem dX9_goesThrough_70 : decode cX9_goesThrough 70 = .ok (.iload 5, 2) := by decide +kernel
theorem dX9_goesThrough_72 : decode cX9_goesThrough 72 = .ok (.invokevirtual 246, 3) := by decide +kernel
theorem dX9_goesThrough_75 : decode cX9_goesThrough 75 = .ok (.goto 4, 3) := by decide +kernel
theorem dX9_goesThrough_78 : decode cX9_goesThrough 78 = .ok (.iconst 0, 1) := by decide +kernel
theorem dX9_goesThrough_79 : decode cX9_goesThrough 79 = .ok (.iadd, 1) := by decide +kernel
theorem dX9_goesThrough_80 : decode cX9_goesThrough 80 = .ok (.istore_n 2, 1) := by decide +kernel
theorem dX9_goesThrough_81 : decode cX9_goesThrough 81 = .ok (.aload_n 0, 1) := by decide +kernel
theorem dX9_goesThrough_82 : decode cX9_goesThrough 82 = .ok (.invokevirtual 222, 3) := by decide +kernel
theorem dX9_goesThrough_85 : decode cX9_goesThrough 85 = .ok (.aload_n 0, 1) := by decide +kernel
theorem dX9_goesThrough_86 : decode cX9_goesThrough 86 = .ok (.getfield 216, 3) := by decide +kernel
theorem dX9_goesThrough_89 : decode cX9_goesThrough 89 = .ok (.aload_n 0, 1) := by decide +kernel
theorem dX9_goesThrough_90 : decode cX9_goesThrough 90 = .ok (.getfield 213, 3) := by decide +kernel
theorem dX9_goesThrough_93 : decode cX9_goesThrough 93 = .ok (.if_icmp .ge 7, 3) := by decide +kernel
theorem dX9_goesThrough_96 : decode cX9_goesThrough 96 = .ok (.iconst 1, 1) := by decide +kernel
theorem dX9_goesThrough_97 : decode cX9_goesThrough 97 = .ok (.goto 4, 3) := by decide +kernel
theorem dX9_goesThrough_100 : decode cX9_goesThrough 100 = .ok (.iconst 0, 1) := by decide +kernel
theorem dX9_goesThrough_101 : decode cX9_goesThrough 101 = .ok (.istore 4, 2) := by decide +kernel
theorem dX9_goesThrough_103 : decode cX9_goesThrough 103 = .ok (.goto (-85), 3) := by decide +kernel
theorem dX9_goesThrough_106 : decode cX9_goesThrough 106 = .ok (.iload_n 2, 1) := by decide +kernel
theorem dX9_goesThrough_107 : decode cX9_goesThrough 107 = .ok (.ireturn, 1) := by decide +kernel
theorem dX9_does_0 : decode cX9_does 0 = .ok (.aload_n 0, 1) := by decide +kernel
theorem dX9_does_1 : decode cX9_does 1 = .ok (.iconst 0, 1) := by decide +kernel
theorem dX9_does_2 : decode cX9_does 2 = .ok (.invokevirtual 249, 3) := by decide +kernel
theorem dX9_does_5 : decode cX9_does 5 = .ok (.iconst (-1), 1) := by decide +kernel
theorem dX9_does_6 : decode cX9_does 6 = .ok (.if_icmp .ne 11, 3) := by decide +kernel
theorem dX9_does_9 : decode cX9_does 9 = .ok (.bipush (-10), 2) := by decide +kernel
theorem dX9_does_11 : decode cX9_does 11 = .ok (.aload_n 0, 1) := by decide +kernel
theorem dX9_does_12 : decode cX9_does 12 = .ok (.getfield 216, 3) := by decide +kernel
theorem dX9_does_15 : decode cX9_does 15 = .ok (.isub, 1) := by decide +kernel
theorem dX9_does_16 : decode cX9_does 16 = .ok (.ireturn, 1) := by decide +kernel
theorem dX9_does_17 : decode cX9_does 17 = .ok (.aload_n 0, 1) := by decide +kernel
theorem dX9_does_18 : decode cX9_does 18 = .ok (.invokevirtual 87, 3) := by decide +kernel
theorem dX9_does_21 : decode cX9_does 21 = .ok (.aload_n 0, 1) := by decide +kernel
theorem dX9_does_22 : decode cX9_does 22 = .ok (.iconst 1, 1) := by decide +kernel
theorem dX9_does_23 : decode cX9_does 23 = .ok (.invokevirtual 249, 3) := by decide +kernel
theorem dX9_does_26 : decode cX9_does 26 = .ok (.ireturn, 1) := by decide +kernel
theorem dX9_back_0 : decode cX9_back 0 = .ok (.aload_n 0, 1) := by decide +kernel
theorem dX9_back_1 : decode cX9_back 1 = .ok (.getfield 53, 3) := by decide +kernel
theorem dX9_back_4 : decode cX9_back 4 = .ok (.ifCond .ne 8, 3) := by decide +kernel
theorem dX9_back_7 : decode cX9_back 7 = .ok (.aload_n 0, 1) := by decide +kernel
theorem dX9_back_8 : decode cX9_back 8 = .ok (.invokevirtual 169, 3) := by decide +kernel
theorem dX9_back_11 : decode cX9_back 11 = .ok (.ireturn, 1) := by decide +kernel
theorem dX9_back_12 : decode cX9_back 12 = .ok (.aload_n 0, 1) := by decide +kernel
theorem dX9_back_13 : decode cX9_back 13 = .ok (.dup, 1) := by decide +kernel
theorem dX9_back_14 : decode cX9_back 14 = .ok (.getfield 53, 3) := by decide +kernel
theorem dX9_back_17 : decode cX9_back 17 = .ok (.iconst 1, 1) := by decide +kernel
theorem dX9_back_18 : decode cX9_back 18 = .ok (.isub, 1) := by decide +kernel
theorem dX9_back_19 : decode cX9_back 19 = .ok (.putfield 53, 3) := by decide +kernel
theorem dX9_back_22 : decode cX9_back 22 = .ok (.iconst 0, 1) := by decide +kernel
theorem dX9_back_23 : decode cX9_back 23 = .ok (.istore_n 1, 1) := by decide +kernel
theorem dX9_back_24 : decode cX9_back 24 = .ok (.iload_n 1, 1) := by decide +kernel
theorem dX9_back_25 : decode cX9_back 25 = .ok (.bipush 97, 2) := by decide +kernel
theorem dX9_back_27 : decode cX9_back 27 = .ok (.if_icmp .ge 29, 3) := by decide +kernel
theorem dX9_back_30 : decode cX9_back 30 = .ok (.aload_n 0, 1) := by decide +kernel
theorem dX9_back_31 : decode cX9_back 31 = .ok (.getfield 7, 3) := by decide +kernel
theorem dX9_back_34 : decode cX9_back 34 = .ok (.iload_n 1, 1) := by decide +kernel
theorem dX9_back_35 : decode cX9_back 35 = .ok (.aload_n 0, 1) := by decide +kernel
theorem dX9_back_36 : decode cX9_back 36 = .ok (.getfield 13, 3) := by decide +kernel
theorem dX9_back_39 : decode cX9_back 39 = .ok (.bipush 97, 2) := by decide +kernel
theorem dX9_back_41 : decode cX9_back 41 = .ok (.aload_n 0, 1) := by decide +kernel
theorem dX9_back_42 : decode cX9_back 42 = .ok (.getfield 53, 3) := by decide +kernel
theorem dX9_back_45 : decode cX9_back 45 = .ok (.imul, 1) := by decide +kernel
theorem dX9_back_46 : decode cX9_back 46 = .ok (.iload_n 1, 1) := by decide +kernel
theorem dX9_back_47 : decode cX9_back 47 = .ok (.iadd, 1) := by decide +kernel
theorem dX9_back_48 : decode cX9_back 48 = .ok (.iaload, 1) := by decide +kernel
theorem dX9_back_49 : decode cX9_back 49 = .ok (.iastore, 1) := by decide +kernel
theorem dX9_back_50 : decode cX9_back 50 = .ok (.iinc 1 1, 3) := by decide +kernel
theorem dX9_back_53 : decode cX9_back 53 = .ok (.goto (-29), 3) := by decide +kernel
theorem dX9_back_56 : decode cX9_back 56 = .ok (.aload_n 0, 1) := by decide +kernel
theorem dX9_back_57 : decode cX9_back 57 = .ok (.getfield 53, 3) := by decide +kernel
theorem dX9_back_60 : decode cX9_back 60 = .ok (.ireturn, 1) := by decide +kernel
theorem dX9_toldOf_0 : decode cX9_toldOf 0 = .ok (.iload_n 1, 1) := by decide +kernel
theorem dX9_toldOf_1 : decode cX9_toldOf 1 = .ok (.iconst 3, 1) := by decide +kernel
theorem dX9_toldOf_2 : decode cX9_toldOf 2 = .ok (.if_icmp .ge 12, 3) := by decide +kernel
theorem dX9_toldOf_5 : decode cX9_toldOf 5 = .ok (.aload_n 0, 1) := by decide +kernel
theorem dX9_toldOf_6 : decode cX9_toldOf 6 = .ok (.getfield 16, 3) := by decide +kernel
theorem dX9_toldOf_9 : decode cX9_toldOf 9 = .ok (.iload_n 1, 1) := by decide +kernel
theorem dX9_toldOf_10 : decode cX9_toldOf 10 = .ok (.iaload, 1) := by decide +kernel
theorem dX9_toldOf_11 : decode cX9_toldOf 11 = .ok (.goto 34, 3) := by decide +kernel
theorem dX9_toldOf_14 : decode cX9_toldOf 14 = .ok (.iload_n 1, 1) := by decide +kernel
theorem dX9_toldOf_15 : decode cX9_toldOf 15 = .ok (.iconst 3, 1) := by decide +kernel
theorem dX9_toldOf_16 : decode cX9_toldOf 16 = .ok (.if_icmp .ne 10, 3) := by decide +kernel
theorem dX9_toldOf_19 : decode cX9_toldOf 19 = .ok (.aload_n 0, 1) := by decide +kernel
theorem dX9_toldOf_20 : decode cX9_toldOf 20 = .ok (.getfield 213, 3) := by decide +kernel
theorem dX9_toldOf_23 : decode cX9_toldOf 23 = .ok (.goto 22, 3) := by decide +kernel
theorem dX9_toldOf_26 : decode cX9_toldOf 26 = .ok (.iload_n 1, 1) := by decide +kernel
theorem dX9_toldOf_27 : decode cX9_toldOf 27 = .ok (.iconst 4, 1) := by decide +kernel
theorem dX9_toldOf_28 : decode cX9_toldOf 28 = .ok (.if_icmp .ne 13, 3) := by decide +kernel
theorem dX9_toldOf_31 : decode cX9_toldOf 31 = .ok (.aload_n 0, 1) := by decide +kernel
theorem dX9_toldOf_32 : decode cX9_toldOf 32 = .ok (.getfield 7, 3) := by decide +kernel
theorem dX9_toldOf_35 : decode cX9_toldOf 35 = .ok (.bipush 96, 2) := by decide +kernel
theorem dX9_toldOf_37 : decode cX9_toldOf 37 = .ok (.iaload, 1) := by decide +kernel
theorem dX9_toldOf_38 : decode cX9_toldOf 38 = .ok (.goto 7, 3) := by decide +kernel
theorem dX9_toldOf_41 : decode cX9_toldOf 41 = .ok (.aload_n 0, 1) := by decide +kernel
theorem dX9_toldOf_42 : decode cX9_toldOf 42 = .ok (.getfield 53, 3) := by decide +kernel
theorem dX9_toldOf_45 : decode cX9_toldOf 45 = .ok (.ireturn, 1) := by decide +kernel
theorem dX9_told_0 : decode cX9_told 0 = .ok (.iload_n 1, 1) := by decide +kernel
theorem dX9_told_1 : decode cX9_told 1 = .ok (.i2l, 1) := by decide +kernel
theorem dX9_told_2 : decode cX9_told 2 = .ok (.lconst 0, 1) := by decide +kernel
theorem dX9_told_3 : decode cX9_told 3 = .ok (.ldc2_w 253, 3) := by decide +kernel
theorem dX9_told_6 : decode cX9_told 6 = .ok (.invokestatic 37, 3) := by decide +kernel
theorem dX9_told_9 : decode cX9_told 9 = .ok (.ifCond .eq 11, 3) := by decide +kernel
theorem dX9_told_12 : decode cX9_told 12 = .ok (.aload_n 0, 1) := by decide +kernel
theorem dX9_told_13 : decode cX9_told 13 = .ok (.iload_n 1, 1) := by decide +kernel
theorem dX9_told_14 : decode cX9_told 14 = .ok (.invokevirtual 255, 3) := by decide +kernel
theorem dX9_told_17 : decode cX9_told 17 = .ok (.goto 9, 3) := by decide +kernel
theorem dX9_told_20 : decode cX9_told 20 = .ok (.aload_n 0, 1) := by decide +kernel
theorem dX9_told_21 : decode cX9_told 21 = .ok (.bipush (-2), 2) := by decide +kernel
theorem dX9_told_23 : decode cX9_told 23 = .ok (.invokevirtual 83, 3) := by decide +kernel
theorem dX9_told_26 : decode cX9_told 26 = .ok (.ireturn, 1) := by decide +kernel
theorem dX9_digest_0 : decode cX9_digest 0 = .ok (.ldc2_w 258, 3) := by decide +kernel
theorem dX9_digest_3 : decode cX9_digest 3 = .ok (.lstore_n 1, 1) := by decide +kernel
theorem dX9_digest_4 : decode cX9_digest 4 = .ok (.iconst 0, 1) := by decide +kernel
theorem dX9_digest_5 : decode cX9_digest 5 = .ok (.istore_n 3, 1) := by decide +kernel
theorem dX9_digest_6 : decode cX9_digest 6 = .ok (.iload_n 3, 1) := by decide +kernel
theorem dX9_digest_7 : decode cX9_digest 7 = .ok (.bipush 6, 2) := by decide +kernel
theorem dX9_digest_9 : decode cX9_digest 9 = .ok (.if_icmp .ge 22, 3) := by decide +kernel
theorem dX9_digest_12 : decode cX9_digest 12 = .ok (.ldc2_w 49, 3) := by decide +kernel
theorem dX9_digest_15 : decode cX9_digest 15 = .ok (.lload_n 1, 1) := by decide +kernel
theorem dX9_digest_16 : decode cX9_digest 16 = .ok (.lmul, 1) := by decide +kernel
theorem dX9_digest_17 : decode cX9_digest 17 = .ok (.aload_n 0, 1) := by decide +kernel
theorem dX9_digest_18 : decode cX9_digest 18 = .ok (.iload_n 3, 1) := by decide +kernel
theorem dX9_digest_19 : decode cX9_digest 19 = .ok (.invokevirtual 255, 3) := by decide +kernel
theorem dX9_digest_22 : decode cX9_digest 22 = .ok (.i2l, 1) := by decide +kernel
theorem dX9_digest_23 : decode cX9_digest 23 = .ok (.ladd, 1) := by decide +kernel
theorem dX9_digest_24 : decode cX9_digest 24 = .ok (.lstore_n 1, 1) := by decide +kernel
theorem dX9_digest_25 : decode cX9_digest 25 = .ok (.iinc 3 1, 3) := by decide +kernel
theorem dX9_digest_28 : decode cX9_digest 28 = .ok (.goto (-22), 3) := by decide +kernel
theorem dX9_digest_31 : decode cX9_digest 31 = .ok (.iconst 0, 1) := by decide +kernel
theorem dX9_digest_32 : decode cX9_digest 32 = .ok (.istore_n 3, 1) := by decide +kernel
theorem dX9_digest_33 : decode cX9_digest 33 = .ok (.iload_n 3, 1) := by decide +kernel
theorem dX9_digest_34 : decode cX9_digest 34 = .ok (.bipush 80, 2) := by decide +kernel
theorem dX9_digest_36 : decode cX9_digest 36 = .ok (.iconst 4, 1) := by decide +kernel
theorem dX9_digest_37 : decode cX9_digest 37 = .ok (.aload_n 0, 1) := by decide +kernel
theorem dX9_digest_38 : decode cX9_digest 38 = .ok (.getfield 7, 3) := by decide +kernel
theorem dX9_digest_41 : decode cX9_digest 41 = .ok (.bipush 96, 2) := by decide +kernel
theorem dX9_digest_43 : decode cX9_digest 43 = .ok (.iaload, 1) := by decide +kernel
theorem dX9_digest_44 : decode cX9_digest 44 = .ok (.imul, 1) := by decide +kernel
theorem dX9_digest_45 : decode cX9_digest 45 = .ok (.iadd, 1) := by decide +kernel
theorem dX9_digest_46 : decode cX9_digest 46 = .ok (.if_icmp .ge 23, 3) := by decide +kernel
theorem dX9_digest_49 : decode cX9_digest 49 = .ok (.ldc2_w 49, 3) := by decide +kernel
theorem dX9_digest_52 : decode cX9_digest 52 = .ok (.lload_n 1, 1) := by decide +kernel
theorem dX9_digest_53 : decode cX9_digest 53 = .ok (.lmul, 1) := by decide +kernel
theorem dX9_digest_54 : decode cX9_digest 54 = .ok (.aload_n 0, 1) := by decide +kernel
theorem dX9_digest_55 : decode cX9_digest 55 = .ok (.getfield 7, 3) := by decide +kernel
theorem dX9_digest_58 : decode cX9_digest 58 = .ok (.iload_n 3, 1) := by decide +kernel
theorem dX9_digest_59 : decode cX9_digest 59 = .ok (.iaload, 1) := by decide +kernel
theorem dX9_digest_60 : decode cX9_digest 60 = .ok (.i2l, 1) := by decide +kernel
theorem dX9_digest_61 : decode cX9_digest 61 = .ok (.ladd, 1) := by decide +kernel
theorem dX9_digest_62 : decode cX9_digest 62 = .ok (.lstore_n 1, 1) := by decide +kernel
theorem dX9_digest_63 : decode cX9_digest 63 = .ok (.iinc 3 1, 3) := by decide +kernel
theorem dX9_digest_66 : decode cX9_digest 66 = .ok (.goto (-33), 3) := by decide +kernel
theorem dX9_digest_69 : decode cX9_digest 69 = .ok (.lload_n 1, 1) := by decide +kernel
theorem dX9_digest_70 : decode cX9_digest 70 = .ok (.lreturn, 1) := by decide +kernel
end
section
theorem dL_law_0 : decode cL_law 0 = .ok (.new 7, 3) := by decide +kernel
theorem dL_law_3 : decode cL_law 3 = .ok (.dup, 1) := by decide +kernel
theorem dL_law_4 : decode cL_law 4 = .ok (.invokespecial 9, 3) := by decide +kernel
theorem dL_law_7 : decode cL_law 7 = .ok (.astore_n 1, 1) := by decide +kernel
theorem dL_law_8 : decode cL_law 8 = .ok (.new 10, 3) := by decide +kernel
theorem dL_law_11 : decode cL_law 11 = .ok (.dup, 1) := by decide +kernel
theorem dL_law_12 : decode cL_law 12 = .ok (.invokespecial 12, 3) := by decide +kernel
theorem dL_law_15 : decode cL_law 15 = .ok (.astore_n 2, 1) := by decide +kernel
theorem dL_law_16 : decode cL_law 16 = .ok (.iconst 0, 1) := by decide +kernel
theorem dL_law_17 : decode cL_law 17 = .ok (.istore_n 3, 1) := by decide +kernel
theorem dL_law_18 : decode cL_law 18 = .ok (.iload_n 3, 1) := by decide +kernel
theorem dL_law_19 : decode cL_law 19 = .ok (.aload_n 0, 1) := by decide +kernel
theorem dL_law_20 : decode cL_law 20 = .ok (.arraylength, 1) := by decide +kernel
theorem dL_law_21 : decode cL_law 21 = .ok (.bipush 10, 2) := by decide +kernel
theorem dL_law_23 : decode cL_law 23 = .ok (.isub, 1) := by decide +kernel
theorem dL_law_24 : decode cL_law 24 = .ok (.if_icmp .gt 1217, 3) := by decide +kernel
theorem dL_law_27 : decode cL_law 27 = .ok (.aload_n 0, 1) := by decide +kernel
theorem dL_law_28 : decode cL_law 28 = .ok (.iload_n 3, 1) := by decide +kernel
theorem dL_law_29 : decode cL_law 29 = .ok (.iaload, 1) := by decide +kernel
theorem dL_law_30 : decode cL_law 30 = .ok (.bipush 31, 2) := by decide +kernel
theorem dL_law_32 : decode cL_law 32 = .ok (.iand, 1) := by decide +kernel
theorem dL_law_33 : decode cL_law 33 = .ok (.tableswitch 1202 0 25 #[119, 172, 205, 238, 291, 304, 415, 490, 533, 608, 671, 714, 747, 790, 833, 866, 899, 962, 995, 1070, 1103, 1126, 1139, 1152, 1165, 1188], 119) := by decide +kernel
theorem dL_law_152 : decode cL_law 152 = .ok (.aload_n 1, 1) := by decide +kernel
theorem dL_law_153 : decode cL_law 153 = .ok (.aload_n 0, 1) := by decide +kernel
theorem dL_law_154 : decode cL_law 154 = .ok (.iload_n 3, 1) := by decide +kernel
theorem dL_law_155 : decode cL_law 155 = .ok (.iconst 1, 1) := by decide +kernel
theorem dL_law_156 : decode cL_law 156 = .ok (.iadd, 1) := by decide +kernel
theorem dL_law_157 : decode cL_law 157 = .ok (.iaload, 1) := by decide +kernel
theorem dL_law_158 : decode cL_law 158 = .ok (.aload_n 0, 1) := by decide +kernel
theorem dL_law_159 : decode cL_law 159 = .ok (.iload_n 3, 1) := by decide +kernel
theorem dL_law_160 : decode cL_law 160 = .ok (.iconst 2, 1) := by decide +kernel
theorem dL_law_161 : decode cL_law 161 = .ok (.iadd, 1) := by decide +kernel
theorem dL_law_162 : decode cL_law 162 = .ok (.iaload, 1) := by decide +kernel
theorem dL_law_163 : decode cL_law 163 = .ok (.aload_n 0, 1) := by decide +kernel
theorem dL_law_164 : decode cL_law 164 = .ok (.iload_n 3, 1) := by decide +kernel
theorem dL_law_165 : decode cL_law 165 = .ok (.iconst 3, 1) := by decide +kernel
theorem dL_law_166 : decode cL_law 166 = .ok (.iadd, 1) := by decide +kernel
theorem dL_law_167 : decode cL_law 167 = .ok (.iaload, 1) := by decide +kernel
theorem dL_law_168 : decode cL_law 168 = .ok (.aload_n 0, 1) := by decide +kernel
theorem dL_law_169 : decode cL_law 169 = .ok (.iload_n 3, 1) := by decide +kernel
theorem dL_law_170 : decode cL_law 170 = .ok (.iconst 4, 1) := by decide +kernel
theorem dL_law_171 : decode cL_law 171 = .ok (.iadd, 1) := by decide +kernel
theorem dL_law_172 : decode cL_law 172 = .ok (.iaload, 1) := by decide +kernel
theorem dL_law_173 : decode cL_law 173 = .ok (.invokevirtual 13, 3) := by decide +kernel
theorem dL_law_176 : decode cL_law 176 = .ok (.aload_n 2, 1) := by decide +kernel
theorem dL_law_177 : decode cL_law 177 = .ok (.aload_n 0, 1) := by decide +kernel
theorem dL_law_178 : decode cL_law 178 = .ok (.iload_n 3, 1) := by decide +kernel
theorem dL_law_179 : decode cL_law 179 = .ok (.iconst 1, 1) := by decide +kernel
theorem dL_law_180 : decode cL_law 180 = .ok (.iadd, 1) := by decide +kernel
theorem dL_law_181 : decode cL_law 181 = .ok (.iaload, 1) := by decide +kernel
theorem dL_law_182 : decode cL_law 182 = .ok (.aload_n 0, 1) := by decide +kernel
theorem dL_law_183 : decode cL_law 183 = .ok (.iload_n 3, 1) := by decide +kernel
theorem dL_law_184 : decode cL_law 184 = .ok (.iconst 2, 1) := by decide +kernel
theorem dL_law_185 : decode cL_law 185 = .ok (.iadd, 1) := by decide +kernel
theorem dL_law_186 : decode cL_law 186 = .ok (.iaload, 1) := by decide +kernel
theorem dL_law_187 : decode cL_law 187 = .ok (.aload_n 0, 1) := by decide +kernel
theorem dL_law_188 : decode cL_law 188 = .ok (.iload_n 3, 1) := by decide +kernel
theorem dL_law_189 : decode cL_law 189 = .ok (.iconst 3, 1) := by decide +kernel
theorem dL_law_190 : decode cL_law 190 = .ok (.iadd, 1) := by decide +kernel
theorem dL_law_191 : decode cL_law 191 = .ok (.iaload, 1) := by decide +kernel
theorem dL_law_192 : decode cL_law 192 = .ok (.aload_n 0, 1) := by decide +kernel
theorem dL_law_193 : decode cL_law 193 = .ok (.iload_n 3, 1) := by decide +kernel
theorem dL_law_194 : decode cL_law 194 = .ok (.iconst 4, 1) := by decide +kernel
theorem dL_law_195 : decode cL_law 195 = .ok (.iadd, 1) := by decide +kernel
theorem dL_law_196 : decode cL_law 196 = .ok (.iaload, 1) := by decide +kernel
theorem dL_law_197 : decode cL_law 197 = .ok (.invokevirtual 17, 3) := by decide +kernel
theorem dL_law_200 : decode cL_law 200 = .ok (.if_icmp .eq 1035, 3) := by decide +kernel
theorem dL_law_203 : decode cL_law 203 = .ok (.iconst 0, 1) := by decide +kernel
theorem dL_law_204 : decode cL_law 204 = .ok (.ireturn, 1) := by decide +kernel
theorem dL_law_205 : decode cL_law 205 = .ok (.aload_n 1, 1) := by decide +kernel
theorem dL_law_206 : decode cL_law 206 = .ok (.aload_n 0, 1) := by decide +kernel
theorem dL_law_207 : decode cL_law 207 = .ok (.iload_n 3, 1) := by decide +kernel
theorem dL_law_208 : decode cL_law 208 = .ok (.iconst 1, 1) := by decide +kernel
theorem dL_law_209 : decode cL_law 209 = .ok (.iadd, 1) := by decide +kernel
theorem dL_law_210 : decode cL_law 210 = .ok (.iaload, 1) := by decide +kernel
theorem dL_law_211 : decode cL_law 211 = .ok (.aload_n 0, 1) := by decide +kernel
theorem dL_law_212 : decode cL_law 212 = .ok (.iload_n 3, 1) := by decide +kernel
theorem dL_law_213 : decode cL_law 213 = .ok (.iconst 2, 1) := by decide +kernel
theorem dL_law_214 : decode cL_law 214 = .ok (.iadd, 1) := by decide +kernel
theorem dL_law_215 : decode cL_law 215 = .ok (.iaload, 1) := by decide +kernel
theorem dL_law_216 : decode cL_law 216 = .ok (.invokevirtual 18, 3) := by decide +kernel
theorem dL_law_219 : decode cL_law 219 = .ok (.aload_n 2, 1) := by decide +kernel
theorem dL_law_220 : decode cL_law 220 = .ok (.aload_n 0, 1) := by decide +kernel
theorem dL_law_221 : decode cL_law 221 = .ok (.iload_n 3, 1) := by decide +kernel
theorem dL_law_222 : decode cL_law 222 = .ok (.iconst 1, 1) := by decide +kernel
theorem dL_law_223 : decode cL_law 223 = .ok (.iadd, 1) := by decide +kernel
theorem dL_law_224 : decode cL_law 224 = .ok (.iaload, 1) := by decide +kernel
theorem dL_law_225 : decode cL_law 225 = .ok (.aload_n 0, 1) := by decide +kernel
theorem dL_law_226 : decode cL_law 226 = .ok (.iload_n 3, 1) := by decide +kernel
theorem dL_law_227 : decode cL_law 227 = .ok (.iconst 2, 1) := by decide +kernel
theorem dL_law_228 : decode cL_law 228 = .ok (.iadd, 1) := by decide +kernel
theorem dL_law_229 : decode cL_law 229 = .ok (.iaload, 1) := by decide +kernel
theorem dL_law_230 : decode cL_law 230 = .ok (.invokevirtual 22, 3) := by decide +kernel
theorem dL_law_233 : decode cL_law 233 = .ok (.if_icmp .eq 1002, 3) := by decide +kernel
theorem dL_law_236 : decode cL_law 236 = .ok (.iconst 0, 1) := by decide +kernel
theorem dL_law_237 : decode cL_law 237 = .ok (.ireturn, 1) := by decide +kernel
theorem dL_law_238 : decode cL_law 238 = .ok (.aload_n 1, 1) := by decide +kernel
theorem dL_law_239 : decode cL_law 239 = .ok (.aload_n 0, 1) := by decide +kernel
theorem dL_law_240 : decode cL_law 240 = .ok (.iload_n 3, 1) := by decide +kernel
theorem dL_law_241 : decode cL_law 241 = .ok (.iconst 1, 1) := by decide +kernel
theorem dL_law_242 : decode cL_law 242 = .ok (.iadd, 1) := by decide +kernel
theorem dL_law_243 : decode cL_law 243 = .ok (.iaload, 1) := by decide +kernel
theorem dL_law_244 : decode cL_law 244 = .ok (.aload_n 0, 1) := by decide +kernel
theorem dL_law_245 : decode cL_law 245 = .ok (.iload_n 3, 1) := by decide +kernel
theorem dL_law_246 : decode cL_law 246 = .ok (.iconst 2, 1) := by decide +kernel
theorem dL_law_247 : decode cL_law 247 = .ok (.iadd, 1) := by decide +kernel
theorem dL_law_248 : decode cL_law 248 = .ok (.iaload, 1) := by decide +kernel
theorem dL_law_249 : decode cL_law 249 = .ok (.invokevirtual 23, 3) := by decide +kernel
theorem dL_law_252 : decode cL_law 252 = .ok (.aload_n 2, 1) := by decide +kernel
theorem dL_law_253 : decode cL_law 253 = .ok (.aload_n 0, 1) := by decide +kernel
theorem dL_law_254 : decode cL_law 254 = .ok (.iload_n 3, 1) := by decide +kernel
theorem dL_law_255 : decode cL_law 255 = .ok (.iconst 1, 1) := by decide +kernel
theorem dL_law_256 : decode cL_law 256 = .ok (.iadd, 1) := by decide +kernel
theorem dL_law_257 : decode cL_law 257 = .ok (.iaload, 1) := by decide +kernel
theorem dL_law_258 : decode cL_law 258 = .ok (.aload_n 0, 1) := by decide +kernel
theorem dL_law_259 : decode cL_law 259 = .ok (.iload_n 3, 1) := by decide +kernel
theorem dL_law_260 : decode cL_law 260 = .ok (.iconst 2, 1) := by decide +kernel
theorem dL_law_261 : decode cL_law 261 = .ok (.iadd, 1) := by decide +kernel
theorem dL_law_262 : decode cL_law 262 = .ok (.iaload, 1) := by decide +kernel
theorem dL_law_263 : decode cL_law 263 = .ok (.invokevirtual 26, 3) := by decide +kernel
theorem dL_law_266 : decode cL_law 266 = .ok (.if_icmp .eq 969, 3) := by decide +kernel
theorem dL_law_269 : decode cL_law 269 = .ok (.iconst 0, 1) := by decide +kernel
theorem dL_law_270 : decode cL_law 270 = .ok (.ireturn, 1) := by decide +kernel
theorem dL_law_271 : decode cL_law 271 = .ok (.aload_n 1, 1) := by decide +kernel
theorem dL_law_272 : decode cL_law 272 = .ok (.aload_n 0, 1) := by decide +kernel
theorem dL_law_273 : decode cL_law 273 = .ok (.iload_n 3, 1) := by decide +kernel
theorem dL_law_274 : decode cL_law 274 = .ok (.iconst 1, 1) := by decide +kernel
theorem dL_law_275 : decode cL_law 275 = .ok (.iadd, 1) := by decide +kernel
theorem dL_law_276 : decode cL_law 276 = .ok (.iaload, 1) := by decide +kernel
theorem dL_law_277 : decode cL_law 277 = .ok (.aload_n 0, 1) := by decide +kernel
theorem dL_law_278 : decode cL_law 278 = .ok (.iload_n 3, 1) := by decide +kernel
theorem dL_law_279 : decode cL_law 279 = .ok (.iconst 2, 1) := by decide +kernel
theorem dL_law_280 : decode cL_law 280 = .ok (.iadd, 1) := by decide +kernel
theorem dL_law_281 : decode cL_law 281 = .ok (.iaload, 1) := by decide +kernel
theorem dL_law_282 : decode cL_law 282 = .ok (.aload_n 0, 1) := by decide +kernel
theorem dL_law_283 : decode cL_law 283 = .ok (.iload_n 3, 1) := by decide +kernel
theorem dL_law_284 : decode cL_law 284 = .ok (.iconst 3, 1) := by decide +kernel
theorem dL_law_285 : decode cL_law 285 = .ok (.iadd, 1) := by decide +kernel
theorem dL_law_286 : decode cL_law 286 = .ok (.iaload, 1) := by decide +kernel
theorem dL_law_287 : decode cL_law 287 = .ok (.aload_n 0, 1) := by decide +kernel
theorem dL_law_288 : decode cL_law 288 = .ok (.iload_n 3, 1) := by decide +kernel
theorem dL_law_289 : decode cL_law 289 = .ok (.iconst 4, 1) := by decide +kernel
theorem dL_law_290 : decode cL_law 290 = .ok (.iadd, 1) := by decide +kernel
theorem dL_law_291 : decode cL_law 291 = .ok (.iaload, 1) := by decide +kernel
theorem dL_law_292 : decode cL_law 292 = .ok (.invokevirtual 27, 3) := by decide +kernel
theorem dL_law_295 : decode cL_law 295 = .ok (.aload_n 2, 1) := by decide +kernel
theorem dL_law_296 : decode cL_law 296 = .ok (.aload_n 0, 1) := by decide +kernel
theorem dL_law_297 : decode cL_law 297 = .ok (.iload_n 3, 1) := by decide +kernel
theorem dL_law_298 : decode cL_law 298 = .ok (.iconst 1, 1) := by decide +kernel
theorem dL_law_299 : decode cL_law 299 = .ok (.iadd, 1) := by decide +kernel
theorem dL_law_300 : decode cL_law 300 = .ok (.iaload, 1) := by decide +kernel
theorem dL_law_301 : decode cL_law 301 = .ok (.aload_n 0, 1) := by decide +kernel
theorem dL_law_302 : decode cL_law 302 = .ok (.iload_n 3, 1) := by decide +kernel
theorem dL_law_303 : decode cL_law 303 = .ok (.iconst 2, 1) := by decide +kernel
theorem dL_law_304 : decode cL_law 304 = .ok (.iadd, 1) := by decide +kernel
theorem dL_law_305 : decode cL_law 305 = .ok (.iaload, 1) := by decide +kernel
theorem dL_law_306 : decode cL_law 306 = .ok (.aload_n 0, 1) := by decide +kernel
theorem dL_law_307 : decode cL_law 307 = .ok (.iload_n 3, 1) := by decide +kernel
theorem dL_law_308 : decode cL_law 308 = .ok (.iconst 3, 1) := by decide +kernel
theorem dL_law_309 : decode cL_law 309 = .ok (.iadd, 1) := by decide +kernel
theorem dL_law_310 : decode cL_law 310 = .ok (.iaload, 1) := by decide +kernel
theorem dL_law_311 : decode cL_law 311 = .ok (.aload_n 0, 1) := by decide +kernel
theorem dL_law_312 : decode cL_law 312 = .ok (.iload_n 3, 1) := by decide +kernel
theorem dL_law_313 : decode cL_law 313 = .ok (.iconst 4, 1) := by decide +kernel
theorem dL_law_314 : decode cL_law 314 = .ok (.iadd, 1) := by decide +kernel
theorem dL_law_315 : decode cL_law 315 = .ok (.iaload, 1) := by decide +kernel
theorem dL_law_316 : decode cL_law 316 = .ok (.invokevirtual 30, 3) := by decide +kernel
theorem dL_law_319 : decode cL_law 319 = .ok (.if_icmp .eq 916, 3) := by decide +kernel
theorem dL_law_322 : decode cL_law 322 = .ok (.iconst 0, 1) := by decide +kernel
theorem dL_law_323 : decode cL_law 323 = .ok (.ireturn, 1) := by decide +kernel
theorem dL_law_324 : decode cL_law 324 = .ok (.aload_n 1, 1) := by decide +kernel
theorem dL_law_325 : decode cL_law 325 = .ok (.invokevirtual 31, 3) := by decide +kernel
theorem dL_law_328 : decode cL_law 328 = .ok (.aload_n 2, 1) := by decide +kernel
theorem dL_law_329 : decode cL_law 329 = .ok (.invokevirtual 35, 3) := by decide +kernel
theorem dL_law_332 : decode cL_law 332 = .ok (.if_icmp .eq 903, 3) := by decide +kernel
theorem dL_law_335 : decode cL_law 335 = .ok (.iconst 0, 1) := by decide +kernel
theorem dL_law_336 : decode cL_law 336 = .ok (.ireturn, 1) := by decide +kernel
theorem dL_law_337 : decode cL_law 337 = .ok (.aload_n 1, 1) := by decide +kernel
theorem dL_law_338 : decode cL_law 338 = .ok (.aload_n 0, 1) := by decide +kernel
theorem dL_law_339 : decode cL_law 339 = .ok (.iload_n 3, 1) := by decide +kernel
theorem dL_law_340 : decode cL_law 340 = .ok (.iconst 1, 1) := by decide +kernel
theorem dL_law_341 : decode cL_law 341 = .ok (.iadd, 1) := by decide +kernel
theorem dL_law_342 : decode cL_law 342 = .ok (.iaload, 1) := by decide +kernel
theorem dL_law_343 : decode cL_law 343 = .ok (.aload_n 0, 1) := by decide +kernel
theorem dL_law_344 : decode cL_law 344 = .ok (.iload_n 3, 1) := by decide +kernel
theorem dL_law_345 : decode cL_law 345 = .ok (.iconst 2, 1) := by decide +kernel
theorem dL_law_346 : decode cL_law 346 = .ok (.iadd, 1) := by decide +kernel
theorem dL_law_347 : decode cL_law 347 = .ok (.iaload, 1) := by decide +kernel
theorem dL_law_348 : decode cL_law 348 = .ok (.aload_n 0, 1) := by decide +kernel
theorem dL_law_349 : decode cL_law 349 = .ok (.iload_n 3, 1) := by decide +kernel
theorem dL_law_350 : decode cL_law 350 = .ok (.iconst 3, 1) := by decide +kernel
theorem dL_law_351 : decode cL_law 351 = .ok (.iadd, 1) := by decide +kernel
theorem dL_law_352 : decode cL_law 352 = .ok (.iaload, 1) := by decide +kernel
theorem dL_law_353 : decode cL_law 353 = .ok (.aload_n 0, 1) := by decide +kernel
theorem dL_law_354 : decode cL_law 354 = .ok (.iload_n 3, 1) := by decide +kernel
theorem dL_law_355 : decode cL_law 355 = .ok (.iconst 4, 1) := by decide +kernel
theorem dL_law_356 : decode cL_law 356 = .ok (.iadd, 1) := by decide +kernel
theorem dL_law_357 : decode cL_law 357 = .ok (.iaload, 1) := by decide +kernel
theorem dL_law_358 : decode cL_law 358 = .ok (.aload_n 0, 1) := by decide +kernel
theorem dL_law_359 : decode cL_law 359 = .ok (.iload_n 3, 1) := by decide +kernel
theorem dL_law_360 : decode cL_law 360 = .ok (.iconst 5, 1) := by decide +kernel
theorem dL_law_361 : decode cL_law 361 = .ok (.iadd, 1) := by decide +kernel
theorem dL_law_362 : decode cL_law 362 = .ok (.iaload, 1) := by decide +kernel
theorem dL_law_363 : decode cL_law 363 = .ok (.aload_n 0, 1) := by decide +kernel
theorem dL_law_364 : decode cL_law 364 = .ok (.iload_n 3, 1) := by decide +kernel
theorem dL_law_365 : decode cL_law 365 = .ok (.bipush 6, 2) := by decide +kernel
theorem dL_law_367 : decode cL_law 367 = .ok (.iadd, 1) := by decide +kernel
theorem dL_law_368 : decode cL_law 368 = .ok (.iaload, 1) := by decide +kernel
theorem dL_law_369 : decode cL_law 369 = .ok (.aload_n 0, 1) := by decide +kernel
theorem dL_law_370 : decode cL_law 370 = .ok (.iload_n 3, 1) := by decide +kernel
theorem dL_law_371 : decode cL_law 371 = .ok (.bipush 7, 2) := by decide +kernel
theorem dL_law_373 : decode cL_law 373 = .ok (.iadd, 1) := by decide +kernel
theorem dL_law_374 : decode cL_law 374 = .ok (.iaload, 1) := by decide +kernel
theorem dL_law_375 : decode cL_law 375 = .ok (.aload_n 0, 1) := by decide +kernel
theorem dL_law_376 : decode cL_law 376 = .ok (.iload_n 3, 1) := by decide +kernel
theorem dL_law_377 : decode cL_law 377 = .ok (.bipush 8, 2) := by decide +kernel
theorem dL_law_379 : decode cL_law 379 = .ok (.iadd, 1) := by decide +kernel
theorem dL_law_380 : decode cL_law 380 = .ok (.iaload, 1) := by decide +kernel
theorem dL_law_381 : decode cL_law 381 = .ok (.aload_n 0, 1) := by decide +kernel
theorem dL_law_382 : decode cL_law 382 = .ok (.iload_n 3, 1) := by decide +kernel
theorem dL_law_383 : decode cL_law 383 = .ok (.bipush 9, 2) := by decide +kernel
theorem dL_law_385 : decode cL_law 385 = .ok (.iadd, 1) := by decide +kernel
theorem dL_law_386 : decode cL_law 386 = .ok (.iaload, 1) := by decide +kernel
theorem dL_law_387 : decode cL_law 387 = .ok (.invokevirtual 36, 3) := by decide +kernel
theorem dL_law_390 : decode cL_law 390 = .ok (.aload_n 2, 1) := by decide +kernel
theorem dL_law_391 : decode cL_law 391 = .ok (.aload_n 0, 1) := by decide +kernel
theorem dL_law_392 : decode cL_law 392 = .ok (.iload_n 3, 1) := by decide +kernel
theorem dL_law_393 : decode cL_law 393 = .ok (.iconst 1, 1) := by decide +kernel
theorem dL_law_394 : decode cL_law 394 = .ok (.iadd, 1) := by decide +kernel
theorem dL_law_395 : decode cL_law 395 = .ok (.iaload, 1) := by decide +kernel
theorem dL_law_396 : decode cL_law 396 = .ok (.aload_n 0, 1) := by decide +kernel
theorem dL_law_397 : decode cL_law 397 = .ok (.iload_n 3, 1) := by decide +kernel
theorem dL_law_398 : decode cL_law 398 = .ok (.iconst 2, 1) := by decide +kernel
theorem dL_law_399 : decode cL_law 399 = .ok (.iadd, 1) := by decide +kernel
theorem dL_law_400 : decode cL_law 400 = .ok (.iaload, 1) := by decide +kernel
theorem dL_law_401 : decode cL_law 401 = .ok (.aload_n 0, 1) := by decide +kernel
theorem dL_law_402 : decode cL_law 402 = .ok (.iload_n 3, 1) := by decide +kernel
theorem dL_law_403 : decode cL_law 403 = .ok (.iconst 3, 1) := by decide +kernel
theorem dL_law_404 : decode cL_law 404 = .ok (.iadd, 1) := by decide +kernel
theorem dL_law_405 : decode cL_law 405 = .ok (.iaload, 1) := by decide +kernel
theorem dL_law_406 : decode cL_law 406 = .ok (.aload_n 0, 1) := by decide +kernel
theorem dL_law_407 : decode cL_law 407 = .ok (.iload_n 3, 1) := by decide +kernel
theorem dL_law_408 : decode cL_law 408 = .ok (.iconst 4, 1) := by decide +kernel
theorem dL_law_409 : decode cL_law 409 = .ok (.iadd, 1) := by decide +kernel
theorem dL_law_410 : decode cL_law 410 = .ok (.iaload, 1) := by decide +kernel
theorem dL_law_411 : decode cL_law 411 = .ok (.aload_n 0, 1) := by decide +kernel
theorem dL_law_412 : decode cL_law 412 = .ok (.iload_n 3, 1) := by decide +kernel
theorem dL_law_413 : decode cL_law 413 = .ok (.iconst 5, 1) := by decide +kernel
theorem dL_law_414 : decode cL_law 414 = .ok (.iadd, 1) := by decide +kernel
theorem dL_law_415 : decode cL_law 415 = .ok (.iaload, 1) := by decide +kernel
theorem dL_law_416 : decode cL_law 416 = .ok (.aload_n 0, 1) := by decide +kernel
theorem dL_law_417 : decode cL_law 417 = .ok (.iload_n 3, 1) := by decide +kernel
theorem dL_law_418 : decode cL_law 418 = .ok (.bipush 6, 2) := by decide +kernel
theorem dL_law_420 : decode cL_law 420 = .ok (.iadd, 1) := by decide +kernel
theorem dL_law_421 : decode cL_law 421 = .ok (.iaload, 1) := by decide +kernel
theorem dL_law_422 : decode cL_law 422 = .ok (.aload_n 0, 1) := by decide +kernel
theorem dL_law_423 : decode cL_law 423 = .ok (.iload_n 3, 1) := by decide +kernel
theorem dL_law_424 : decode cL_law 424 = .ok (.bipush 7, 2) := by decide +kernel
theorem dL_law_426 : decode cL_law 426 = .ok (.iadd, 1) := by decide +kernel
theorem dL_law_427 : decode cL_law 427 = .ok (.iaload, 1) := by decide +kernel
theorem dL_law_428 : decode cL_law 428 = .ok (.aload_n 0, 1) := by decide +kernel
theorem dL_law_429 : decode cL_law 429 = .ok (.iload_n 3, 1) := by decide +kernel
theorem dL_law_430 : decode cL_law 430 = .ok (.bipush 8, 2) := by decide +kernel
theorem dL_law_432 : decode cL_law 432 = .ok (.iadd, 1) := by decide +kernel
theorem dL_law_433 : decode cL_law 433 = .ok (.iaload, 1) := by decide +kernel
theorem dL_law_434 : decode cL_law 434 = .ok (.aload_n 0, 1) := by decide +kernel
theorem dL_law_435 : decode cL_law 435 = .ok (.iload_n 3, 1) := by decide +kernel
theorem dL_law_436 : decode cL_law 436 = .ok (.bipush 9, 2) := by decide +kernel
theorem dL_law_438 : decode cL_law 438 = .ok (.iadd, 1) := by decide +kernel
theorem dL_law_439 : decode cL_law 439 = .ok (.iaload, 1) := by decide +kernel
theorem dL_law_440 : decode cL_law 440 = .ok (.invokevirtual 40, 3) := by decide +kernel
theorem dL_law_443 : decode cL_law 443 = .ok (.if_icmp .eq 792, 3) := by decide +kernel
theorem dL_law_446 : decode cL_law 446 = .ok (.iconst 0, 1) := by decide +kernel
theorem dL_law_447 : decode cL_law 447 = .ok (.ireturn, 1) := by decide +kernel
theorem dL_law_448 : decode cL_law 448 = .ok (.aload_n 1, 1) := by decide +kernel
theorem dL_law_449 : decode cL_law 449 = .ok (.aload_n 0, 1) := by decide +kernel
theorem dL_law_450 : decode cL_law 450 = .ok (.iload_n 3, 1) := by decide +kernel
theorem dL_law_451 : decode cL_law 451 = .ok (.iconst 1, 1) := by decide +kernel
theorem dL_law_452 : decode cL_law 452 = .ok (.iadd, 1) := by decide +kernel
theorem dL_law_453 : decode cL_law 453 = .ok (.iaload, 1) := by decide +kernel
theorem dL_law_454 : decode cL_law 454 = .ok (.aload_n 0, 1) := by decide +kernel
theorem dL_law_455 : decode cL_law 455 = .ok (.iload_n 3, 1) := by decide +kernel
theorem dL_law_456 : decode cL_law 456 = .ok (.iconst 2, 1) := by decide +kernel
theorem dL_law_457 : decode cL_law 457 = .ok (.iadd, 1) := by decide +kernel
theorem dL_law_458 : decode cL_law 458 = .ok (.iaload, 1) := by decide +kernel
theorem dL_law_459 : decode cL_law 459 = .ok (.aload_n 0, 1) := by decide +kernel
theorem dL_law_460 : decode cL_law 460 = .ok (.iload_n 3, 1) := by decide +kernel
theorem dL_law_461 : decode cL_law 461 = .ok (.iconst 3, 1) := by decide +kernel
theorem dL_law_462 : decode cL_law 462 = .ok (.iadd, 1) := by decide +kernel
theorem dL_law_463 : decode cL_law 463 = .ok (.iaload, 1) := by decide +kernel
theorem dL_law_464 : decode cL_law 464 = .ok (.aload_n 0, 1) := by decide +kernel
theorem dL_law_465 : decode cL_law 465 = .ok (.iload_n 3, 1) := by decide +kernel
theorem dL_law_466 : decode cL_law 466 = .ok (.iconst 4, 1) := by decide +kernel
theorem dL_law_467 : decode cL_law 467 = .ok (.iadd, 1) := by decide +kernel
theorem dL_law_468 : decode cL_law 468 = .ok (.iaload, 1) := by decide +kernel
theorem dL_law_469 : decode cL_law 469 = .ok (.aload_n 0, 1) := by decide +kernel
theorem dL_law_470 : decode cL_law 470 = .ok (.iload_n 3, 1) := by decide +kernel
theorem dL_law_471 : decode cL_law 471 = .ok (.iconst 5, 1) := by decide +kernel
theorem dL_law_472 : decode cL_law 472 = .ok (.iadd, 1) := by decide +kernel
theorem dL_law_473 : decode cL_law 473 = .ok (.iaload, 1) := by decide +kernel
theorem dL_law_474 : decode cL_law 474 = .ok (.aload_n 0, 1) := by decide +kernel
theorem dL_law_475 : decode cL_law 475 = .ok (.iload_n 3, 1) := by decide +kernel
theorem dL_law_476 : decode cL_law 476 = .ok (.bipush 6, 2) := by decide +kernel
theorem dL_law_478 : decode cL_law 478 = .ok (.iadd, 1) := by decide +kernel
theorem dL_law_479 : decode cL_law 479 = .ok (.iaload, 1) := by decide +kernel
theorem dL_law_480 : decode cL_law 480 = .ok (.invokevirtual 41, 3) := by decide +kernel
theorem dL_law_483 : decode cL_law 483 = .ok (.aload_n 2, 1) := by decide +kernel
theorem dL_law_484 : decode cL_law 484 = .ok (.aload_n 0, 1) := by decide +kernel
theorem dL_law_485 : decode cL_law 485 = .ok (.iload_n 3, 1) := by decide +kernel
theorem dL_law_486 : decode cL_law 486 = .ok (.iconst 1, 1) := by decide +kernel
theorem dL_law_487 : decode cL_law 487 = .ok (.iadd, 1) := by decide +kernel
theorem dL_law_488 : decode cL_law 488 = .ok (.iaload, 1) := by decide +kernel
theorem dL_law_489 : decode cL_law 489 = .ok (.aload_n 0, 1) := by decide +kernel
theorem dL_law_490 : decode cL_law 490 = .ok (.iload_n 3, 1) := by decide +kernel
theorem dL_law_491 : decode cL_law 491 = .ok (.iconst 2, 1) := by decide +kernel
theorem dL_law_492 : decode cL_law 492 = .ok (.iadd, 1) := by decide +kernel
theorem dL_law_493 : decode cL_law 493 = .ok (.iaload, 1) := by decide +kernel
theorem dL_law_494 : decode cL_law 494 = .ok (.aload_n 0, 1) := by decide +kernel
theorem dL_law_495 : decode cL_law 495 = .ok (.iload_n 3, 1) := by decide +kernel
theorem dL_law_496 : decode cL_law 496 = .ok (.iconst 3, 1) := by decide +kernel
theorem dL_law_497 : decode cL_law 497 = .ok (.iadd, 1) := by decide +kernel
theorem dL_law_498 : decode cL_law 498 = .ok (.iaload, 1) := by decide +kernel
theorem dL_law_499 : decode cL_law 499 = .ok (.aload_n 0, 1) := by decide +kernel
theorem dL_law_500 : decode cL_law 500 = .ok (.iload_n 3, 1) := by decide +kernel
theorem dL_law_501 : decode cL_law 501 = .ok (.iconst 4, 1) := by decide +kernel
theorem dL_law_502 : decode cL_law 502 = .ok (.iadd, 1) := by decide +kernel
theorem dL_law_503 : decode cL_law 503 = .ok (.iaload, 1) := by decide +kernel
theorem dL_law_504 : decode cL_law 504 = .ok (.aload_n 0, 1) := by decide +kernel
theorem dL_law_505 : decode cL_law 505 = .ok (.iload_n 3, 1) := by decide +kernel
theorem dL_law_506 : decode cL_law 506 = .ok (.iconst 5, 1) := by decide +kernel
theorem dL_law_507 : decode cL_law 507 = .ok (.iadd, 1) := by decide +kernel
theorem dL_law_508 : decode cL_law 508 = .ok (.iaload, 1) := by decide +kernel
theorem dL_law_509 : decode cL_law 509 = .ok (.aload_n 0, 1) := by decide +kernel
theorem dL_law_510 : decode cL_law 510 = .ok (.iload_n 3, 1) := by decide +kernel
theorem dL_law_511 : decode cL_law 511 = .ok (.bipush 6, 2) := by decide +kernel
theorem dL_law_513 : decode cL_law 513 = .ok (.iadd, 1) := by decide +kernel
theorem dL_law_514 : decode cL_law 514 = .ok (.iaload, 1) := by decide +kernel
theorem dL_law_515 : decode cL_law 515 = .ok (.invokevirtual 45, 3) := by decide +kernel
theorem dL_law_518 : decode cL_law 518 = .ok (.if_icmp .eq 717, 3) := by decide +kernel
theorem dL_law_521 : decode cL_law 521 = .ok (.iconst 0, 1) := by decide +kernel
theorem dL_law_522 : decode cL_law 522 = .ok (.ireturn, 1) := by decide +kernel
theorem dL_law_523 : decode cL_law 523 = .ok (.aload_n 1, 1) := by decide +kernel
theorem dL_law_524 : decode cL_law 524 = .ok (.aload_n 0, 1) := by decide +kernel
theorem dL_law_525 : decode cL_law 525 = .ok (.iload_n 3, 1) := by decide +kernel
theorem dL_law_526 : decode cL_law 526 = .ok (.iconst 1, 1) := by decide +kernel
theorem dL_law_527 : decode cL_law 527 = .ok (.iadd, 1) := by decide +kernel
theorem dL_law_528 : decode cL_law 528 = .ok (.iaload, 1) := by decide +kernel
theorem dL_law_529 : decode cL_law 529 = .ok (.aload_n 0, 1) := by decide +kernel
theorem dL_law_530 : decode cL_law 530 = .ok (.iload_n 3, 1) := by decide +kernel
theorem dL_law_531 : decode cL_law 531 = .ok (.iconst 2, 1) := by decide +kernel
theorem dL_law_532 : decode cL_law 532 = .ok (.iadd, 1) := by decide +kernel
theorem dL_law_533 : decode cL_law 533 = .ok (.iaload, 1) := by decide +kernel
theorem dL_law_534 : decode cL_law 534 = .ok (.aload_n 0, 1) := by decide +kernel
theorem dL_law_535 : decode cL_law 535 = .ok (.iload_n 3, 1) := by decide +kernel
theorem dL_law_536 : decode cL_law 536 = .ok (.iconst 3, 1) := by decide +kernel
theorem dL_law_537 : decode cL_law 537 = .ok (.iadd, 1) := by decide +kernel
theorem dL_law_538 : decode cL_law 538 = .ok (.iaload, 1) := by decide +kernel
theorem dL_law_539 : decode cL_law 539 = .ok (.invokevirtual 46, 3) := by decide +kernel
theorem dL_law_542 : decode cL_law 542 = .ok (.aload_n 2, 1) := by decide +kernel
theorem dL_law_543 : decode cL_law 543 = .ok (.aload_n 0, 1) := by decide +kernel
theorem dL_law_544 : decode cL_law 544 = .ok (.iload_n 3, 1) := by decide +kernel
theorem dL_law_545 : decode cL_law 545 = .ok (.iconst 1, 1) := by decide +kernel
theorem dL_law_546 : decode cL_law 546 = .ok (.iadd, 1) := by decide +kernel
theorem dL_law_547 : decode cL_law 547 = .ok (.iaload, 1) := by decide +kernel
theorem dL_law_548 : decode cL_law 548 = .ok (.aload_n 0, 1) := by decide +kernel
theorem dL_law_549 : decode cL_law 549 = .ok (.iload_n 3, 1) := by decide +kernel
theorem dL_law_550 : decode cL_law 550 = .ok (.iconst 2, 1) := by decide +kernel
theorem dL_law_551 : decode cL_law 551 = .ok (.iadd, 1) := by decide +kernel
theorem dL_law_552 : decode cL_law 552 = .ok (.iaload, 1) := by decide +kernel
theorem dL_law_553 : decode cL_law 553 = .ok (.aload_n 0, 1) := by decide +kernel
theorem dL_law_554 : decode cL_law 554 = .ok (.iload_n 3, 1) := by decide +kernel
theorem dL_law_555 : decode cL_law 555 = .ok (.iconst 3, 1) := by decide +kernel
theorem dL_law_556 : decode cL_law 556 = .ok (.iadd, 1) := by decide +kernel
theorem dL_law_557 : decode cL_law 557 = .ok (.iaload, 1) := by decide +kernel
theorem dL_law_558 : decode cL_law 558 = .ok (.invokevirtual 50, 3) := by decide +kernel
theorem dL_law_561 : decode cL_law 561 = .ok (.if_icmp .eq 674, 3) := by decide +kernel
theorem dL_law_564 : decode cL_law 564 = .ok (.iconst 0, 1) := by decide +kernel
theorem dL_law_565 : decode cL_law 565 = .ok (.ireturn, 1) := by decide +kernel
theorem dL_law_566 : decode cL_law 566 = .ok (.aload_n 1, 1) := by decide +kernel
theorem dL_law_567 : decode cL_law 567 = .ok (.aload_n 0, 1) := by decide +kernel
theorem dL_law_568 : decode cL_law 568 = .ok (.iload_n 3, 1) := by decide +kernel
theorem dL_law_569 : decode cL_law 569 = .ok (.iconst 1, 1) := by decide +kernel
theorem dL_law_570 : decode cL_law 570 = .ok (.iadd, 1) := by decide +kernel
theorem dL_law_571 : decode cL_law 571 = .ok (.iaload, 1) := by decide +kernel
theorem dL_law_572 : decode cL_law 572 = .ok (.aload_n 0, 1) := by decide +kernel
theorem dL_law_573 : decode cL_law 573 = .ok (.iload_n 3, 1) := by decide +kernel
theorem dL_law_574 : decode cL_law 574 = .ok (.iconst 2, 1) := by decide +kernel
theorem dL_law_575 : decode cL_law 575 = .ok (.iadd, 1) := by decide +kernel
theorem dL_law_576 : decode cL_law 576 = .ok (.iaload, 1) := by decide +kernel
theorem dL_law_577 : decode cL_law 577 = .ok (.aload_n 0, 1) := by decide +kernel
theorem dL_law_578 : decode cL_law 578 = .ok (.iload_n 3, 1) := by decide +kernel
theorem dL_law_579 : decode cL_law 579 = .ok (.iconst 3, 1) := by decide +kernel
theorem dL_law_580 : decode cL_law 580 = .ok (.iadd, 1) := by decide +kernel
theorem dL_law_581 : decode cL_law 581 = .ok (.iaload, 1) := by decide +kernel
theorem dL_law_582 : decode cL_law 582 = .ok (.aload_n 0, 1) := by decide +kernel
theorem dL_law_583 : decode cL_law 583 = .ok (.iload_n 3, 1) := by decide +kernel
theorem dL_law_584 : decode cL_law 584 = .ok (.iconst 4, 1) := by decide +kernel
theorem dL_law_585 : decode cL_law 585 = .ok (.iadd, 1) := by decide +kernel
theorem dL_law_586 : decode cL_law 586 = .ok (.iaload, 1) := by decide +kernel
theorem dL_law_587 : decode cL_law 587 = .ok (.aload_n 0, 1) := by decide +kernel
theorem dL_law_588 : decode cL_law 588 = .ok (.iload_n 3, 1) := by decide +kernel
theorem dL_law_589 : decode cL_law 589 = .ok (.iconst 5, 1) := by decide +kernel
theorem dL_law_590 : decode cL_law 590 = .ok (.iadd, 1) := by decide +kernel
theorem dL_law_591 : decode cL_law 591 = .ok (.iaload, 1) := by decide +kernel
theorem dL_law_592 : decode cL_law 592 = .ok (.aload_n 0, 1) := by decide +kernel
theorem dL_law_593 : decode cL_law 593 = .ok (.iload_n 3, 1) := by decide +kernel
theorem dL_law_594 : decode cL_law 594 = .ok (.bipush 6, 2) := by decide +kernel
theorem dL_law_596 : decode cL_law 596 = .ok (.iadd, 1) := by decide +kernel
theorem dL_law_597 : decode cL_law 597 = .ok (.iaload, 1) := by decide +kernel
theorem dL_law_598 : decode cL_law 598 = .ok (.invokevirtual 51, 3) := by decide +kernel
theorem dL_law_601 : decode cL_law 601 = .ok (.aload_n 2, 1) := by decide +kernel
theorem dL_law_602 : decode cL_law 602 = .ok (.aload_n 0, 1) := by decide +kernel
theorem dL_law_603 : decode cL_law 603 = .ok (.iload_n 3, 1) := by decide +kernel
theorem dL_law_604 : decode cL_law 604 = .ok (.iconst 1, 1) := by decide +kernel
theorem dL_law_605 : decode cL_law 605 = .ok (.iadd, 1) := by decide +kernel
theorem dL_law_606 : decode cL_law 606 = .ok (.iaload, 1) := by decide +kernel
theorem dL_law_607 : decode cL_law 607 = .ok (.aload_n 0, 1) := by decide +kernel
theorem dL_law_608 : decode cL_law 608 = .ok (.iload_n 3, 1) := by decide +kernel
theorem dL_law_609 : decode cL_law 609 = .ok (.iconst 2, 1) := by decide +kernel
theorem dL_law_610 : decode cL_law 610 = .ok (.iadd, 1) := by decide +kernel
theorem dL_law_611 : decode cL_law 611 = .ok (.iaload, 1) := by decide +kernel
theorem dL_law_612 : decode cL_law 612 = .ok (.aload_n 0, 1) := by decide +kernel
theorem dL_law_613 : decode cL_law 613 = .ok (.iload_n 3, 1) := by decide +kernel
theorem dL_law_614 : decode cL_law 614 = .ok (.iconst 3, 1) := by decide +kernel
theorem dL_law_615 : decode cL_law 615 = .ok (.iadd, 1) := by decide +kernel
theorem dL_law_616 : decode cL_law 616 = .ok (.iaload, 1) := by decide +kernel
theorem dL_law_617 : decode cL_law 617 = .ok (.aload_n 0, 1) := by decide +kernel
theorem dL_law_618 : decode cL_law 618 = .ok (.iload_n 3, 1) := by decide +kernel
theorem dL_law_619 : decode cL_law 619 = .ok (.iconst 4, 1) := by decide +kernel
theorem dL_law_620 : decode cL_law 620 = .ok (.iadd, 1) := by decide +kernel
theorem dL_law_621 : decode cL_law 621 = .ok (.iaload, 1) := by decide +kernel
theorem dL_law_622 : decode cL_law 622 = .ok (.aload_n 0, 1) := by decide +kernel
theorem dL_law_623 : decode cL_law 623 = .ok (.iload_n 3, 1) := by decide +kernel
theorem dL_law_624 : decode cL_law 624 = .ok (.iconst 5, 1) := by decide +kernel
theorem dL_law_625 : decode cL_law 625 = .ok (.iadd, 1) := by decide +kernel
theorem dL_law_626 : decode cL_law 626 = .ok (.iaload, 1) := by decide +kernel
theorem dL_law_627 : decode cL_law 627 = .ok (.aload_n 0, 1) := by decide +kernel
theorem dL_law_628 : decode cL_law 628 = .ok (.iload_n 3, 1) := by decide +kernel
theorem dL_law_629 : decode cL_law 629 = .ok (.bipush 6, 2) := by decide +kernel
theorem dL_law_631 : decode cL_law 631 = .ok (.iadd, 1) := by decide +kernel
theorem dL_law_632 : decode cL_law 632 = .ok (.iaload, 1) := by decide +kernel
theorem dL_law_633 : decode cL_law 633 = .ok (.invokevirtual 54, 3) := by decide +kernel
theorem dL_law_636 : decode cL_law 636 = .ok (.if_icmp .eq 599, 3) := by decide +kernel
theorem dL_law_639 : decode cL_law 639 = .ok (.iconst 0, 1) := by decide +kernel
theorem dL_law_640 : decode cL_law 640 = .ok (.ireturn, 1) := by decide +kernel
theorem dL_law_641 : decode cL_law 641 = .ok (.aload_n 1, 1) := by decide +kernel
theorem dL_law_642 : decode cL_law 642 = .ok (.aload_n 0, 1) := by decide +kernel
theorem dL_law_643 : decode cL_law 643 = .ok (.iload_n 3, 1) := by decide +kernel
theorem dL_law_644 : decode cL_law 644 = .ok (.iconst 1, 1) := by decide +kernel
theorem dL_law_645 : decode cL_law 645 = .ok (.iadd, 1) := by decide +kernel
theorem dL_law_646 : decode cL_law 646 = .ok (.iaload, 1) := by decide +kernel
theorem dL_law_647 : decode cL_law 647 = .ok (.aload_n 0, 1) := by decide +kernel
theorem dL_law_648 : decode cL_law 648 = .ok (.iload_n 3, 1) := by decide +kernel
theorem dL_law_649 : decode cL_law 649 = .ok (.iconst 2, 1) := by decide +kernel
theorem dL_law_650 : decode cL_law 650 = .ok (.iadd, 1) := by decide +kernel
theorem dL_law_651 : decode cL_law 651 = .ok (.iaload, 1) := by decide +kernel
theorem dL_law_652 : decode cL_law 652 = .ok (.aload_n 0, 1) := by decide +kernel
theorem dL_law_653 : decode cL_law 653 = .ok (.iload_n 3, 1) := by decide +kernel
theorem dL_law_654 : decode cL_law 654 = .ok (.iconst 3, 1) := by decide +kernel
theorem dL_law_655 : decode cL_law 655 = .ok (.iadd, 1) := by decide +kernel
theorem dL_law_656 : decode cL_law 656 = .ok (.iaload, 1) := by decide +kernel
theorem dL_law_657 : decode cL_law 657 = .ok (.aload_n 0, 1) := by decide +kernel
theorem dL_law_658 : decode cL_law 658 = .ok (.iload_n 3, 1) := by decide +kernel
theorem dL_law_659 : decode cL_law 659 = .ok (.iconst 4, 1) := by decide +kernel
theorem dL_law_660 : decode cL_law 660 = .ok (.iadd, 1) := by decide +kernel
theorem dL_law_661 : decode cL_law 661 = .ok (.iaload, 1) := by decide +kernel
theorem dL_law_662 : decode cL_law 662 = .ok (.aload_n 0, 1) := by decide +kernel
theorem dL_law_663 : decode cL_law 663 = .ok (.iload_n 3, 1) := by decide +kernel
theorem dL_law_664 : decode cL_law 664 = .ok (.iconst 5, 1) := by decide +kernel
theorem dL_law_665 : decode cL_law 665 = .ok (.iadd, 1) := by decide +kernel
theorem dL_law_666 : decode cL_law 666 = .ok (.iaload, 1) := by decide +kernel
theorem dL_law_667 : decode cL_law 667 = .ok (.invokevirtual 55, 3) := by decide +kernel
theorem dL_law_670 : decode cL_law 670 = .ok (.aload_n 2, 1) := by decide +kernel
theorem dL_law_671 : decode cL_law 671 = .ok (.aload_n 0, 1) := by decide +kernel
theorem dL_law_672 : decode cL_law 672 = .ok (.iload_n 3, 1) := by decide +kernel
theorem dL_law_673 : decode cL_law 673 = .ok (.iconst 1, 1) := by decide +kernel
theorem dL_law_674 : decode cL_law 674 = .ok (.iadd, 1) := by decide +kernel
theorem dL_law_675 : decode cL_law 675 = .ok (.iaload, 1) := by decide +kernel
theorem dL_law_676 : decode cL_law 676 = .ok (.aload_n 0, 1) := by decide +kernel
theorem dL_law_677 : decode cL_law 677 = .ok (.iload_n 3, 1) := by decide +kernel
theorem dL_law_678 : decode cL_law 678 = .ok (.iconst 2, 1) := by decide +kernel
theorem dL_law_679 : decode cL_law 679 = .ok (.iadd, 1) := by decide +kernel
theorem dL_law_680 : decode cL_law 680 = .ok (.iaload, 1) := by decide +kernel
theorem dL_law_681 : decode cL_law 681 = .ok (.aload_n 0, 1) := by decide +kernel
theorem dL_law_682 : decode cL_law 682 = .ok (.iload_n 3, 1) := by decide +kernel
theorem dL_law_683 : decode cL_law 683 = .ok (.iconst 3, 1) := by decide +kernel
theorem dL_law_684 : decode cL_law 684 = .ok (.iadd, 1) := by decide +kernel
theorem dL_law_685 : decode cL_law 685 = .ok (.iaload, 1) := by decide +kernel
theorem dL_law_686 : decode cL_law 686 = .ok (.aload_n 0, 1) := by decide +kernel
theorem dL_law_687 : decode cL_law 687 = .ok (.iload_n 3, 1) := by decide +kernel
theorem dL_law_688 : decode cL_law 688 = .ok (.iconst 4, 1) := by decide +kernel
theorem dL_law_689 : decode cL_law 689 = .ok (.iadd, 1) := by decide +kernel
theorem dL_law_690 : decode cL_law 690 = .ok (.iaload, 1) := by decide +kernel
theorem dL_law_691 : decode cL_law 691 = .ok (.aload_n 0, 1) := by decide +kernel
theorem dL_law_692 : decode cL_law 692 = .ok (.iload_n 3, 1) := by decide +kernel
theorem dL_law_693 : decode cL_law 693 = .ok (.iconst 5, 1) := by decide +kernel
theorem dL_law_694 : decode cL_law 694 = .ok (.iadd, 1) := by decide +kernel
theorem dL_law_695 : decode cL_law 695 = .ok (.iaload, 1) := by decide +kernel
theorem dL_law_696 : decode cL_law 696 = .ok (.invokevirtual 59, 3) := by decide +kernel
theorem dL_law_699 : decode cL_law 699 = .ok (.if_icmp .eq 536, 3) := by decide +kernel
theorem dL_law_702 : decode cL_law 702 = .ok (.iconst 0, 1) := by decide +kernel
theorem dL_law_703 : decode cL_law 703 = .ok (.ireturn, 1) := by decide +kernel
theorem dL_law_704 : decode cL_law 704 = .ok (.aload_n 1, 1) := by decide +kernel
theorem dL_law_705 : decode cL_law 705 = .ok (.aload_n 0, 1) := by decide +kernel
theorem dL_law_706 : decode cL_law 706 = .ok (.iload_n 3, 1) := by decide +kernel
theorem dL_law_707 : decode cL_law 707 = .ok (.iconst 1, 1) := by decide +kernel
theorem dL_law_708 : decode cL_law 708 = .ok (.iadd, 1) := by decide +kernel
theorem dL_law_709 : decode cL_law 709 = .ok (.iaload, 1) := by decide +kernel
theorem dL_law_710 : decode cL_law 710 = .ok (.aload_n 0, 1) := by decide +kernel
theorem dL_law_711 : decode cL_law 711 = .ok (.iload_n 3, 1) := by decide +kernel
theorem dL_law_712 : decode cL_law 712 = .ok (.iconst 2, 1) := by decide +kernel
theorem dL_law_713 : decode cL_law 713 = .ok (.iadd, 1) := by decide +kernel
theorem dL_law_714 : decode cL_law 714 = .ok (.iaload, 1) := by decide +kernel
theorem dL_law_715 : decode cL_law 715 = .ok (.aload_n 0, 1) := by decide +kernel
theorem dL_law_716 : decode cL_law 716 = .ok (.iload_n 3, 1) := by decide +kernel
theorem dL_law_717 : decode cL_law 717 = .ok (.iconst 3, 1) := by decide +kernel
theorem dL_law_718 : decode cL_law 718 = .ok (.iadd, 1) := by decide +kernel
theorem dL_law_719 : decode cL_law 719 = .ok (.iaload, 1) := by decide +kernel
theorem dL_law_720 : decode cL_law 720 = .ok (.invokevirtual 60, 3) := by decide +kernel
theorem dL_law_723 : decode cL_law 723 = .ok (.aload_n 2, 1) := by decide +kernel
theorem dL_law_724 : decode cL_law 724 = .ok (.aload_n 0, 1) := by decide +kernel
theorem dL_law_725 : decode cL_law 725 = .ok (.iload_n 3, 1) := by decide +kernel
theorem dL_law_726 : decode cL_law 726 = .ok (.iconst 1, 1) := by decide +kernel
theorem dL_law_727 : decode cL_law 727 = .ok (.iadd, 1) := by decide +kernel
theorem dL_law_728 : decode cL_law 728 = .ok (.iaload, 1) := by decide +kernel
theorem dL_law_729 : decode cL_law 729 = .ok (.aload_n 0, 1) := by decide +kernel
theorem dL_law_730 : decode cL_law 730 = .ok (.iload_n 3, 1) := by decide +kernel
theorem dL_law_731 : decode cL_law 731 = .ok (.iconst 2, 1) := by decide +kernel
theorem dL_law_732 : decode cL_law 732 = .ok (.iadd, 1) := by decide +kernel
theorem dL_law_733 : decode cL_law 733 = .ok (.iaload, 1) := by decide +kernel
theorem dL_law_734 : decode cL_law 734 = .ok (.aload_n 0, 1) := by decide +kernel
theorem dL_law_735 : decode cL_law 735 = .ok (.iload_n 3, 1) := by decide +kernel
theorem dL_law_736 : decode cL_law 736 = .ok (.iconst 3, 1) := by decide +kernel
theorem dL_law_737 : decode cL_law 737 = .ok (.iadd, 1) := by decide +kernel
theorem dL_law_738 : decode cL_law 738 = .ok (.iaload, 1) := by decide +kernel
theorem dL_law_739 : decode cL_law 739 = .ok (.invokevirtual 63, 3) := by decide +kernel
theorem dL_law_742 : decode cL_law 742 = .ok (.if_icmp .eq 493, 3) := by decide +kernel
theorem dL_law_745 : decode cL_law 745 = .ok (.iconst 0, 1) := by decide +kernel
theorem dL_law_746 : decode cL_law 746 = .ok (.ireturn, 1) := by decide +kernel
theorem dL_law_747 : decode cL_law 747 = .ok (.aload_n 1, 1) := by decide +kernel
theorem dL_law_748 : decode cL_law 748 = .ok (.aload_n 0, 1) := by decide +kernel
theorem dL_law_749 : decode cL_law 749 = .ok (.iload_n 3, 1) := by decide +kernel
theorem dL_law_750 : decode cL_law 750 = .ok (.iconst 1, 1) := by decide +kernel
theorem dL_law_751 : decode cL_law 751 = .ok (.iadd, 1) := by decide +kernel
theorem dL_law_752 : decode cL_law 752 = .ok (.iaload, 1) := by decide +kernel
theorem dL_law_753 : decode cL_law 753 = .ok (.aload_n 0, 1) := by decide +kernel
theorem dL_law_754 : decode cL_law 754 = .ok (.iload_n 3, 1) := by decide +kernel
theorem dL_law_755 : decode cL_law 755 = .ok (.iconst 2, 1) := by decide +kernel
theorem dL_law_756 : decode cL_law 756 = .ok (.iadd, 1) := by decide +kernel
theorem dL_law_757 : decode cL_law 757 = .ok (.iaload, 1) := by decide +kernel
theorem dL_law_758 : decode cL_law 758 = .ok (.invokevirtual 64, 3) := by decide +kernel
theorem dL_law_761 : decode cL_law 761 = .ok (.aload_n 2, 1) := by decide +kernel
theorem dL_law_762 : decode cL_law 762 = .ok (.aload_n 0, 1) := by decide +kernel
theorem dL_law_763 : decode cL_law 763 = .ok (.iload_n 3, 1) := by decide +kernel
theorem dL_law_764 : decode cL_law 764 = .ok (.iconst 1, 1) := by decide +kernel
theorem dL_law_765 : decode cL_law 765 = .ok (.iadd, 1) := by decide +kernel
theorem dL_law_766 : decode cL_law 766 = .ok (.iaload, 1) := by decide +kernel
theorem dL_law_767 : decode cL_law 767 = .ok (.aload_n 0, 1) := by decide +kernel
theorem dL_law_768 : decode cL_law 768 = .ok (.iload_n 3, 1) := by decide +kernel
theorem dL_law_769 : decode cL_law 769 = .ok (.iconst 2, 1) := by decide +kernel
theorem dL_law_770 : decode cL_law 770 = .ok (.iadd, 1) := by decide +kernel
theorem dL_law_771 : decode cL_law 771 = .ok (.iaload, 1) := by decide +kernel
theorem dL_law_772 : decode cL_law 772 = .ok (.invokevirtual 67, 3) := by decide +kernel
theorem dL_law_775 : decode cL_law 775 = .ok (.if_icmp .eq 460, 3) := by decide +kernel
theorem dL_law_778 : decode cL_law 778 = .ok (.iconst 0, 1) := by decide +kernel
theorem dL_law_779 : decode cL_law 779 = .ok (.ireturn, 1) := by decide +kernel
theorem dL_law_780 : decode cL_law 780 = .ok (.aload_n 1, 1) := by decide +kernel
theorem dL_law_781 : decode cL_law 781 = .ok (.aload_n 0, 1) := by decide +kernel
theorem dL_law_782 : decode cL_law 782 = .ok (.iload_n 3, 1) := by decide +kernel
theorem dL_law_783 : decode cL_law 783 = .ok (.iconst 1, 1) := by decide +kernel
theorem dL_law_784 : decode cL_law 784 = .ok (.iadd, 1) := by decide +kernel
theorem dL_law_785 : decode cL_law 785 = .ok (.iaload, 1) := by decide +kernel
theorem dL_law_786 : decode cL_law 786 = .ok (.aload_n 0, 1) := by decide +kernel
theorem dL_law_787 : decode cL_law 787 = .ok (.iload_n 3, 1) := by decide +kernel
theorem dL_law_788 : decode cL_law 788 = .ok (.iconst 2, 1) := by decide +kernel
theorem dL_law_789 : decode cL_law 789 = .ok (.iadd, 1) := by decide +kernel
theorem dL_law_790 : decode cL_law 790 = .ok (.iaload, 1) := by decide +kernel
theorem dL_law_791 : decode cL_law 791 = .ok (.aload_n 0, 1) := by decide +kernel
theorem dL_law_792 : decode cL_law 792 = .ok (.iload_n 3, 1) := by decide +kernel
theorem dL_law_793 : decode cL_law 793 = .ok (.iconst 3, 1) := by decide +kernel
theorem dL_law_794 : decode cL_law 794 = .ok (.iadd, 1) := by decide +kernel
theorem dL_law_795 : decode cL_law 795 = .ok (.iaload, 1) := by decide +kernel
theorem dL_law_796 : decode cL_law 796 = .ok (.invokevirtual 68, 3) := by decide +kernel
theorem dL_law_799 : decode cL_law 799 = .ok (.aload_n 2, 1) := by decide +kernel
theorem dL_law_800 : decode cL_law 800 = .ok (.aload_n 0, 1) := by decide +kernel
theorem dL_law_801 : decode cL_law 801 = .ok (.iload_n 3, 1) := by decide +kernel
theorem dL_law_802 : decode cL_law 802 = .ok (.iconst 1, 1) := by decide +kernel
theorem dL_law_803 : decode cL_law 803 = .ok (.iadd, 1) := by decide +kernel
theorem dL_law_804 : decode cL_law 804 = .ok (.iaload, 1) := by decide +kernel
theorem dL_law_805 : decode cL_law 805 = .ok (.aload_n 0, 1) := by decide +kernel
theorem dL_law_806 : decode cL_law 806 = .ok (.iload_n 3, 1) := by decide +kernel
theorem dL_law_807 : decode cL_law 807 = .ok (.iconst 2, 1) := by decide +kernel
theorem dL_law_808 : decode cL_law 808 = .ok (.iadd, 1) := by decide +kernel
theorem dL_law_809 : decode cL_law 809 = .ok (.iaload, 1) := by decide +kernel
theorem dL_law_810 : decode cL_law 810 = .ok (.aload_n 0, 1) := by decide +kernel
theorem dL_law_811 : decode cL_law 811 = .ok (.iload_n 3, 1) := by decide +kernel
theorem dL_law_812 : decode cL_law 812 = .ok (.iconst 3, 1) := by decide +kernel
theorem dL_law_813 : decode cL_law 813 = .ok (.iadd, 1) := by decide +kernel
theorem dL_law_814 : decode cL_law 814 = .ok (.iaload, 1) := by decide +kernel
theorem dL_law_815 : decode cL_law 815 = .ok (.invokevirtual 71, 3) := by decide +kernel
theorem dL_law_818 : decode cL_law 818 = .ok (.if_icmp .eq 417, 3) := by decide +kernel
theorem dL_law_821 : decode cL_law 821 = .ok (.iconst 0, 1) := by decide +kernel
theorem dL_law_822 : decode cL_law 822 = .ok (.ireturn, 1) := by decide +kernel
theorem dL_law_823 : decode cL_law 823 = .ok (.aload_n 1, 1) := by decide +kernel
theorem dL_law_824 : decode cL_law 824 = .ok (.aload_n 0, 1) := by decide +kernel
theorem dL_law_825 : decode cL_law 825 = .ok (.iload_n 3, 1) := by decide +kernel
theorem dL_law_826 : decode cL_law 826 = .ok (.iconst 1, 1) := by decide +kernel
theorem dL_law_827 : decode cL_law 827 = .ok (.iadd, 1) := by decide +kernel
theorem dL_law_828 : decode cL_law 828 = .ok (.iaload, 1) := by decide +kernel
theorem dL_law_829 : decode cL_law 829 = .ok (.aload_n 0, 1) := by decide +kernel
theorem dL_law_830 : decode cL_law 830 = .ok (.iload_n 3, 1) := by decide +kernel
theorem dL_law_831 : decode cL_law 831 = .ok (.iconst 2, 1) := by decide +kernel
theorem dL_law_832 : decode cL_law 832 = .ok (.iadd, 1) := by decide +kernel
theorem dL_law_833 : decode cL_law 833 = .ok (.iaload, 1) := by decide +kernel
theorem dL_law_834 : decode cL_law 834 = .ok (.aload_n 0, 1) := by decide +kernel
theorem dL_law_835 : decode cL_law 835 = .ok (.iload_n 3, 1) := by decide +kernel
theorem dL_law_836 : decode cL_law 836 = .ok (.iconst 3, 1) := by decide +kernel
theorem dL_law_837 : decode cL_law 837 = .ok (.iadd, 1) := by decide +kernel
theorem dL_law_838 : decode cL_law 838 = .ok (.iaload, 1) := by decide +kernel
theorem dL_law_839 : decode cL_law 839 = .ok (.invokevirtual 72, 3) := by decide +kernel
theorem dL_law_842 : decode cL_law 842 = .ok (.aload_n 2, 1) := by decide +kernel
theorem dL_law_843 : decode cL_law 843 = .ok (.aload_n 0, 1) := by decide +kernel
theorem dL_law_844 : decode cL_law 844 = .ok (.iload_n 3, 1) := by decide +kernel
theorem dL_law_845 : decode cL_law 845 = .ok (.iconst 1, 1) := by decide +kernel
theorem dL_law_846 : decode cL_law 846 = .ok (.iadd, 1) := by decide +kernel
theorem dL_law_847 : decode cL_law 847 = .ok (.iaload, 1) := by decide +kernel
theorem dL_law_848 : decode cL_law 848 = .ok (.aload_n 0, 1) := by decide +kernel
theorem dL_law_849 : decode cL_law 849 = .ok (.iload_n 3, 1) := by decide +kernel
theorem dL_law_850 : decode cL_law 850 = .ok (.iconst 2, 1) := by decide +kernel
theorem dL_law_851 : decode cL_law 851 = .ok (.iadd, 1) := by decide +kernel
theorem dL_law_852 : decode cL_law 852 = .ok (.iaload, 1) := by decide +kernel
theorem dL_law_853 : decode cL_law 853 = .ok (.aload_n 0, 1) := by decide +kernel
theorem dL_law_854 : decode cL_law 854 = .ok (.iload_n 3, 1) := by decide +kernel
theorem dL_law_855 : decode cL_law 855 = .ok (.iconst 3, 1) := by decide +kernel
theorem dL_law_856 : decode cL_law 856 = .ok (.iadd, 1) := by decide +kernel
theorem dL_law_857 : decode cL_law 857 = .ok (.iaload, 1) := by decide +kernel
theorem dL_law_858 : decode cL_law 858 = .ok (.invokevirtual 75, 3) := by decide +kernel
theorem dL_law_861 : decode cL_law 861 = .ok (.if_icmp .eq 374, 3) := by decide +kernel
theorem dL_law_864 : decode cL_law 864 = .ok (.iconst 0, 1) := by decide +kernel
theorem dL_law_865 : decode cL_law 865 = .ok (.ireturn, 1) := by decide +kernel
theorem dL_law_866 : decode cL_law 866 = .ok (.aload_n 1, 1) := by decide +kernel
theorem dL_law_867 : decode cL_law 867 = .ok (.aload_n 0, 1) := by decide +kernel
theorem dL_law_868 : decode cL_law 868 = .ok (.iload_n 3, 1) := by decide +kernel
theorem dL_law_869 : decode cL_law 869 = .ok (.iconst 1, 1) := by decide +kernel
theorem dL_law_870 : decode cL_law 870 = .ok (.iadd, 1) := by decide +kernel
theorem dL_law_871 : decode cL_law 871 = .ok (.iaload, 1) := by decide +kernel
theorem dL_law_872 : decode cL_law 872 = .ok (.aload_n 0, 1) := by decide +kernel
theorem dL_law_873 : decode cL_law 873 = .ok (.iload_n 3, 1) := by decide +kernel
theorem dL_law_874 : decode cL_law 874 = .ok (.iconst 2, 1) := by decide +kernel
theorem dL_law_875 : decode cL_law 875 = .ok (.iadd, 1) := by decide +kernel
theorem dL_law_876 : decode cL_law 876 = .ok (.iaload, 1) := by decide +kernel
theorem dL_law_877 : decode cL_law 877 = .ok (.invokevirtual 76, 3) := by decide +kernel
theorem dL_law_880 : decode cL_law 880 = .ok (.aload_n 2, 1) := by decide +kernel
theorem dL_law_881 : decode cL_law 881 = .ok (.aload_n 0, 1) := by decide +kernel
theorem dL_law_882 : decode cL_law 882 = .ok (.iload_n 3, 1) := by decide +kernel
theorem dL_law_883 : decode cL_law 883 = .ok (.iconst 1, 1) := by decide +kernel
theorem dL_law_884 : decode cL_law 884 = .ok (.iadd, 1) := by decide +kernel
theorem dL_law_885 : decode cL_law 885 = .ok (.iaload, 1) := by decide +kernel
theorem dL_law_886 : decode cL_law 886 = .ok (.aload_n 0, 1) := by decide +kernel
theorem dL_law_887 : decode cL_law 887 = .ok (.iload_n 3, 1) := by decide +kernel
theorem dL_law_888 : decode cL_law 888 = .ok (.iconst 2, 1) := by decide +kernel
theorem dL_law_889 : decode cL_law 889 = .ok (.iadd, 1) := by decide +kernel
theorem dL_law_890 : decode cL_law 890 = .ok (.iaload, 1) := by decide +kernel
theorem dL_law_891 : decode cL_law 891 = .ok (.invokevirtual 79, 3) := by decide +kernel
theorem dL_law_894 : decode cL_law 894 = .ok (.if_icmp .eq 341, 3) := by decide +kernel
theorem dL_law_897 : decode cL_law 897 = .ok (.iconst 0, 1) := by decide +kernel
theorem dL_law_898 : decode cL_law 898 = .ok (.ireturn, 1) := by decide +kernel
theorem dL_law_899 : decode cL_law 899 = .ok (.aload_n 1, 1) := by decide +kernel
theorem dL_law_900 : decode cL_law 900 = .ok (.aload_n 0, 1) := by decide +kernel
theorem dL_law_901 : decode cL_law 901 = .ok (.iload_n 3, 1) := by decide +kernel
theorem dL_law_902 : decode cL_law 902 = .ok (.iconst 1, 1) := by decide +kernel
theorem dL_law_903 : decode cL_law 903 = .ok (.iadd, 1) := by decide +kernel
theorem dL_law_904 : decode cL_law 904 = .ok (.iaload, 1) := by decide +kernel
theorem dL_law_905 : decode cL_law 905 = .ok (.aload_n 0, 1) := by decide +kernel
theorem dL_law_906 : decode cL_law 906 = .ok (.iload_n 3, 1) := by decide +kernel
theorem dL_law_907 : decode cL_law 907 = .ok (.iconst 2, 1) := by decide +kernel
theorem dL_law_908 : decode cL_law 908 = .ok (.iadd, 1) := by decide +kernel
theorem dL_law_909 : decode cL_law 909 = .ok (.iaload, 1) := by decide +kernel
theorem dL_law_910 : decode cL_law 910 = .ok (.invokevirtual 80, 3) := by decide +kernel
theorem dL_law_913 : decode cL_law 913 = .ok (.aload_n 2, 1) := by decide +kernel
theorem dL_law_914 : decode cL_law 914 = .ok (.aload_n 0, 1) := by decide +kernel
theorem dL_law_915 : decode cL_law 915 = .ok (.iload_n 3, 1) := by decide +kernel
theorem dL_law_916 : decode cL_law 916 = .ok (.iconst 1, 1) := by decide +kernel
theorem dL_law_917 : decode cL_law 917 = .ok (.iadd, 1) := by decide +kernel
theorem dL_law_918 : decode cL_law 918 = .ok (.iaload, 1) := by decide +kernel
theorem dL_law_919 : decode cL_law 919 = .ok (.aload_n 0, 1) := by decide +kernel
theorem dL_law_920 : decode cL_law 920 = .ok (.iload_n 3, 1) := by decide +kernel
theorem dL_law_921 : decode cL_law 921 = .ok (.iconst 2, 1) := by decide +kernel
theorem dL_law_922 : decode cL_law 922 = .ok (.iadd, 1) := by decide +kernel
theorem dL_law_923 : decode cL_law 923 = .ok (.iaload, 1) := by decide +kernel
theorem dL_law_924 : decode cL_law 924 = .ok (.invokevirtual 83, 3) := by decide +kernel
theorem dL_law_927 : decode cL_law 927 = .ok (.if_icmp .eq 308, 3) := by decide +kernel
theorem dL_law_930 : decode cL_law 930 = .ok (.iconst 0, 1) := by decide +kernel
theorem dL_law_931 : decode cL_law 931 = .ok (.ireturn, 1) := by decide +kernel
theorem dL_law_932 : decode cL_law 932 = .ok (.aload_n 1, 1) := by decide +kernel
theorem dL_law_933 : decode cL_law 933 = .ok (.aload_n 0, 1) := by decide +kernel
theorem dL_law_934 : decode cL_law 934 = .ok (.iload_n 3, 1) := by decide +kernel
theorem dL_law_935 : decode cL_law 935 = .ok (.iconst 1, 1) := by decide +kernel
theorem dL_law_936 : decode cL_law 936 = .ok (.iadd, 1) := by decide +kernel
theorem dL_law_937 : decode cL_law 937 = .ok (.iaload, 1) := by decide +kernel
theorem dL_law_938 : decode cL_law 938 = .ok (.aload_n 0, 1) := by decide +kernel
theorem dL_law_939 : decode cL_law 939 = .ok (.iload_n 3, 1) := by decide +kernel
theorem dL_law_940 : decode cL_law 940 = .ok (.iconst 2, 1) := by decide +kernel
theorem dL_law_941 : decode cL_law 941 = .ok (.iadd, 1) := by decide +kernel
theorem dL_law_942 : decode cL_law 942 = .ok (.iaload, 1) := by decide +kernel
theorem dL_law_943 : decode cL_law 943 = .ok (.aload_n 0, 1) := by decide +kernel
theorem dL_law_944 : decode cL_law 944 = .ok (.iload_n 3, 1) := by decide +kernel
theorem dL_law_945 : decode cL_law 945 = .ok (.iconst 3, 1) := by decide +kernel
theorem dL_law_946 : decode cL_law 946 = .ok (.iadd, 1) := by decide +kernel
theorem dL_law_947 : decode cL_law 947 = .ok (.iaload, 1) := by decide +kernel
theorem dL_law_948 : decode cL_law 948 = .ok (.aload_n 0, 1) := by decide +kernel
theorem dL_law_949 : decode cL_law 949 = .ok (.iload_n 3, 1) := by decide +kernel
theorem dL_law_950 : decode cL_law 950 = .ok (.iconst 4, 1) := by decide +kernel
theorem dL_law_951 : decode cL_law 951 = .ok (.iadd, 1) := by decide +kernel
theorem dL_law_952 : decode cL_law 952 = .ok (.iaload, 1) := by decide +kernel
theorem dL_law_953 : decode cL_law 953 = .ok (.aload_n 0, 1) := by decide +kernel
theorem dL_law_954 : decode cL_law 954 = .ok (.iload_n 3, 1) := by decide +kernel
theorem dL_law_955 : decode cL_law 955 = .ok (.iconst 5, 1) := by decide +kernel
theorem dL_law_956 : decode cL_law 956 = .ok (.iadd, 1) := by decide +kernel
theorem dL_law_957 : decode cL_law 957 = .ok (.iaload, 1) := by decide +kernel
theorem dL_law_958 : decode cL_law 958 = .ok (.invokevirtual 84, 3) := by decide +kernel
theorem dL_law_961 : decode cL_law 961 = .ok (.aload_n 2, 1) := by decide +kernel
theorem dL_law_962 : decode cL_law 962 = .ok (.aload_n 0, 1) := by decide +kernel
theorem dL_law_963 : decode cL_law 963 = .ok (.iload_n 3, 1) := by decide +kernel
theorem dL_law_964 : decode cL_law 964 = .ok (.iconst 1, 1) := by decide +kernel
theorem dL_law_965 : decode cL_law 965 = .ok (.iadd, 1) := by decide +kernel
theorem dL_law_966 : decode cL_law 966 = .ok (.iaload, 1) := by decide +kernel
theorem dL_law_967 : decode cL_law 967 = .ok (.aload_n 0, 1) := by decide +kernel
theorem dL_law_968 : decode cL_law 968 = .ok (.iload_n 3, 1) := by decide +kernel
theorem dL_law_969 : decode cL_law 969 = .ok (.iconst 2, 1) := by decide +kernel
theorem dL_law_970 : decode cL_law 970 = .ok (.iadd, 1) := by decide +kernel
theorem dL_law_971 : decode cL_law 971 = .ok (.iaload, 1) := by decide +kernel
theorem dL_law_972 : decode cL_law 972 = .ok (.aload_n 0, 1) := by decide +kernel
theorem dL_law_973 : decode cL_law 973 = .ok (.iload_n 3, 1) := by decide +kernel
theorem dL_law_974 : decode cL_law 974 = .ok (.iconst 3, 1) := by decide +kernel
theorem dL_law_975 : decode cL_law 975 = .ok (.iadd, 1) := by decide +kernel
theorem dL_law_976 : decode cL_law 976 = .ok (.iaload, 1) := by decide +kernel
theorem dL_law_977 : decode cL_law 977 = .ok (.aload_n 0, 1) := by decide +kernel
theorem dL_law_978 : decode cL_law 978 = .ok (.iload_n 3, 1) := by decide +kernel
theorem dL_law_979 : decode cL_law 979 = .ok (.iconst 4, 1) := by decide +kernel
theorem dL_law_980 : decode cL_law 980 = .ok (.iadd, 1) := by decide +kernel
theorem dL_law_981 : decode cL_law 981 = .ok (.iaload, 1) := by decide +kernel
theorem dL_law_982 : decode cL_law 982 = .ok (.aload_n 0, 1) := by decide +kernel
theorem dL_law_983 : decode cL_law 983 = .ok (.iload_n 3, 1) := by decide +kernel
theorem dL_law_984 : decode cL_law 984 = .ok (.iconst 5, 1) := by decide +kernel
theorem dL_law_985 : decode cL_law 985 = .ok (.iadd, 1) := by decide +kernel
theorem dL_law_986 : decode cL_law 986 = .ok (.iaload, 1) := by decide +kernel
theorem dL_law_987 : decode cL_law 987 = .ok (.invokevirtual 87, 3) := by decide +kernel
theorem dL_law_990 : decode cL_law 990 = .ok (.if_icmp .eq 245, 3) := by decide +kernel
theorem dL_law_993 : decode cL_law 993 = .ok (.iconst 0, 1) := by decide +kernel
theorem dL_law_994 : decode cL_law 994 = .ok (.ireturn, 1) := by decide +kernel
theorem dL_law_995 : decode cL_law 995 = .ok (.aload_n 1, 1) := by decide +kernel
theorem dL_law_996 : decode cL_law 996 = .ok (.aload_n 0, 1) := by decide +kernel
theorem dL_law_997 : decode cL_law 997 = .ok (.iload_n 3, 1) := by decide +kernel
theorem dL_law_998 : decode cL_law 998 = .ok (.iconst 1, 1) := by decide +kernel
theorem dL_law_999 : decode cL_law 999 = .ok (.iadd, 1) := by decide +kernel
theorem dL_law_1000 : decode cL_law 1000 = .ok (.iaload, 1) := by decide +kernel
theorem dL_law_1001 : decode cL_law 1001 = .ok (.aload_n 0, 1) := by decide +kernel
theorem dL_law_1002 : decode cL_law 1002 = .ok (.iload_n 3, 1) := by decide +kernel
theorem dL_law_1003 : decode cL_law 1003 = .ok (.iconst 2, 1) := by decide +kernel
theorem dL_law_1004 : decode cL_law 1004 = .ok (.iadd, 1) := by decide +kernel
theorem dL_law_1005 : decode cL_law 1005 = .ok (.iaload, 1) := by decide +kernel
theorem dL_law_1006 : decode cL_law 1006 = .ok (.invokevirtual 88, 3) := by decide +kernel
theorem dL_law_1009 : decode cL_law 1009 = .ok (.aload_n 2, 1) := by decide +kernel
theorem dL_law_1010 : decode cL_law 1010 = .ok (.aload_n 0, 1) := by decide +kernel
theorem dL_law_1011 : decode cL_law 1011 = .ok (.iload_n 3, 1) := by decide +kernel
theorem dL_law_1012 : decode cL_law 1012 = .ok (.iconst 1, 1) := by decide +kernel
theorem dL_law_1013 : decode cL_law 1013 = .ok (.iadd, 1) := by decide +kernel
theorem dL_law_1014 : decode cL_law 1014 = .ok (.iaload, 1) := by decide +kernel
theorem dL_law_1015 : decode cL_law 1015 = .ok (.aload_n 0, 1) := by decide +kernel
theorem dL_law_1016 : decode cL_law 1016 = .ok (.iload_n 3, 1) := by decide +kernel
theorem dL_law_1017 : decode cL_law 1017 = .ok (.iconst 2, 1) := by decide +kernel
theorem dL_law_1018 : decode cL_law 1018 = .ok (.iadd, 1) := by decide +kernel
theorem dL_law_1019 : decode cL_law 1019 = .ok (.iaload, 1) := by decide +kernel
theorem dL_law_1020 : decode cL_law 1020 = .ok (.invokevirtual 91, 3) := by decide +kernel
theorem dL_law_1023 : decode cL_law 1023 = .ok (.if_icmp .eq 212, 3) := by decide +kernel
theorem dL_law_1026 : decode cL_law 1026 = .ok (.iconst 0, 1) := by decide +kernel
theorem dL_law_1027 : decode cL_law 1027 = .ok (.ireturn, 1) := by decide +kernel
theorem dL_law_1028 : decode cL_law 1028 = .ok (.aload_n 1, 1) := by decide +kernel
theorem dL_law_1029 : decode cL_law 1029 = .ok (.aload_n 0, 1) := by decide +kernel
theorem dL_law_1030 : decode cL_law 1030 = .ok (.iload_n 3, 1) := by decide +kernel
theorem dL_law_1031 : decode cL_law 1031 = .ok (.iconst 1, 1) := by decide +kernel
theorem dL_law_1032 : decode cL_law 1032 = .ok (.iadd, 1) := by decide +kernel
theorem dL_law_1033 : decode cL_law 1033 = .ok (.iaload, 1) := by decide +kernel
theorem dL_law_1034 : decode cL_law 1034 = .ok (.aload_n 0, 1) := by decide +kernel
theorem dL_law_1035 : decode cL_law 1035 = .ok (.iload_n 3, 1) := by decide +kernel
theorem dL_law_1036 : decode cL_law 1036 = .ok (.iconst 2, 1) := by decide +kernel
theorem dL_law_1037 : decode cL_law 1037 = .ok (.iadd, 1) := by decide +kernel
theorem dL_law_1038 : decode cL_law 1038 = .ok (.iaload, 1) := by decide +kernel
theorem dL_law_1039 : decode cL_law 1039 = .ok (.aload_n 0, 1) := by decide +kernel
theorem dL_law_1040 : decode cL_law 1040 = .ok (.iload_n 3, 1) := by decide +kernel
theorem dL_law_1041 : decode cL_law 1041 = .ok (.iconst 3, 1) := by decide +kernel
theorem dL_law_1042 : decode cL_law 1042 = .ok (.iadd, 1) := by decide +kernel
theorem dL_law_1043 : decode cL_law 1043 = .ok (.iaload, 1) := by decide +kernel
theorem dL_law_1044 : decode cL_law 1044 = .ok (.aload_n 0, 1) := by decide +kernel
theorem dL_law_1045 : decode cL_law 1045 = .ok (.iload_n 3, 1) := by decide +kernel
theorem dL_law_1046 : decode cL_law 1046 = .ok (.iconst 4, 1) := by decide +kernel
theorem dL_law_1047 : decode cL_law 1047 = .ok (.iadd, 1) := by decide +kernel
theorem dL_law_1048 : decode cL_law 1048 = .ok (.iaload, 1) := by decide +kernel
theorem dL_law_1049 : decode cL_law 1049 = .ok (.aload_n 0, 1) := by decide +kernel
theorem dL_law_1050 : decode cL_law 1050 = .ok (.iload_n 3, 1) := by decide +kernel
theorem dL_law_1051 : decode cL_law 1051 = .ok (.iconst 5, 1) := by decide +kernel
theorem dL_law_1052 : decode cL_law 1052 = .ok (.iadd, 1) := by decide +kernel
theorem dL_law_1053 : decode cL_law 1053 = .ok (.iaload, 1) := by decide +kernel
theorem dL_law_1054 : decode cL_law 1054 = .ok (.aload_n 0, 1) := by decide +kernel
theorem dL_law_1055 : decode cL_law 1055 = .ok (.iload_n 3, 1) := by decide +kernel
theorem dL_law_1056 : decode cL_law 1056 = .ok (.bipush 6, 2) := by decide +kernel
theorem dL_law_1058 : decode cL_law 1058 = .ok (.iadd, 1) := by decide +kernel
theorem dL_law_1059 : decode cL_law 1059 = .ok (.iaload, 1) := by decide +kernel
theorem dL_law_1060 : decode cL_law 1060 = .ok (.invokevirtual 92, 3) := by decide +kernel
theorem dL_law_1063 : decode cL_law 1063 = .ok (.aload_n 2, 1) := by decide +kernel
theorem dL_law_1064 : decode cL_law 1064 = .ok (.aload_n 0, 1) := by decide +kernel
theorem dL_law_1065 : decode cL_law 1065 = .ok (.iload_n 3, 1) := by decide +kernel
theorem dL_law_1066 : decode cL_law 1066 = .ok (.iconst 1, 1) := by decide +kernel
theorem dL_law_1067 : decode cL_law 1067 = .ok (.iadd, 1) := by decide +kernel
theorem dL_law_1068 : decode cL_law 1068 = .ok (.iaload, 1) := by decide +kernel
theorem dL_law_1069 : decode cL_law 1069 = .ok (.aload_n 0, 1) := by decide +kernel
theorem dL_law_1070 : decode cL_law 1070 = .ok (.iload_n 3, 1) := by decide +kernel
theorem dL_law_1071 : decode cL_law 1071 = .ok (.iconst 2, 1) := by decide +kernel
theorem dL_law_1072 : decode cL_law 1072 = .ok (.iadd, 1) := by decide +kernel
theorem dL_law_1073 : decode cL_law 1073 = .ok (.iaload, 1) := by decide +kernel
theorem dL_law_1074 : decode cL_law 1074 = .ok (.aload_n 0, 1) := by decide +kernel
theorem dL_law_1075 : decode cL_law 1075 = .ok (.iload_n 3, 1) := by decide +kernel
theorem dL_law_1076 : decode cL_law 1076 = .ok (.iconst 3, 1) := by decide +kernel
theorem dL_law_1077 : decode cL_law 1077 = .ok (.iadd, 1) := by decide +kernel
theorem dL_law_1078 : decode cL_law 1078 = .ok (.iaload, 1) := by decide +kernel
theorem dL_law_1079 : decode cL_law 1079 = .ok (.aload_n 0, 1) := by decide +kernel
theorem dL_law_1080 : decode cL_law 1080 = .ok (.iload_n 3, 1) := by decide +kernel
theorem dL_law_1081 : decode cL_law 1081 = .ok (.iconst 4, 1) := by decide +kernel
theorem dL_law_1082 : decode cL_law 1082 = .ok (.iadd, 1) := by decide +kernel
theorem dL_law_1083 : decode cL_law 1083 = .ok (.iaload, 1) := by decide +kernel
theorem dL_law_1084 : decode cL_law 1084 = .ok (.aload_n 0, 1) := by decide +kernel
theorem dL_law_1085 : decode cL_law 1085 = .ok (.iload_n 3, 1) := by decide +kernel
theorem dL_law_1086 : decode cL_law 1086 = .ok (.iconst 5, 1) := by decide +kernel
theorem dL_law_1087 : decode cL_law 1087 = .ok (.iadd, 1) := by decide +kernel
theorem dL_law_1088 : decode cL_law 1088 = .ok (.iaload, 1) := by decide +kernel
theorem dL_law_1089 : decode cL_law 1089 = .ok (.aload_n 0, 1) := by decide +kernel
theorem dL_law_1090 : decode cL_law 1090 = .ok (.iload_n 3, 1) := by decide +kernel
theorem dL_law_1091 : decode cL_law 1091 = .ok (.bipush 6, 2) := by decide +kernel
theorem dL_law_1093 : decode cL_law 1093 = .ok (.iadd, 1) := by decide +kernel
theorem dL_law_1094 : decode cL_law 1094 = .ok (.iaload, 1) := by decide +kernel
theorem dL_law_1095 : decode cL_law 1095 = .ok (.invokevirtual 95, 3) := by decide +kernel
theorem dL_law_1098 : decode cL_law 1098 = .ok (.if_icmp .eq 137, 3) := by decide +kernel
theorem dL_law_1101 : decode cL_law 1101 = .ok (.iconst 0, 1) := by decide +kernel
theorem dL_law_1102 : decode cL_law 1102 = .ok (.ireturn, 1) := by decide +kernel
theorem dL_law_1103 : decode cL_law 1103 = .ok (.aload_n 1, 1) := by decide +kernel
theorem dL_law_1104 : decode cL_law 1104 = .ok (.aload_n 0, 1) := by decide +kernel
theorem dL_law_1105 : decode cL_law 1105 = .ok (.iload_n 3, 1) := by decide +kernel
theorem dL_law_1106 : decode cL_law 1106 = .ok (.iconst 1, 1) := by decide +kernel
theorem dL_law_1107 : decode cL_law 1107 = .ok (.iadd, 1) := by decide +kernel
theorem dL_law_1108 : decode cL_law 1108 = .ok (.iaload, 1) := by decide +kernel
theorem dL_law_1109 : decode cL_law 1109 = .ok (.aload_n 0, 1) := by decide +kernel
theorem dL_law_1110 : decode cL_law 1110 = .ok (.iload_n 3, 1) := by decide +kernel
theorem dL_law_1111 : decode cL_law 1111 = .ok (.iconst 2, 1) := by decide +kernel
theorem dL_law_1112 : decode cL_law 1112 = .ok (.iadd, 1) := by decide +kernel
theorem dL_law_1113 : decode cL_law 1113 = .ok (.iaload, 1) := by decide +kernel
theorem dL_law_1114 : decode cL_law 1114 = .ok (.invokevirtual 96, 3) := by decide +kernel
theorem dL_law_1117 : decode cL_law 1117 = .ok (.aload_n 2, 1) := by decide +kernel
theorem dL_law_1118 : decode cL_law 1118 = .ok (.aload_n 0, 1) := by decide +kernel
theorem dL_law_1119 : decode cL_law 1119 = .ok (.iload_n 3, 1) := by decide +kernel
theorem dL_law_1120 : decode cL_law 1120 = .ok (.iconst 1, 1) := by decide +kernel
theorem dL_law_1121 : decode cL_law 1121 = .ok (.iadd, 1) := by decide +kernel
theorem dL_law_1122 : decode cL_law 1122 = .ok (.iaload, 1) := by decide +kernel
theorem dL_law_1123 : decode cL_law 1123 = .ok (.aload_n 0, 1) := by decide +kernel
theorem dL_law_1124 : decode cL_law 1124 = .ok (.iload_n 3, 1) := by decide +kernel
theorem dL_law_1125 : decode cL_law 1125 = .ok (.iconst 2, 1) := by decide +kernel
theorem dL_law_1126 : decode cL_law 1126 = .ok (.iadd, 1) := by decide +kernel
theorem dL_law_1127 : decode cL_law 1127 = .ok (.iaload, 1) := by decide +kernel
theorem dL_law_1128 : decode cL_law 1128 = .ok (.invokevirtual 99, 3) := by decide +kernel
theorem dL_law_1131 : decode cL_law 1131 = .ok (.if_icmp .eq 104, 3) := by decide +kernel
theorem dL_law_1134 : decode cL_law 1134 = .ok (.iconst 0, 1) := by decide +kernel
theorem dL_law_1135 : decode cL_law 1135 = .ok (.ireturn, 1) := by decide +kernel
theorem dL_law_1136 : decode cL_law 1136 = .ok (.aload_n 1, 1) := by decide +kernel
theorem dL_law_1137 : decode cL_law 1137 = .ok (.aload_n 0, 1) := by decide +kernel
theorem dL_law_1138 : decode cL_law 1138 = .ok (.iload_n 3, 1) := by decide +kernel
theorem dL_law_1139 : decode cL_law 1139 = .ok (.iconst 1, 1) := by decide +kernel
theorem dL_law_1140 : decode cL_law 1140 = .ok (.iadd, 1) := by decide +kernel
theorem dL_law_1141 : decode cL_law 1141 = .ok (.iaload, 1) := by decide +kernel
theorem dL_law_1142 : decode cL_law 1142 = .ok (.invokevirtual 100, 3) := by decide +kernel
theorem dL_law_1145 : decode cL_law 1145 = .ok (.aload_n 2, 1) := by decide +kernel
theorem dL_law_1146 : decode cL_law 1146 = .ok (.aload_n 0, 1) := by decide +kernel
theorem dL_law_1147 : decode cL_law 1147 = .ok (.iload_n 3, 1) := by decide +kernel
theorem dL_law_1148 : decode cL_law 1148 = .ok (.iconst 1, 1) := by decide +kernel
theorem dL_law_1149 : decode cL_law 1149 = .ok (.iadd, 1) := by decide +kernel
theorem dL_law_1150 : decode cL_law 1150 = .ok (.iaload, 1) := by decide +kernel
theorem dL_law_1151 : decode cL_law 1151 = .ok (.invokevirtual 104, 3) := by decide +kernel
theorem dL_law_1154 : decode cL_law 1154 = .ok (.if_icmp .eq 81, 3) := by decide +kernel
theorem dL_law_1157 : decode cL_law 1157 = .ok (.iconst 0, 1) := by decide +kernel
theorem dL_law_1158 : decode cL_law 1158 = .ok (.ireturn, 1) := by decide +kernel
theorem dL_law_1159 : decode cL_law 1159 = .ok (.aload_n 1, 1) := by decide +kernel
theorem dL_law_1160 : decode cL_law 1160 = .ok (.invokevirtual 105, 3) := by decide +kernel
theorem dL_law_1163 : decode cL_law 1163 = .ok (.aload_n 2, 1) := by decide +kernel
theorem dL_law_1164 : decode cL_law 1164 = .ok (.invokevirtual 108, 3) := by decide +kernel
theorem dL_law_1167 : decode cL_law 1167 = .ok (.if_icmp .eq 68, 3) := by decide +kernel
theorem dL_law_1170 : decode cL_law 1170 = .ok (.iconst 0, 1) := by decide +kernel
theorem dL_law_1171 : decode cL_law 1171 = .ok (.ireturn, 1) := by decide +kernel
theorem dL_law_1172 : decode cL_law 1172 = .ok (.aload_n 1, 1) := by decide +kernel
theorem dL_law_1173 : decode cL_law 1173 = .ok (.invokevirtual 109, 3) := by decide +kernel
theorem dL_law_1176 : decode cL_law 1176 = .ok (.aload_n 2, 1) := by decide +kernel
theorem dL_law_1177 : decode cL_law 1177 = .ok (.invokevirtual 112, 3) := by decide +kernel
theorem dL_law_1180 : decode cL_law 1180 = .ok (.if_icmp .eq 55, 3) := by decide +kernel
theorem dL_law_1183 : decode cL_law 1183 = .ok (.iconst 0, 1) := by decide +kernel
theorem dL_law_1184 : decode cL_law 1184 = .ok (.ireturn, 1) := by decide +kernel
theorem dL_law_1185 : decode cL_law 1185 = .ok (.aload_n 1, 1) := by decide +kernel
theorem dL_law_1186 : decode cL_law 1186 = .ok (.invokevirtual 113, 3) := by decide +kernel
theorem dL_law_1189 : decode cL_law 1189 = .ok (.aload_n 2, 1) := by decide +kernel
theorem dL_law_1190 : decode cL_law 1190 = .ok (.invokevirtual 116, 3) := by decide +kernel
theorem dL_law_1193 : decode cL_law 1193 = .ok (.if_icmp .eq 42, 3) := by decide +kernel
theorem dL_law_1196 : decode cL_law 1196 = .ok (.iconst 0, 1) := by decide +kernel
theorem dL_law_1197 : decode cL_law 1197 = .ok (.ireturn, 1) := by decide +kernel
theorem dL_law_1198 : decode cL_law 1198 = .ok (.aload_n 1, 1) := by decide +kernel
theorem dL_law_1199 : decode cL_law 1199 = .ok (.aload_n 0, 1) := by decide +kernel
theorem dL_law_1200 : decode cL_law 1200 = .ok (.iload_n 3, 1) := by decide +kernel
theorem dL_law_1201 : decode cL_law 1201 = .ok (.iconst 1, 1) := by decide +kernel
theorem dL_law_1202 : decode cL_law 1202 = .ok (.iadd, 1) := by decide +kernel
theorem dL_law_1203 : decode cL_law 1203 = .ok (.iaload, 1) := by decide +kernel
theorem dL_law_1204 : decode cL_law 1204 = .ok (.invokevirtual 117, 3) := by decide +kernel
theorem dL_law_1207 : decode cL_law 1207 = .ok (.aload_n 2, 1) := by decide +kernel
theorem dL_law_1208 : decode cL_law 1208 = .ok (.aload_n 0, 1) := by decide +kernel
theorem dL_law_1209 : decode cL_law 1209 = .ok (.iload_n 3, 1) := by decide +kernel
theorem dL_law_1210 : decode cL_law 1210 = .ok (.iconst 1, 1) := by decide +kernel
theorem dL_law_1211 : decode cL_law 1211 = .ok (.iadd, 1) := by decide +kernel
theorem dL_law_1212 : decode cL_law 1212 = .ok (.iaload, 1) := by decide +kernel
theorem dL_law_1213 : decode cL_law 1213 = .ok (.invokevirtual 120, 3) := by decide +kernel
theorem dL_law_1216 : decode cL_law 1216 = .ok (.if_icmp .eq 19, 3) := by decide +kernel
theorem dL_law_1219 : decode cL_law 1219 = .ok (.iconst 0, 1) := by decide +kernel
theorem dL_law_1220 : decode cL_law 1220 = .ok (.ireturn, 1) := by decide +kernel
theorem dL_law_1221 : decode cL_law 1221 = .ok (.aload_n 1, 1) := by decide +kernel
theorem dL_law_1222 : decode cL_law 1222 = .ok (.invokevirtual 121, 3) := by decide +kernel
theorem dL_law_1225 : decode cL_law 1225 = .ok (.aload_n 2, 1) := by decide +kernel
theorem dL_law_1226 : decode cL_law 1226 = .ok (.invokevirtual 125, 3) := by decide +kernel
theorem dL_law_1229 : decode cL_law 1229 = .ok (.lcmp, 1) := by decide +kernel
theorem dL_law_1230 : decode cL_law 1230 = .ok (.ifCond .eq 5, 3) := by decide +kernel
theorem dL_law_1233 : decode cL_law 1233 = .ok (.iconst 0, 1) := by decide +kernel
theorem dL_law_1234 : decode cL_law 1234 = .ok (.ireturn, 1) := by decide +kernel
theorem dL_law_1235 : decode cL_law 1235 = .ok (.iinc 3 10, 3) := by decide +kernel
theorem dL_law_1238 : decode cL_law 1238 = .ok (.goto (-1220), 3) := by decide +kernel
theorem dL_law_1241 : decode cL_law 1241 = .ok (.iconst 1, 1) := by decide +kernel
theorem dL_law_1242 : decode cL_law 1242 = .ok (.ireturn, 1) := by decide +kernel
end
section
def gW : List Cond := lw_tbl.filter goodWord
theorem gW_of {n : Nat} {w : Cond} (h : lw_tbl[n]? = some w) (g : goodWord w = true) : w ∈ gW := List.mem_filter.mpr ⟨List.mem_of_getElem? h, g⟩
theorem gW_good {w : Cond} (h : w ∈ gW) : goodWord w = true := (List.mem_filter.mp h).2
theorem gW_tbl {w : Cond} (h : w ∈ gW) : w ∈ lw_tbl := (List.mem_filter.mp h).1
theorem gW_in {y : MethodName} {c : ByteArray} {n : Nat} {r : Option FieldType} (h : Cond.code y c n r ∈ gW) : GoodIn gW (Cond.code y c n r :: gW) := fun w hw => by
  rcases List.mem_cons.mp hw with rfl | hw
  · exact ⟨h, good_of_word (gW_good h)⟩
  · exact ⟨hw, good_of_word (gW_good hw)⟩
def zIsN : Cond → Bool
  | .methodLinkNest .. => true
  | _ => false
def nW : List Cond := lw_tbl.filter zIsN
theorem nW_of {n : Nat} {w : Cond} (h : lw_tbl[n]? = some w) (g : zIsN w = true) : w ∈ nW := List.mem_filter.mpr ⟨List.mem_of_getElem? h, g⟩
theorem nW_warm {s U : State} (hW : s.WarmedH U.vm) {w : Cond} (hw : w ∈ nW) (h : va_Nw w s) : va_Nw w U := by
  have g := (List.mem_filter.mp hw).2
  cases w <;> first | exact va_Nw.warmM hW h | (simp [zIsN] at g; done)
theorem nW_on {w : Cond} (hw : w ∈ nW) : w.onTables = true := by
  have g := (List.mem_filter.mp hw).2
  cases w <;> first | rfl | (simp [zIsN] at g; done)

theorem q_0 : (Cond.selects RX8 yX8_refusedBad yX8_refusedBad) ∈ gW := gW_of (n := 0) (by decide +kernel) rfl
theorem q_1 : (Cond.selects RX8 yX8_refusedFull yX8_refusedFull) ∈ gW := gW_of (n := 1) (by decide +kernel) rfl
theorem q_2 : (Cond.selects RX3 yX3_movesBlock yX3_movesBlock) ∈ gW := gW_of (n := 2) (by decide +kernel) rfl
theorem q_3 : (Cond.selects RX3 yX3_keepsSource yX3_keepsSource) ∈ gW := gW_of (n := 3) (by decide +kernel) rfl
theorem q_4 : (Cond.selects RX3 yX3_sourceAt yX3_sourceAt) ∈ gW := gW_of (n := 4) (by decide +kernel) rfl
theorem q_5 : (Cond.selects RX3 yX3_drawsLine yX3_drawsLine) ∈ gW := gW_of (n := 5) (by decide +kernel) rfl
theorem q_6 : (Cond.selects RX3 yX3_floods yX3_floods) ∈ gW := gW_of (n := 6) (by decide +kernel) rfl
theorem q_7 : (Cond.selects RX4 yX4_reaches yX4_reaches) ∈ gW := gW_of (n := 7) (by decide +kernel) rfl
theorem q_8 : (Cond.selects RX3 yX3_fillsRectangle yX3_fillsRectangle) ∈ gW := gW_of (n := 8) (by decide +kernel) rfl
theorem q_9 : (Cond.selects RX3 yX3_writesLetter yX3_writesLetter) ∈ gW := gW_of (n := 9) (by decide +kernel) rfl
theorem q_10 : (Cond.selects RX8 yX8_refusedNo yX8_refusedNo) ∈ gW := gW_of (n := 10) (by decide +kernel) rfl
theorem q_11 : (Cond.selects RX7 yX7_changedRow yX7_changedRow) ∈ gW := gW_of (n := 11) (by decide +kernel) rfl
theorem q_12 : (Cond.selects RX7 yX7_grownRow yX7_grownRow) ∈ gW := gW_of (n := 12) (by decide +kernel) rfl
theorem q_13 : (Cond.selects RX7 yX7_thinnedRow yX7_thinnedRow) ∈ gW := gW_of (n := 13) (by decide +kernel) rfl
theorem q_14 : (Cond.selects RX7 yX7_becomesWhatComes yX7_becomesWhatComes) ∈ gW := gW_of (n := 14) (by decide +kernel) rfl
theorem q_15 : (Cond.selects RX0 yX0_partsOf yX0_partsOf) ∈ gW := gW_of (n := 15) (by decide +kernel) rfl
theorem q_16 : (Cond.selects RX0 yX0_leastX yX0_leastX) ∈ gW := gW_of (n := 16) (by decide +kernel) rfl
theorem q_17 : (Cond.selects RX0 yX0_columnsOf yX0_columnsOf) ∈ gW := gW_of (n := 17) (by decide +kernel) rfl
theorem q_18 : (Cond.selects RX0 yX0_greatestX yX0_greatestX) ∈ gW := gW_of (n := 18) (by decide +kernel) rfl
theorem q_19 : (Cond.selects RX0 yX0_leastY yX0_leastY) ∈ gW := gW_of (n := 19) (by decide +kernel) rfl
theorem q_20 : (Cond.selects RX0 yX0_greatestY yX0_greatestY) ∈ gW := gW_of (n := 20) (by decide +kernel) rfl
theorem q_21 : (Cond.selects RX0 yX0_openDots yX0_openDots) ∈ gW := gW_of (n := 21) (by decide +kernel) rfl
theorem q_22 : (Cond.selects RX2 yX2_skipsBlanks yX2_skipsBlanks) ∈ gW := gW_of (n := 22) (by decide +kernel) rfl
theorem q_23 : (Cond.selects RX2 yX2_byteHere yX2_byteHere) ∈ gW := gW_of (n := 23) (by decide +kernel) rfl
theorem q_24 : (Cond.selects RX2 yX2_readsNumber yX2_readsNumber) ∈ gW := gW_of (n := 24) (by decide +kernel) rfl
theorem q_25 : (Cond.selects RX8 yX8_tally yX8_tally) ∈ gW := gW_of (n := 25) (by decide +kernel) rfl
theorem q_26 : (Cond.selects RX9 yX9_bad yX9_bad) ∈ gW := gW_of (n := 26) (by decide +kernel) rfl
theorem q_27 : (Cond.selects RX9 yX9_keep yX9_keep) ∈ gW := gW_of (n := 27) (by decide +kernel) rfl
theorem q_28 : (Cond.selects RX9 yX9_sets yX9_sets) ∈ gW := gW_of (n := 28) (by decide +kernel) rfl
theorem q_29 : (Cond.selects RX9 yX9_dotOf yX9_dotOf) ∈ gW := gW_of (n := 29) (by decide +kernel) rfl
theorem q_30 : (Cond.selects RX9 yX9_dots yX9_dots) ∈ gW := gW_of (n := 30) (by decide +kernel) rfl
theorem q_31 : (Cond.selects RX9 yX9_full yX9_full) ∈ gW := gW_of (n := 31) (by decide +kernel) rfl
theorem q_32 : (Cond.selects RX9 yX9_opens yX9_opens) ∈ gW := gW_of (n := 32) (by decide +kernel) rfl
theorem q_33 : (Cond.selects RX9 yX9_shuts yX9_shuts) ∈ gW := gW_of (n := 33) (by decide +kernel) rfl
theorem q_34 : (Cond.selects RX9 yX9_moves yX9_moves) ∈ gW := gW_of (n := 34) (by decide +kernel) rfl
theorem q_35 : (Cond.selects RX9 yX9_copies yX9_copies) ∈ gW := gW_of (n := 35) (by decide +kernel) rfl
theorem q_36 : (Cond.selects RX9 yX9_asideAt yX9_asideAt) ∈ gW := gW_of (n := 36) (by decide +kernel) rfl
theorem q_37 : (Cond.selects RX9 yX9_joinsAt yX9_joinsAt) ∈ gW := gW_of (n := 37) (by decide +kernel) rfl
theorem q_38 : (Cond.selects RX9 yX9_isOpen yX9_isOpen) ∈ gW := gW_of (n := 38) (by decide +kernel) rfl
theorem q_39 : (Cond.selects RX9 yX9_patternAt yX9_patternAt) ∈ gW := gW_of (n := 39) (by decide +kernel) rfl
theorem q_40 : (Cond.selects RX9 yX9_lines yX9_lines) ∈ gW := gW_of (n := 40) (by decide +kernel) rfl
theorem q_41 : (Cond.selects RX9 yX9_mayFlood yX9_mayFlood) ∈ gW := gW_of (n := 41) (by decide +kernel) rfl
theorem q_42 : (Cond.selects RX9 yX9_no yX9_no) ∈ gW := gW_of (n := 42) (by decide +kernel) rfl
theorem q_43 : (Cond.selects RX9 yX9_floods yX9_floods) ∈ gW := gW_of (n := 43) (by decide +kernel) rfl
theorem q_44 : (Cond.selects RX9 yX9_noneCame yX9_noneCame) ∈ gW := gW_of (n := 44) (by decide +kernel) rfl
theorem q_45 : (Cond.selects RX9 yX9_spreads yX9_spreads) ∈ gW := gW_of (n := 45) (by decide +kernel) rfl
theorem q_46 : (Cond.selects RX9 yX9_comes yX9_comes) ∈ gW := gW_of (n := 46) (by decide +kernel) rfl
theorem q_47 : (Cond.selects RX9 yX9_rectangles yX9_rectangles) ∈ gW := gW_of (n := 47) (by decide +kernel) rfl
theorem q_48 : (Cond.selects RX9 yX9_letters yX9_letters) ∈ gW := gW_of (n := 48) (by decide +kernel) rfl
theorem q_49 : (Cond.selects RX9 yX9_changed yX9_changed) ∈ gW := gW_of (n := 49) (by decide +kernel) rfl
theorem q_50 : (Cond.selects RX9 yX9_sides yX9_sides) ∈ gW := gW_of (n := 50) (by decide +kernel) rfl
theorem q_51 : (Cond.selects RX9 yX9_partsOf yX9_partsOf) ∈ gW := gW_of (n := 51) (by decide +kernel) rfl
theorem q_52 : (Cond.selects RX9 yX9_openDots yX9_openDots) ∈ gW := gW_of (n := 52) (by decide +kernel) rfl
theorem q_53 : (Cond.selects RX9 yX9_edge yX9_edge) ∈ gW := gW_of (n := 53) (by decide +kernel) rfl
theorem q_54 : (Cond.selects RX9 yX9_isLike yX9_isLike) ∈ gW := gW_of (n := 54) (by decide +kernel) rfl
theorem q_55 : (Cond.selects RX9 yX9_goesThrough yX9_goesThrough) ∈ gW := gW_of (n := 55) (by decide +kernel) rfl
theorem q_56 : (Cond.selects RX9 yX9_reads yX9_reads) ∈ gW := gW_of (n := 56) (by decide +kernel) rfl
theorem q_57 : (Cond.selects RX9 yX9_skip yX9_skip) ∈ gW := gW_of (n := 57) (by decide +kernel) rfl
theorem q_58 : (Cond.selects RX9 yX9_takes yX9_takes) ∈ gW := gW_of (n := 58) (by decide +kernel) rfl
theorem q_59 : (Cond.selects RX9 yX9_isByte yX9_isByte) ∈ gW := gW_of (n := 59) (by decide +kernel) rfl
theorem q_60 : (Cond.selects RX9 yX9_doesOne yX9_doesOne) ∈ gW := gW_of (n := 60) (by decide +kernel) rfl
theorem q_61 : (Cond.selects RX9 yX9_toldOf yX9_toldOf) ∈ gW := gW_of (n := 61) (by decide +kernel) rfl
theorem q_62 : (Cond.initialized RL) ∈ gW := gW_of (n := 62) (by decide +kernel) rfl
theorem q_63 : (Cond.initialized RX8) ∈ gW := gW_of (n := 63) (by decide +kernel) rfl
theorem q_64 : (Cond.initialized RX6) ∈ gW := gW_of (n := 64) (by decide +kernel) rfl
theorem q_65 : (Cond.initialized RJ7) ∈ gW := gW_of (n := 65) (by decide +kernel) rfl
theorem q_66 : (Cond.initialized RX4) ∈ gW := gW_of (n := 66) (by decide +kernel) rfl
theorem q_67 : (Cond.initialized RX5) ∈ gW := gW_of (n := 67) (by decide +kernel) rfl
theorem q_68 : (Cond.initialized RX3) ∈ gW := gW_of (n := 68) (by decide +kernel) rfl
theorem q_69 : (Cond.initialized RX7) ∈ gW := gW_of (n := 69) (by decide +kernel) rfl
theorem q_70 : (Cond.initialized RX0) ∈ gW := gW_of (n := 70) (by decide +kernel) rfl
theorem q_71 : (Cond.initialized RX1) ∈ gW := gW_of (n := 71) (by decide +kernel) rfl
theorem q_72 : (Cond.initialized RX2) ∈ gW := gW_of (n := 72) (by decide +kernel) rfl
theorem q_73 : (Cond.initialized RX9) ∈ gW := gW_of (n := 73) (by decide +kernel) rfl
theorem q_74 : (Cond.initialized RJ10) ∈ gW := gW_of (n := 74) (by decide +kernel) rfl
theorem q_75 : (Cond.initialized RJ9) ∈ gW := gW_of (n := 75) (by decide +kernel) rfl
theorem q_76 : (Cond.initialized RJ6) ∈ gW := gW_of (n := 76) (by decide +kernel) rfl
theorem q_77 : (Cond.initialized RJ0) ∈ gW := gW_of (n := 77) (by decide +kernel) rfl
theorem q_78 : (Cond.initialized RJ1) ∈ gW := gW_of (n := 78) (by decide +kernel) rfl
theorem q_79 : (Cond.initialized RJ3) ∈ gW := gW_of (n := 79) (by decide +kernel) rfl
theorem q_80 : (Cond.initialized RJ2) ∈ gW := gW_of (n := 80) (by decide +kernel) rfl
theorem q_81 : (Cond.classLink RL 7 "PictureMoves") ∈ gW := gW_of (n := 81) (by decide +kernel) rfl
theorem q_82 : (Cond.instantiable RX8 10) ∈ gW := gW_of (n := 82) (by decide +kernel) rfl
theorem q_83 : (Cond.methodLink RL 9 yX8_init) ∈ gW := gW_of (n := 83) (by decide +kernel) rfl
theorem q_84 : (Cond.instanceMethod yX8_init) ∈ gW := gW_of (n := 84) (by decide +kernel) rfl
theorem q_85 : (Cond.code yX8_init prog_1_method_1_code 3 (Option.none : Option Jvm.ClassFile.FieldType)) ∈ gW := gW_of (n := 85) (by decide +kernel) rfl
theorem q_86 : (Cond.methodLink RX8 1 ({ cls := "java/lang/Object", name := "<init>", desc := "()V" } : Jvm.MethodName)) ∈ gW := gW_of (n := 86) (by decide +kernel) rfl
theorem q_87 : (Cond.instanceMethod ({ cls := "java/lang/Object", name := "<init>", desc := "()V" } : Jvm.MethodName)) ∈ gW := gW_of (n := 87) (by decide +kernel) rfl
theorem q_88 : (Cond.code ({ cls := "java/lang/Object", name := "<init>", desc := "()V" } : Jvm.MethodName) object_method_1_code 1 (Option.none : Option Jvm.ClassFile.FieldType)) ∈ gW := gW_of (n := 88) (by decide +kernel) rfl
theorem q_89 : (Cond.classLink RX8 7 "PictureMoves$Scene") ∈ gW := gW_of (n := 89) (by decide +kernel) rfl
theorem q_90 : (Cond.instantiable RX6 4) ∈ gW := gW_of (n := 90) (by decide +kernel) rfl
theorem q_91 : (Cond.methodLink RX8 9 yX6_init) ∈ gW := gW_of (n := 91) (by decide +kernel) rfl
theorem q_92 : (Cond.instanceMethod yX6_init) ∈ gW := gW_of (n := 92) (by decide +kernel) rfl
theorem q_93 : (Cond.code yX6_init prog_8_method_1_code 1 (Option.none : Option Jvm.ClassFile.FieldType)) ∈ gW := gW_of (n := 93) (by decide +kernel) rfl
theorem q_94 : (Cond.methodLink RX6 3 ({ cls := "java/lang/Object", name := "<init>", desc := "()V" } : Jvm.MethodName)) ∈ gW := gW_of (n := 94) (by decide +kernel) rfl
theorem q_95 : (Cond.methodLink RX6 21 yJ7_fill_53178) ∈ gW := gW_of (n := 95) (by decide +kernel) rfl
theorem q_96 : (Cond.static yJ7_fill_53178) ∈ gW := gW_of (n := 96) (by decide +kernel) rfl
theorem q_97 : (Cond.code yJ7_fill_53178 prog_18_method_103_code 4 (Option.none : Option Jvm.ClassFile.FieldType)) ∈ gW := gW_of (n := 97) (by decide +kernel) rfl
theorem q_98 : (Cond.fieldLink RX6 9 "PictureMoves$Scene" "rows" "[I") ∈ gW := gW_of (n := 98) (by decide +kernel) rfl
theorem q_99 : (Cond.fieldLink RX6 15 "PictureMoves$Scene" "patternRows" "[I") ∈ gW := gW_of (n := 99) (by decide +kernel) rfl
theorem q_100 : (Cond.fieldLink RX8 100 "PictureMoves$Scene" "patternRows" "[I") ∈ gW := gW_of (n := 100) (by decide +kernel) rfl
theorem q_101 : (Cond.fieldLink RX6 18 "PictureMoves$Scene" "openings" "[I") ∈ gW := gW_of (n := 101) (by decide +kernel) rfl
theorem q_102 : (Cond.fieldLink RX6 33 "PictureMoves$Scene" "openingCount" "I") ∈ gW := gW_of (n := 102) (by decide +kernel) rfl
theorem q_103 : (Cond.fieldLink RX3 59 "PictureMoves$Scene" "openingCount" "I") ∈ gW := gW_of (n := 103) (by decide +kernel) rfl
theorem q_104 : (Cond.fieldLink RX8 124 "PictureMoves$Scene" "openingCount" "I") ∈ gW := gW_of (n := 104) (by decide +kernel) rfl
theorem q_105 : (Cond.laysFinal "PictureMoves$Scene" "PictureMoves$Scene" "rows" "[I") ∈ gW := gW_of (n := 105) (by decide +kernel) rfl
theorem q_107 : (Cond.laysFinal "PictureMoves$Scene" "PictureMoves$Scene" "patternRows" "[I") ∈ gW := gW_of (n := 107) (by decide +kernel) rfl
theorem q_109 : (Cond.laysFinal "PictureMoves$Scene" "PictureMoves$Scene" "openings" "[I") ∈ gW := gW_of (n := 109) (by decide +kernel) rfl
theorem q_111 : (Cond.lays "PictureMoves$Scene" "PictureMoves$Scene" "openingCount" "I") ∈ gW := gW_of (n := 111) (by decide +kernel) rfl
theorem q_114 : (Cond.arrayClass FieldType.int) ∈ gW := gW_of (n := 114) (by decide +kernel) rfl
theorem q_115 : (Cond.classLink RX8 10 "PictureMoves$Parts") ∈ gW := gW_of (n := 115) (by decide +kernel) rfl
theorem q_116 : (Cond.instantiable RX4 4) ∈ gW := gW_of (n := 116) (by decide +kernel) rfl
theorem q_117 : (Cond.methodLinkNest RX8 12 yX4_init "PictureMoves") ∈ nW := nW_of (n := 117) (by decide +kernel) rfl
theorem q_118 : (Cond.instanceMethod yX4_init) ∈ gW := gW_of (n := 118) (by decide +kernel) rfl
theorem q_119 : (Cond.code yX4_init prog_6_method_1_code 1 (Option.none : Option Jvm.ClassFile.FieldType)) ∈ gW := gW_of (n := 119) (by decide +kernel) rfl
theorem q_120 : (Cond.methodLink RX4 3 ({ cls := "java/lang/Object", name := "<init>", desc := "()V" } : Jvm.MethodName)) ∈ gW := gW_of (n := 120) (by decide +kernel) rfl
theorem q_121 : (Cond.fieldLink RX4 9 "PictureMoves$Parts" "left" "[I") ∈ gW := gW_of (n := 121) (by decide +kernel) rfl
theorem q_122 : (Cond.fieldLink RX3 112 "PictureMoves$Parts" "left" "[I") ∈ gW := gW_of (n := 122) (by decide +kernel) rfl
theorem q_123 : (Cond.fieldLink RX0 71 "PictureMoves$Parts" "left" "[I") ∈ gW := gW_of (n := 123) (by decide +kernel) rfl
theorem q_124 : (Cond.fieldLink RX4 15 "PictureMoves$Parts" "stepRows" "[I") ∈ gW := gW_of (n := 124) (by decide +kernel) rfl
theorem q_125 : (Cond.fieldLink RX4 18 "PictureMoves$Parts" "stepDots" "[I") ∈ gW := gW_of (n := 125) (by decide +kernel) rfl
theorem q_126 : (Cond.fieldLink RX4 21 "PictureMoves$Parts" "steps" "I") ∈ gW := gW_of (n := 126) (by decide +kernel) rfl
theorem q_127 : (Cond.laysFinal "PictureMoves$Parts" "PictureMoves$Parts" "left" "[I") ∈ gW := gW_of (n := 127) (by decide +kernel) rfl
theorem q_129 : (Cond.laysFinal "PictureMoves$Parts" "PictureMoves$Parts" "stepRows" "[I") ∈ gW := gW_of (n := 129) (by decide +kernel) rfl
theorem q_131 : (Cond.laysFinal "PictureMoves$Parts" "PictureMoves$Parts" "stepDots" "[I") ∈ gW := gW_of (n := 131) (by decide +kernel) rfl
theorem q_133 : (Cond.lays "PictureMoves$Parts" "PictureMoves$Parts" "steps" "I") ∈ gW := gW_of (n := 133) (by decide +kernel) rfl
theorem q_136 : (Cond.classLink RX8 19 "PictureMoves$Past") ∈ gW := gW_of (n := 136) (by decide +kernel) rfl
theorem q_137 : (Cond.instantiable RX5 3) ∈ gW := gW_of (n := 137) (by decide +kernel) rfl
theorem q_138 : (Cond.methodLink RX8 21 yX5_init) ∈ gW := gW_of (n := 138) (by decide +kernel) rfl
theorem q_139 : (Cond.instanceMethod yX5_init) ∈ gW := gW_of (n := 139) (by decide +kernel) rfl
theorem q_140 : (Cond.code yX5_init prog_7_method_1_code 2 (Option.none : Option Jvm.ClassFile.FieldType)) ∈ gW := gW_of (n := 140) (by decide +kernel) rfl
theorem q_141 : (Cond.methodLink RX5 3 ({ cls := "java/lang/Object", name := "<init>", desc := "()V" } : Jvm.MethodName)) ∈ gW := gW_of (n := 141) (by decide +kernel) rfl
theorem q_142 : (Cond.classLink RX5 9 "PictureMoves$Scene") ∈ gW := gW_of (n := 142) (by decide +kernel) rfl
theorem q_144 : (Cond.methodLink RX5 17 yX6_init) ∈ gW := gW_of (n := 144) (by decide +kernel) rfl
theorem q_145 : (Cond.fieldLink RX5 11 "PictureMoves$Past" "kept" "[LPictureMoves$Scene;") ∈ gW := gW_of (n := 145) (by decide +kernel) rfl
theorem q_146 : (Cond.fieldLink RX5 18 "PictureMoves$Past" "next" "I") ∈ gW := gW_of (n := 146) (by decide +kernel) rfl
theorem q_147 : (Cond.fieldLink RX5 26 "PictureMoves$Past" "size" "I") ∈ gW := gW_of (n := 147) (by decide +kernel) rfl
theorem q_148 : (Cond.fieldLink RX8 192 "PictureMoves$Past" "size" "I") ∈ gW := gW_of (n := 148) (by decide +kernel) rfl
theorem q_149 : (Cond.laysFinal "PictureMoves$Past" "PictureMoves$Past" "kept" "[LPictureMoves$Scene;") ∈ gW := gW_of (n := 149) (by decide +kernel) rfl
theorem q_151 : (Cond.lays "PictureMoves$Past" "PictureMoves$Past" "next" "I") ∈ gW := gW_of (n := 151) (by decide +kernel) rfl
theorem q_153 : (Cond.lays "PictureMoves$Past" "PictureMoves$Past" "size" "I") ∈ gW := gW_of (n := 153) (by decide +kernel) rfl
theorem q_156 : (Cond.classLink RX8 26 "PictureMoves$Painter") ∈ gW := gW_of (n := 156) (by decide +kernel) rfl
theorem q_157 : (Cond.instantiable RX3 4) ∈ gW := gW_of (n := 157) (by decide +kernel) rfl
theorem q_158 : (Cond.methodLink RX8 28 yX3_init) ∈ gW := gW_of (n := 158) (by decide +kernel) rfl
theorem q_159 : (Cond.instanceMethod yX3_init) ∈ gW := gW_of (n := 159) (by decide +kernel) rfl
theorem q_160 : (Cond.code yX3_init prog_5_method_1_code 3 (Option.none : Option Jvm.ClassFile.FieldType)) ∈ gW := gW_of (n := 160) (by decide +kernel) rfl
theorem q_161 : (Cond.methodLink RX3 3 ({ cls := "java/lang/Object", name := "<init>", desc := "()V" } : Jvm.MethodName)) ∈ gW := gW_of (n := 161) (by decide +kernel) rfl
theorem q_162 : (Cond.fieldLink RX3 18 "PictureMoves$Painter" "scene" "LPictureMoves$Scene;") ∈ gW := gW_of (n := 162) (by decide +kernel) rfl
theorem q_163 : (Cond.fieldLink RX3 22 "PictureMoves$Painter" "parts" "LPictureMoves$Parts;") ∈ gW := gW_of (n := 163) (by decide +kernel) rfl
theorem q_164 : (Cond.fieldLink RX3 9 "PictureMoves$Painter" "source" "[I") ∈ gW := gW_of (n := 164) (by decide +kernel) rfl
theorem q_165 : (Cond.fieldLink RX3 15 "PictureMoves$Painter" "like" "[I") ∈ gW := gW_of (n := 165) (by decide +kernel) rfl
theorem q_166 : (Cond.laysFinal "PictureMoves$Painter" "PictureMoves$Painter" "scene" "LPictureMoves$Scene;") ∈ gW := gW_of (n := 166) (by decide +kernel) rfl
theorem q_168 : (Cond.laysFinal "PictureMoves$Painter" "PictureMoves$Painter" "parts" "LPictureMoves$Parts;") ∈ gW := gW_of (n := 168) (by decide +kernel) rfl
theorem q_170 : (Cond.laysFinal "PictureMoves$Painter" "PictureMoves$Painter" "source" "[I") ∈ gW := gW_of (n := 170) (by decide +kernel) rfl
theorem q_172 : (Cond.laysFinal "PictureMoves$Painter" "PictureMoves$Painter" "like" "[I") ∈ gW := gW_of (n := 172) (by decide +kernel) rfl
theorem q_175 : (Cond.classLink RX8 35 "PictureMoves$Whole") ∈ gW := gW_of (n := 175) (by decide +kernel) rfl
theorem q_176 : (Cond.instantiable RX7 2) ∈ gW := gW_of (n := 176) (by decide +kernel) rfl
theorem q_177 : (Cond.methodLink RX8 37 yX7_init) ∈ gW := gW_of (n := 177) (by decide +kernel) rfl
theorem q_178 : (Cond.instanceMethod yX7_init) ∈ gW := gW_of (n := 178) (by decide +kernel) rfl
theorem q_179 : (Cond.code yX7_init prog_9_method_1_code 2 (Option.none : Option Jvm.ClassFile.FieldType)) ∈ gW := gW_of (n := 179) (by decide +kernel) rfl
theorem q_180 : (Cond.methodLink RX7 3 ({ cls := "java/lang/Object", name := "<init>", desc := "()V" } : Jvm.MethodName)) ∈ gW := gW_of (n := 180) (by decide +kernel) rfl
theorem q_181 : (Cond.fieldLink RX7 15 "PictureMoves$Whole" "scene" "LPictureMoves$Scene;") ∈ gW := gW_of (n := 181) (by decide +kernel) rfl
theorem q_182 : (Cond.fieldLink RX7 9 "PictureMoves$Whole" "comes" "[I") ∈ gW := gW_of (n := 182) (by decide +kernel) rfl
theorem q_183 : (Cond.laysFinal "PictureMoves$Whole" "PictureMoves$Whole" "scene" "LPictureMoves$Scene;") ∈ gW := gW_of (n := 183) (by decide +kernel) rfl
theorem q_185 : (Cond.laysFinal "PictureMoves$Whole" "PictureMoves$Whole" "comes" "[I") ∈ gW := gW_of (n := 185) (by decide +kernel) rfl
theorem q_188 : (Cond.classLink RX8 44 "PictureMoves$Measure") ∈ gW := gW_of (n := 188) (by decide +kernel) rfl
theorem q_189 : (Cond.instantiable RX0 3) ∈ gW := gW_of (n := 189) (by decide +kernel) rfl
theorem q_190 : (Cond.methodLink RX8 46 yX0_init) ∈ gW := gW_of (n := 190) (by decide +kernel) rfl
theorem q_191 : (Cond.instanceMethod yX0_init) ∈ gW := gW_of (n := 191) (by decide +kernel) rfl
theorem q_192 : (Cond.code yX0_init prog_2_method_1_code 3 (Option.none : Option Jvm.ClassFile.FieldType)) ∈ gW := gW_of (n := 192) (by decide +kernel) rfl
theorem q_193 : (Cond.methodLink RX0 3 ({ cls := "java/lang/Object", name := "<init>", desc := "()V" } : Jvm.MethodName)) ∈ gW := gW_of (n := 193) (by decide +kernel) rfl
theorem q_194 : (Cond.fieldLink RX0 15 "PictureMoves$Measure" "scene" "LPictureMoves$Scene;") ∈ gW := gW_of (n := 194) (by decide +kernel) rfl
theorem q_195 : (Cond.fieldLink RX0 19 "PictureMoves$Measure" "parts" "LPictureMoves$Parts;") ∈ gW := gW_of (n := 195) (by decide +kernel) rfl
theorem q_196 : (Cond.fieldLink RX0 9 "PictureMoves$Measure" "block" "[I") ∈ gW := gW_of (n := 196) (by decide +kernel) rfl
theorem q_197 : (Cond.laysFinal "PictureMoves$Measure" "PictureMoves$Measure" "scene" "LPictureMoves$Scene;") ∈ gW := gW_of (n := 197) (by decide +kernel) rfl
theorem q_199 : (Cond.laysFinal "PictureMoves$Measure" "PictureMoves$Measure" "parts" "LPictureMoves$Parts;") ∈ gW := gW_of (n := 199) (by decide +kernel) rfl
theorem q_201 : (Cond.laysFinal "PictureMoves$Measure" "PictureMoves$Measure" "block" "[I") ∈ gW := gW_of (n := 201) (by decide +kernel) rfl
theorem q_204 : (Cond.classLink RX8 51 "PictureMoves$Order") ∈ gW := gW_of (n := 204) (by decide +kernel) rfl
theorem q_205 : (Cond.instantiable RX1 5) ∈ gW := gW_of (n := 205) (by decide +kernel) rfl
theorem q_206 : (Cond.methodLinkNest RX8 53 yX1_init "PictureMoves") ∈ nW := nW_of (n := 206) (by decide +kernel) rfl
theorem q_207 : (Cond.instanceMethod yX1_init) ∈ gW := gW_of (n := 207) (by decide +kernel) rfl
theorem q_208 : (Cond.code yX1_init prog_3_method_1_code 1 (Option.none : Option Jvm.ClassFile.FieldType)) ∈ gW := gW_of (n := 208) (by decide +kernel) rfl
theorem q_209 : (Cond.methodLink RX1 3 ({ cls := "java/lang/Object", name := "<init>", desc := "()V" } : Jvm.MethodName)) ∈ gW := gW_of (n := 209) (by decide +kernel) rfl
theorem q_211 : (Cond.fieldLink RX1 11 "PictureMoves$Order" "numbers" "[I") ∈ gW := gW_of (n := 211) (by decide +kernel) rfl
theorem q_212 : (Cond.fieldLink RX3 26 "PictureMoves$Order" "sign" "I") ∈ gW := gW_of (n := 212) (by decide +kernel) rfl
theorem q_213 : (Cond.fieldLink RX1 21 "PictureMoves$Order" "sign" "I") ∈ gW := gW_of (n := 213) (by decide +kernel) rfl
theorem q_214 : (Cond.fieldLink RX2 80 "PictureMoves$Order" "sign" "I") ∈ gW := gW_of (n := 214) (by decide +kernel) rfl
theorem q_215 : (Cond.fieldLink RX1 17 "PictureMoves$Order" "kinds" "Ljava/lang/String;") ∈ gW := gW_of (n := 215) (by decide +kernel) rfl
theorem q_216 : (Cond.fieldLink RX2 54 "PictureMoves$Order" "kinds" "Ljava/lang/String;") ∈ gW := gW_of (n := 216) (by decide +kernel) rfl
theorem q_217 : (Cond.fieldLink RX1 29 "PictureMoves$Order" "size" "I") ∈ gW := gW_of (n := 217) (by decide +kernel) rfl
theorem q_218 : (Cond.fieldLink RX1 32 "PictureMoves$Order" "allWithin" "Z") ∈ gW := gW_of (n := 218) (by decide +kernel) rfl
theorem q_219 : (Cond.fieldLink RX2 72 "PictureMoves$Order" "allWithin" "Z") ∈ gW := gW_of (n := 219) (by decide +kernel) rfl
theorem q_220 : (Cond.laysFinal "PictureMoves$Order" "PictureMoves$Order" "numbers" "[I") ∈ gW := gW_of (n := 220) (by decide +kernel) rfl
theorem q_222 : (Cond.lays "PictureMoves$Order" "PictureMoves$Order" "sign" "I") ∈ gW := gW_of (n := 222) (by decide +kernel) rfl
theorem q_224 : (Cond.lays "PictureMoves$Order" "PictureMoves$Order" "kinds" "Ljava/lang/String;") ∈ gW := gW_of (n := 224) (by decide +kernel) rfl
theorem q_226 : (Cond.lays "PictureMoves$Order" "PictureMoves$Order" "size" "I") ∈ gW := gW_of (n := 226) (by decide +kernel) rfl
theorem q_228 : (Cond.lays "PictureMoves$Order" "PictureMoves$Order" "allWithin" "Z") ∈ gW := gW_of (n := 228) (by decide +kernel) rfl
theorem q_231 : (Cond.arrayClass FieldType.byte) ∈ gW := gW_of (n := 231) (by decide +kernel) rfl
theorem q_232 : (Cond.classLink RX8 58 "PictureMoves$OrderText") ∈ gW := gW_of (n := 232) (by decide +kernel) rfl
theorem q_233 : (Cond.instantiable RX2 4) ∈ gW := gW_of (n := 233) (by decide +kernel) rfl
theorem q_234 : (Cond.methodLinkNest RX8 60 yX2_init "PictureMoves") ∈ nW := nW_of (n := 234) (by decide +kernel) rfl
theorem q_235 : (Cond.instanceMethod yX2_init) ∈ gW := gW_of (n := 235) (by decide +kernel) rfl
theorem q_236 : (Cond.code yX2_init prog_4_method_1_code 1 (Option.none : Option Jvm.ClassFile.FieldType)) ∈ gW := gW_of (n := 236) (by decide +kernel) rfl
theorem q_237 : (Cond.methodLink RX2 3 ({ cls := "java/lang/Object", name := "<init>", desc := "()V" } : Jvm.MethodName)) ∈ gW := gW_of (n := 237) (by decide +kernel) rfl
theorem q_238 : (Cond.fieldLink RX2 9 "PictureMoves$OrderText" "bytes" "[B") ∈ gW := gW_of (n := 238) (by decide +kernel) rfl
theorem q_239 : (Cond.fieldLink RX2 15 "PictureMoves$OrderText" "length" "I") ∈ gW := gW_of (n := 239) (by decide +kernel) rfl
theorem q_240 : (Cond.fieldLink RX8 173 "PictureMoves$OrderText" "length" "I") ∈ gW := gW_of (n := 240) (by decide +kernel) rfl
theorem q_241 : (Cond.fieldLink RX2 19 "PictureMoves$OrderText" "place" "I") ∈ gW := gW_of (n := 241) (by decide +kernel) rfl
theorem q_242 : (Cond.fieldLink RX2 65 "PictureMoves$OrderText" "number" "I") ∈ gW := gW_of (n := 242) (by decide +kernel) rfl
theorem q_243 : (Cond.laysFinal "PictureMoves$OrderText" "PictureMoves$OrderText" "bytes" "[B") ∈ gW := gW_of (n := 243) (by decide +kernel) rfl
theorem q_245 : (Cond.lays "PictureMoves$OrderText" "PictureMoves$OrderText" "length" "I") ∈ gW := gW_of (n := 245) (by decide +kernel) rfl
theorem q_247 : (Cond.lays "PictureMoves$OrderText" "PictureMoves$OrderText" "place" "I") ∈ gW := gW_of (n := 247) (by decide +kernel) rfl
theorem q_249 : (Cond.lays "PictureMoves$OrderText" "PictureMoves$OrderText" "number" "I") ∈ gW := gW_of (n := 249) (by decide +kernel) rfl
theorem q_252 : (Cond.fieldLink RX8 13 "PictureMoves" "scene" "LPictureMoves$Scene;") ∈ gW := gW_of (n := 252) (by decide +kernel) rfl
theorem q_253 : (Cond.fieldLink RX8 22 "PictureMoves" "past" "LPictureMoves$Past;") ∈ gW := gW_of (n := 253) (by decide +kernel) rfl
theorem q_254 : (Cond.fieldLink RX8 31 "PictureMoves" "painter" "LPictureMoves$Painter;") ∈ gW := gW_of (n := 254) (by decide +kernel) rfl
theorem q_255 : (Cond.fieldLink RX8 40 "PictureMoves" "whole" "LPictureMoves$Whole;") ∈ gW := gW_of (n := 255) (by decide +kernel) rfl
theorem q_256 : (Cond.fieldLink RX8 47 "PictureMoves" "measure" "LPictureMoves$Measure;") ∈ gW := gW_of (n := 256) (by decide +kernel) rfl
theorem q_257 : (Cond.fieldLink RX8 54 "PictureMoves" "order" "LPictureMoves$Order;") ∈ gW := gW_of (n := 257) (by decide +kernel) rfl
theorem q_258 : (Cond.fieldLink RX8 61 "PictureMoves" "text" "LPictureMoves$OrderText;") ∈ gW := gW_of (n := 258) (by decide +kernel) rfl
theorem q_259 : (Cond.fieldLink RX8 209 "PictureMoves" "bads" "I") ∈ gW := gW_of (n := 259) (by decide +kernel) rfl
theorem q_260 : (Cond.fieldLink RX8 212 "PictureMoves" "noes" "I") ∈ gW := gW_of (n := 260) (by decide +kernel) rfl
theorem q_261 : (Cond.fieldLink RX8 215 "PictureMoves" "fulls" "I") ∈ gW := gW_of (n := 261) (by decide +kernel) rfl
theorem q_262 : (Cond.laysFinal "PictureMoves" "PictureMoves" "scene" "LPictureMoves$Scene;") ∈ gW := gW_of (n := 262) (by decide +kernel) rfl
theorem q_264 : (Cond.laysFinal "PictureMoves" "PictureMoves" "past" "LPictureMoves$Past;") ∈ gW := gW_of (n := 264) (by decide +kernel) rfl
theorem q_266 : (Cond.laysFinal "PictureMoves" "PictureMoves" "painter" "LPictureMoves$Painter;") ∈ gW := gW_of (n := 266) (by decide +kernel) rfl
theorem q_268 : (Cond.laysFinal "PictureMoves" "PictureMoves" "whole" "LPictureMoves$Whole;") ∈ gW := gW_of (n := 268) (by decide +kernel) rfl
theorem q_270 : (Cond.laysFinal "PictureMoves" "PictureMoves" "measure" "LPictureMoves$Measure;") ∈ gW := gW_of (n := 270) (by decide +kernel) rfl
theorem q_272 : (Cond.laysFinal "PictureMoves" "PictureMoves" "order" "LPictureMoves$Order;") ∈ gW := gW_of (n := 272) (by decide +kernel) rfl
theorem q_274 : (Cond.laysFinal "PictureMoves" "PictureMoves" "text" "LPictureMoves$OrderText;") ∈ gW := gW_of (n := 274) (by decide +kernel) rfl
theorem q_276 : (Cond.lays "PictureMoves" "PictureMoves" "bads" "I") ∈ gW := gW_of (n := 276) (by decide +kernel) rfl
theorem q_278 : (Cond.lays "PictureMoves" "PictureMoves" "noes" "I") ∈ gW := gW_of (n := 278) (by decide +kernel) rfl
theorem q_280 : (Cond.lays "PictureMoves" "PictureMoves" "fulls" "I") ∈ gW := gW_of (n := 280) (by decide +kernel) rfl
theorem q_283 : (Cond.methodLink RL 13 yX8_dot) ∈ gW := gW_of (n := 283) (by decide +kernel) rfl
theorem q_284 : (Cond.instanceMethod yX8_dot) ∈ gW := gW_of (n := 284) (by decide +kernel) rfl
theorem q_285 : (Cond.selects RX8 yX8_dot yX8_dot) ∈ gW := gW_of (n := 285) (by decide +kernel) rfl
theorem q_286 : (Cond.code yX8_dot prog_1_method_2_code 6 (Option.some FieldType.int)) ∈ gW := gW_of (n := 286) (by decide +kernel) rfl
theorem q_287 : (Cond.methodLink RX8 65 yX8_isPicture) ∈ gW := gW_of (n := 287) (by decide +kernel) rfl
theorem q_288 : (Cond.static yX8_isPicture) ∈ gW := gW_of (n := 288) (by decide +kernel) rfl
theorem q_289 : (Cond.code yX8_isPicture prog_1_method_33_code 1 (Option.some FieldType.boolean)) ∈ gW := gW_of (n := 289) (by decide +kernel) rfl
theorem q_290 : (Cond.methodLink RX8 73 yX8_isWithin) ∈ gW := gW_of (n := 290) (by decide +kernel) rfl
theorem q_291 : (Cond.static yX8_isWithin) ∈ gW := gW_of (n := 291) (by decide +kernel) rfl
theorem q_292 : (Cond.code yX8_isWithin prog_1_method_32_code 3 (Option.some FieldType.boolean)) ∈ gW := gW_of (n := 292) (by decide +kernel) rfl
theorem q_293 : (Cond.methodLink RX8 69 yX8_isInPicture) ∈ gW := gW_of (n := 293) (by decide +kernel) rfl
theorem q_294 : (Cond.static yX8_isInPicture) ∈ gW := gW_of (n := 294) (by decide +kernel) rfl
theorem q_295 : (Cond.code yX8_isInPicture prog_1_method_34_code 2 (Option.some FieldType.boolean)) ∈ gW := gW_of (n := 295) (by decide +kernel) rfl
theorem q_296 : (Cond.methodLink RX8 77 yX8_refusedBad) ∈ gW := gW_of (n := 296) (by decide +kernel) rfl
theorem q_298 : (Cond.instanceMethod yX8_refusedBad) ∈ gW := gW_of (n := 298) (by decide +kernel) rfl
theorem q_299 : (Cond.code yX8_refusedBad prog_1_method_28_code 1 (Option.some FieldType.int)) ∈ gW := gW_of (n := 299) (by decide +kernel) rfl
theorem q_300 : (Cond.methodLink RX8 81 yX5_keeps) ∈ gW := gW_of (n := 300) (by decide +kernel) rfl
theorem q_301 : (Cond.instanceMethod yX5_keeps) ∈ gW := gW_of (n := 301) (by decide +kernel) rfl
theorem q_302 : (Cond.selects RX5 yX5_keeps yX5_keeps) ∈ gW := gW_of (n := 302) (by decide +kernel) rfl
theorem q_303 : (Cond.code yX5_keeps prog_7_method_2_code 2 (Option.none : Option Jvm.ClassFile.FieldType)) ∈ gW := gW_of (n := 303) (by decide +kernel) rfl
theorem q_304 : (Cond.methodLink RX5 22 yX6_becomes) ∈ gW := gW_of (n := 304) (by decide +kernel) rfl
theorem q_305 : (Cond.instanceMethod yX6_becomes) ∈ gW := gW_of (n := 305) (by decide +kernel) rfl
theorem q_306 : (Cond.selects RX6 yX6_becomes yX6_becomes) ∈ gW := gW_of (n := 306) (by decide +kernel) rfl
theorem q_307 : (Cond.code yX6_becomes prog_8_method_2_code 2 (Option.none : Option Jvm.ClassFile.FieldType)) ∈ gW := gW_of (n := 307) (by decide +kernel) rfl
theorem q_308 : (Cond.methodLink RX6 27 ({ cls := "java/lang/System", name := "arraycopy", desc := "(Ljava/lang/Object;ILjava/lang/Object;II)V" } : Jvm.MethodName)) ∈ gW := gW_of (n := 308) (by decide +kernel) rfl
theorem q_309 : (Cond.static ({ cls := "java/lang/System", name := "arraycopy", desc := "(Ljava/lang/Object;ILjava/lang/Object;II)V" } : Jvm.MethodName)) ∈ gW := gW_of (n := 309) (by decide +kernel) rfl
theorem q_310 : (Cond.native ({ cls := "java/lang/System", name := "arraycopy", desc := "(Ljava/lang/Object;ILjava/lang/Object;II)V" } : Jvm.MethodName)) ∈ gW := gW_of (n := 310) (by decide +kernel) rfl
theorem q_311 : (Cond.methodLink RX5 29 yJ9_min_7cf53) ∈ gW := gW_of (n := 311) (by decide +kernel) rfl
theorem q_312 : (Cond.static yJ9_min_7cf53) ∈ gW := gW_of (n := 312) (by decide +kernel) rfl
theorem q_313 : (Cond.code yJ9_min_7cf53 prog_13_method_69_code 2 (Option.some FieldType.int)) ∈ gW := gW_of (n := 313) (by decide +kernel) rfl
theorem q_314 : (Cond.methodLink RX8 84 yX6_dotAt) ∈ gW := gW_of (n := 314) (by decide +kernel) rfl
theorem q_315 : (Cond.instanceMethod yX6_dotAt) ∈ gW := gW_of (n := 315) (by decide +kernel) rfl
theorem q_316 : (Cond.selects RX6 yX6_dotAt yX6_dotAt) ∈ gW := gW_of (n := 316) (by decide +kernel) rfl
theorem q_317 : (Cond.code yX6_dotAt prog_8_method_5_code 4 (Option.some FieldType.int)) ∈ gW := gW_of (n := 317) (by decide +kernel) rfl
theorem q_318 : (Cond.methodLinkNest RX6 45 yX8_isInPicture "PictureMoves") ∈ nW := nW_of (n := 318) (by decide +kernel) rfl
theorem q_319 : (Cond.methodLink RX6 49 yX6_rowAt) ∈ gW := gW_of (n := 319) (by decide +kernel) rfl
theorem q_320 : (Cond.instanceMethod yX6_rowAt) ∈ gW := gW_of (n := 320) (by decide +kernel) rfl
theorem q_321 : (Cond.selects RX6 yX6_rowAt yX6_rowAt) ∈ gW := gW_of (n := 321) (by decide +kernel) rfl
theorem q_322 : (Cond.code yX6_rowAt prog_8_method_3_code 3 (Option.some FieldType.int)) ∈ gW := gW_of (n := 322) (by decide +kernel) rfl
theorem q_323 : (Cond.methodLinkNest RX6 37 yX8_isPicture "PictureMoves") ∈ nW := nW_of (n := 323) (by decide +kernel) rfl
theorem q_324 : (Cond.methodLinkNest RX6 41 yX8_isWithin "PictureMoves") ∈ nW := nW_of (n := 324) (by decide +kernel) rfl
theorem q_325 : (Cond.methodLinkNest RX6 53 yX8_dotMask "PictureMoves") ∈ nW := nW_of (n := 325) (by decide +kernel) rfl
theorem q_326 : (Cond.static yX8_dotMask) ∈ gW := gW_of (n := 326) (by decide +kernel) rfl
theorem q_327 : (Cond.code yX8_dotMask prog_1_method_38_code 1 (Option.some FieldType.int)) ∈ gW := gW_of (n := 327) (by decide +kernel) rfl
theorem q_328 : (Cond.constant RX8 218 (-2147483648 : Int32)) ∈ gW := gW_of (n := 328) (by decide +kernel) rfl
theorem q_329 : (Cond.methodLink RX8 219 yX8_shifted) ∈ gW := gW_of (n := 329) (by decide +kernel) rfl
theorem q_330 : (Cond.static yX8_shifted) ∈ gW := gW_of (n := 330) (by decide +kernel) rfl
theorem q_331 : (Cond.code yX8_shifted prog_1_method_37_code 2 (Option.some FieldType.int)) ∈ gW := gW_of (n := 331) (by decide +kernel) rfl
theorem q_332 : (Cond.methodLink RX8 88 yX6_rowAt) ∈ gW := gW_of (n := 332) (by decide +kernel) rfl
theorem q_333 : (Cond.methodLink RX8 92 yX8_dotMask) ∈ gW := gW_of (n := 333) (by decide +kernel) rfl
theorem q_334 : (Cond.methodLink RX8 96 yX6_putRow) ∈ gW := gW_of (n := 334) (by decide +kernel) rfl
theorem q_335 : (Cond.instanceMethod yX6_putRow) ∈ gW := gW_of (n := 335) (by decide +kernel) rfl
theorem q_336 : (Cond.selects RX6 yX6_putRow yX6_putRow) ∈ gW := gW_of (n := 336) (by decide +kernel) rfl
theorem q_337 : (Cond.code yX6_putRow prog_8_method_4_code 4 (Option.none : Option Jvm.ClassFile.FieldType)) ∈ gW := gW_of (n := 337) (by decide +kernel) rfl
theorem q_338 : (Cond.methodLink RL 18 yX8_pattern) ∈ gW := gW_of (n := 338) (by decide +kernel) rfl
theorem q_339 : (Cond.instanceMethod yX8_pattern) ∈ gW := gW_of (n := 339) (by decide +kernel) rfl
theorem q_340 : (Cond.selects RX8 yX8_pattern yX8_pattern) ∈ gW := gW_of (n := 340) (by decide +kernel) rfl
theorem q_341 : (Cond.code yX8_pattern prog_1_method_3_code 4 (Option.some FieldType.int)) ∈ gW := gW_of (n := 341) (by decide +kernel) rfl
theorem q_342 : (Cond.methodLink RL 23 yX8_draw) ∈ gW := gW_of (n := 342) (by decide +kernel) rfl
theorem q_343 : (Cond.instanceMethod yX8_draw) ∈ gW := gW_of (n := 343) (by decide +kernel) rfl
theorem q_344 : (Cond.selects RX8 yX8_draw yX8_draw) ∈ gW := gW_of (n := 344) (by decide +kernel) rfl
theorem q_345 : (Cond.code yX8_draw prog_1_method_4_code 3 (Option.some FieldType.int)) ∈ gW := gW_of (n := 345) (by decide +kernel) rfl
theorem q_346 : (Cond.constant RX8 104 (999999 : Int32)) ∈ gW := gW_of (n := 346) (by decide +kernel) rfl
theorem q_347 : (Cond.methodLink RX8 105 yX7_drawn) ∈ gW := gW_of (n := 347) (by decide +kernel) rfl
theorem q_348 : (Cond.instanceMethod yX7_drawn) ∈ gW := gW_of (n := 348) (by decide +kernel) rfl
theorem q_349 : (Cond.selects RX7 yX7_drawn yX7_drawn) ∈ gW := gW_of (n := 349) (by decide +kernel) rfl
theorem q_350 : (Cond.code yX7_drawn prog_9_method_2_code 8 (Option.none : Option Jvm.ClassFile.FieldType)) ∈ gW := gW_of (n := 350) (by decide +kernel) rfl
theorem q_351 : (Cond.methodLink RX7 19 yX7_numberBehind) ∈ gW := gW_of (n := 351) (by decide +kernel) rfl
theorem q_352 : (Cond.static yX7_numberBehind) ∈ gW := gW_of (n := 352) (by decide +kernel) rfl
theorem q_353 : (Cond.code yX7_numberBehind prog_9_method_3_code 2 (Option.some FieldType.long)) ∈ gW := gW_of (n := 353) (by decide +kernel) rfl
theorem q_354 : (Cond.constantLong RX7 33 (1103515245 : Int64)) ∈ gW := gW_of (n := 354) (by decide +kernel) rfl
theorem q_355 : (Cond.constantLong RX7 35 (12345 : Int64)) ∈ gW := gW_of (n := 355) (by decide +kernel) rfl
theorem q_356 : (Cond.constantLong RX7 37 (2147483648 : Int64)) ∈ gW := gW_of (n := 356) (by decide +kernel) rfl
theorem q_357 : (Cond.constantLong RX7 23 (32768 : Int64)) ∈ gW := gW_of (n := 357) (by decide +kernel) rfl
theorem q_358 : (Cond.constantLong RX7 25 (65536 : Int64)) ∈ gW := gW_of (n := 358) (by decide +kernel) rfl
theorem q_359 : (Cond.methodLink RX7 27 yX6_putRow) ∈ gW := gW_of (n := 359) (by decide +kernel) rfl
theorem q_360 : (Cond.methodLink RX8 109 yX0_ones) ∈ gW := gW_of (n := 360) (by decide +kernel) rfl
theorem q_361 : (Cond.instanceMethod yX0_ones) ∈ gW := gW_of (n := 361) (by decide +kernel) rfl
theorem q_362 : (Cond.selects RX0 yX0_ones yX0_ones) ∈ gW := gW_of (n := 362) (by decide +kernel) rfl
theorem q_363 : (Cond.code yX0_ones prog_2_method_3_code 2 (Option.some FieldType.int)) ∈ gW := gW_of (n := 363) (by decide +kernel) rfl
theorem q_364 : (Cond.methodLink RX0 46 yX0_onesWithin) ∈ gW := gW_of (n := 364) (by decide +kernel) rfl
theorem q_365 : (Cond.instanceMethod yX0_onesWithin) ∈ gW := gW_of (n := 365) (by decide +kernel) rfl
theorem q_366 : (Cond.selects RX0 yX0_onesWithin yX0_onesWithin) ∈ gW := gW_of (n := 366) (by decide +kernel) rfl
theorem q_367 : (Cond.code yX0_onesWithin prog_2_method_4_code 9 (Option.some FieldType.int)) ∈ gW := gW_of (n := 367) (by decide +kernel) rfl
theorem q_368 : (Cond.methodLinkNest RX0 50 yX8_spanMask "PictureMoves") ∈ nW := nW_of (n := 368) (by decide +kernel) rfl
theorem q_369 : (Cond.static yX8_spanMask) ∈ gW := gW_of (n := 369) (by decide +kernel) rfl
theorem q_370 : (Cond.code yX8_spanMask prog_1_method_39_code 4 (Option.some FieldType.int)) ∈ gW := gW_of (n := 370) (by decide +kernel) rfl
theorem q_371 : (Cond.methodLink RX8 222 yJ9_max_7cf53) ∈ gW := gW_of (n := 371) (by decide +kernel) rfl
theorem q_372 : (Cond.static yJ9_max_7cf53) ∈ gW := gW_of (n := 372) (by decide +kernel) rfl
theorem q_373 : (Cond.code yJ9_max_7cf53 prog_13_method_65_code 2 (Option.some FieldType.int)) ∈ gW := gW_of (n := 373) (by decide +kernel) rfl
theorem q_374 : (Cond.methodLink RX8 227 yJ9_min_7cf53) ∈ gW := gW_of (n := 374) (by decide +kernel) rfl
theorem q_375 : (Cond.methodLink RX0 54 yX6_rowAt) ∈ gW := gW_of (n := 375) (by decide +kernel) rfl
theorem q_376 : (Cond.methodLink RX0 59 yJ6_bitCount_0f7a4) ∈ gW := gW_of (n := 376) (by decide +kernel) rfl
theorem q_377 : (Cond.static yJ6_bitCount_0f7a4) ∈ gW := gW_of (n := 377) (by decide +kernel) rfl
theorem q_378 : (Cond.code yJ6_bitCount_0f7a4 prog_12_method_49_code 1 (Option.some FieldType.int)) ∈ gW := gW_of (n := 378) (by decide +kernel) rfl
theorem q_379 : (Cond.constant RJ6 265 (1431655765 : Int32)) ∈ gW := gW_of (n := 379) (by decide +kernel) rfl
theorem q_380 : (Cond.constant RJ6 266 (858993459 : Int32)) ∈ gW := gW_of (n := 380) (by decide +kernel) rfl
theorem q_381 : (Cond.constant RJ6 267 (252645135 : Int32)) ∈ gW := gW_of (n := 381) (by decide +kernel) rfl
theorem q_382 : (Cond.methodLink RL 27 yX8_opening) ∈ gW := gW_of (n := 382) (by decide +kernel) rfl
theorem q_383 : (Cond.instanceMethod yX8_opening) ∈ gW := gW_of (n := 383) (by decide +kernel) rfl
theorem q_384 : (Cond.selects RX8 yX8_opening yX8_opening) ∈ gW := gW_of (n := 384) (by decide +kernel) rfl
theorem q_385 : (Cond.code yX8_opening prog_1_method_5_code 5 (Option.some FieldType.int)) ∈ gW := gW_of (n := 385) (by decide +kernel) rfl
theorem q_386 : (Cond.methodLink RX8 112 yX1_begins) ∈ gW := gW_of (n := 386) (by decide +kernel) rfl
theorem q_387 : (Cond.instanceMethod yX1_begins) ∈ gW := gW_of (n := 387) (by decide +kernel) rfl
theorem q_388 : (Cond.selects RX1 yX1_begins yX1_begins) ∈ gW := gW_of (n := 388) (by decide +kernel) rfl
theorem q_389 : (Cond.code yX1_begins prog_3_method_2_code 2 (Option.none : Option Jvm.ClassFile.FieldType)) ∈ gW := gW_of (n := 389) (by decide +kernel) rfl
theorem q_390 : (Cond.methodLink RX1 25 yX1_kindsOf) ∈ gW := gW_of (n := 390) (by decide +kernel) rfl
theorem q_391 : (Cond.static yX1_kindsOf) ∈ gW := gW_of (n := 391) (by decide +kernel) rfl
theorem q_392 : (Cond.code yX1_kindsOf prog_3_method_7_code 1 (Option.some (FieldType.object "java/lang/String"))) ∈ gW := gW_of (n := 392) (by decide +kernel) rfl
theorem q_399 : (Cond.methodLink RX8 116 yX1_with) ∈ gW := gW_of (n := 399) (by decide +kernel) rfl
theorem q_400 : (Cond.instanceMethod yX1_with) ∈ gW := gW_of (n := 400) (by decide +kernel) rfl
theorem q_401 : (Cond.selects RX1 yX1_with yX1_with) ∈ gW := gW_of (n := 401) (by decide +kernel) rfl
theorem q_402 : (Cond.code yX1_with prog_3_method_3_code 2 (Option.some (FieldType.object "PictureMoves$Order"))) ∈ gW := gW_of (n := 402) (by decide +kernel) rfl
theorem q_403 : (Cond.methodLink RX1 36 yJ0_length_8abf5) ∈ gW := gW_of (n := 403) (by decide +kernel) rfl
theorem q_404 : (Cond.instanceMethod yJ0_length_8abf5) ∈ gW := gW_of (n := 404) (by decide +kernel) rfl
theorem q_405 : (Cond.selects RJ0 yJ0_length_8abf5 yJ0_length_8abf5) ∈ gW := gW_of (n := 405) (by decide +kernel) rfl
theorem q_406 : (Cond.code yJ0_length_8abf5 prog_14_method_54_code 1 (Option.some FieldType.int)) ∈ gW := gW_of (n := 406) (by decide +kernel) rfl
theorem q_407 : (Cond.methodLink RJ0 335 yJ0_coder_7d493) ∈ gW := gW_of (n := 407) (by decide +kernel) rfl
theorem q_408 : (Cond.instanceMethod yJ0_coder_7d493) ∈ gW := gW_of (n := 408) (by decide +kernel) rfl
theorem q_409 : (Cond.selects RJ0 yJ0_coder_7d493 yJ0_coder_7d493) ∈ gW := gW_of (n := 409) (by decide +kernel) rfl
theorem q_410 : (Cond.code yJ0_coder_7d493 prog_14_method_152_code 1 (Option.some FieldType.byte)) ∈ gW := gW_of (n := 410) (by decide +kernel) rfl
theorem q_411 : (Cond.fieldLink RJ0 38 "java/lang/String" "COMPACT_STRINGS" "Z") ∈ gW := gW_of (n := 411) (by decide +kernel) rfl
theorem q_413 : (Cond.methodLink RX1 42 yJ0_charAt_5068e) ∈ gW := gW_of (n := 413) (by decide +kernel) rfl
theorem q_414 : (Cond.instanceMethod yJ0_charAt_5068e) ∈ gW := gW_of (n := 414) (by decide +kernel) rfl
theorem q_415 : (Cond.selects RJ0 yJ0_charAt_5068e yJ0_charAt_5068e) ∈ gW := gW_of (n := 415) (by decide +kernel) rfl
theorem q_416 : (Cond.code yJ0_charAt_5068e prog_14_method_56_code 2 (Option.some FieldType.char)) ∈ gW := gW_of (n := 416) (by decide +kernel) rfl
theorem q_417 : (Cond.methodLink RJ0 492 yJ0_isLatin1_aae02) ∈ gW := gW_of (n := 417) (by decide +kernel) rfl
theorem q_418 : (Cond.instanceMethod yJ0_isLatin1_aae02) ∈ gW := gW_of (n := 418) (by decide +kernel) rfl
theorem q_419 : (Cond.selects RJ0 yJ0_isLatin1_aae02 yJ0_isLatin1_aae02) ∈ gW := gW_of (n := 419) (by decide +kernel) rfl
theorem q_420 : (Cond.code yJ0_isLatin1_aae02 prog_14_method_154_code 1 (Option.some FieldType.boolean)) ∈ gW := gW_of (n := 420) (by decide +kernel) rfl
theorem q_421 : (Cond.methodLink RJ0 495 yJ1_charAt_3b067) ∈ gW := gW_of (n := 421) (by decide +kernel) rfl
theorem q_422 : (Cond.static yJ1_charAt_3b067) ∈ gW := gW_of (n := 422) (by decide +kernel) rfl
theorem q_423 : (Cond.code yJ1_charAt_3b067 prog_15_method_2_code 2 (Option.some FieldType.char)) ∈ gW := gW_of (n := 423) (by decide +kernel) rfl
theorem q_424 : (Cond.methodLink RJ1 9 yJ0_checkIndex_df160) ∈ gW := gW_of (n := 424) (by decide +kernel) rfl
theorem q_425 : (Cond.static yJ0_checkIndex_df160) ∈ gW := gW_of (n := 425) (by decide +kernel) rfl
theorem q_426 : (Cond.code yJ0_checkIndex_df160 prog_14_method_155_code 2 (Option.none : Option Jvm.ClassFile.FieldType)) ∈ gW := gW_of (n := 426) (by decide +kernel) rfl
theorem q_427 : (Cond.fieldLink RJ0 1053 "jdk/internal/util/Preconditions" "SIOOBE_FORMATTER" "Ljava/util/function/BiFunction;") ∈ gW := gW_of (n := 427) (by decide +kernel) rfl
theorem q_429 : (Cond.methodLink RJ0 1059 yJ3_checkIndex_8e157) ∈ gW := gW_of (n := 429) (by decide +kernel) rfl
theorem q_430 : (Cond.static yJ3_checkIndex_8e157) ∈ gW := gW_of (n := 430) (by decide +kernel) rfl
theorem q_431 : (Cond.code yJ3_checkIndex_8e157 prog_19_method_11_code 3 (Option.some FieldType.int)) ∈ gW := gW_of (n := 431) (by decide +kernel) rfl
theorem q_432 : (Cond.methodLink RJ0 498 yJ2_charAt_3b067) ∈ gW := gW_of (n := 432) (by decide +kernel) rfl
theorem q_433 : (Cond.static yJ2_charAt_3b067) ∈ gW := gW_of (n := 433) (by decide +kernel) rfl
theorem q_434 : (Cond.code yJ2_charAt_3b067 prog_16_method_83_code 2 (Option.some FieldType.char)) ∈ gW := gW_of (n := 434) (by decide +kernel) rfl
theorem q_435 : (Cond.methodLink RJ2 67 yJ2_checkIndex_2214a) ∈ gW := gW_of (n := 435) (by decide +kernel) rfl
theorem q_436 : (Cond.static yJ2_checkIndex_2214a) ∈ gW := gW_of (n := 436) (by decide +kernel) rfl
theorem q_437 : (Cond.code yJ2_checkIndex_2214a prog_16_method_91_code 2 (Option.none : Option Jvm.ClassFile.FieldType)) ∈ gW := gW_of (n := 437) (by decide +kernel) rfl
theorem q_438 : (Cond.methodLink RJ2 48 yJ2_length_9d52b) ∈ gW := gW_of (n := 438) (by decide +kernel) rfl
theorem q_439 : (Cond.static yJ2_length_9d52b) ∈ gW := gW_of (n := 439) (by decide +kernel) rfl
theorem q_440 : (Cond.code yJ2_length_9d52b prog_16_method_6_code 1 (Option.some FieldType.int)) ∈ gW := gW_of (n := 440) (by decide +kernel) rfl
theorem q_441 : (Cond.methodLink RJ2 414 yJ0_checkIndex_df160) ∈ gW := gW_of (n := 441) (by decide +kernel) rfl
theorem q_442 : (Cond.methodLink RJ2 71 yJ2_getChar_3b067) ∈ gW := gW_of (n := 442) (by decide +kernel) rfl
theorem q_443 : (Cond.static yJ2_getChar_3b067) ∈ gW := gW_of (n := 443) (by decide +kernel) rfl
theorem q_444 : (Cond.code yJ2_getChar_3b067 prog_16_method_5_code 2 (Option.some FieldType.char)) ∈ gW := gW_of (n := 444) (by decide +kernel) rfl
theorem q_445 : (Cond.fieldLink RJ2 44 "java/lang/StringUTF16" "$assertionsDisabled" "Z") ∈ gW := gW_of (n := 445) (by decide +kernel) rfl
theorem q_447 : (Cond.fieldLink RJ2 59 "java/lang/StringUTF16" "HI_BYTE_SHIFT" "I") ∈ gW := gW_of (n := 447) (by decide +kernel) rfl
theorem q_449 : (Cond.fieldLink RJ2 63 "java/lang/StringUTF16" "LO_BYTE_SHIFT" "I") ∈ gW := gW_of (n := 449) (by decide +kernel) rfl
theorem q_451 : (Cond.methodLink RX1 46 yX1_isOfKind) ∈ gW := gW_of (n := 451) (by decide +kernel) rfl
theorem q_452 : (Cond.static yX1_isOfKind) ∈ gW := gW_of (n := 452) (by decide +kernel) rfl
theorem q_453 : (Cond.code yX1_isOfKind prog_3_method_8_code 2 (Option.some FieldType.boolean)) ∈ gW := gW_of (n := 453) (by decide +kernel) rfl
theorem q_454 : (Cond.methodLinkNest RX1 70 yX8_isPicture "PictureMoves") ∈ nW := nW_of (n := 454) (by decide +kernel) rfl
theorem q_455 : (Cond.methodLinkNest RX1 74 yX8_isPlace "PictureMoves") ∈ nW := nW_of (n := 455) (by decide +kernel) rfl
theorem q_456 : (Cond.static yX8_isPlace) ∈ gW := gW_of (n := 456) (by decide +kernel) rfl
theorem q_457 : (Cond.code yX8_isPlace prog_1_method_35_code 1 (Option.some FieldType.boolean)) ∈ gW := gW_of (n := 457) (by decide +kernel) rfl
theorem q_458 : (Cond.methodLinkNest RX1 77 yX8_isSize "PictureMoves") ∈ nW := nW_of (n := 458) (by decide +kernel) rfl
theorem q_459 : (Cond.static yX8_isSize) ∈ gW := gW_of (n := 459) (by decide +kernel) rfl
theorem q_460 : (Cond.code yX8_isSize prog_1_method_36_code 1 (Option.some FieldType.boolean)) ∈ gW := gW_of (n := 460) (by decide +kernel) rfl
theorem q_461 : (Cond.methodLinkNest RX1 50 yX8_isWithin "PictureMoves") ∈ nW := nW_of (n := 461) (by decide +kernel) rfl
theorem q_462 : (Cond.methodLink RX8 120 yX1_isAsTold) ∈ gW := gW_of (n := 462) (by decide +kernel) rfl
theorem q_463 : (Cond.instanceMethod yX1_isAsTold) ∈ gW := gW_of (n := 463) (by decide +kernel) rfl
theorem q_464 : (Cond.selects RX1 yX1_isAsTold yX1_isAsTold) ∈ gW := gW_of (n := 464) (by decide +kernel) rfl
theorem q_465 : (Cond.code yX1_isAsTold prog_3_method_4_code 1 (Option.some FieldType.boolean)) ∈ gW := gW_of (n := 465) (by decide +kernel) rfl
theorem q_466 : (Cond.methodLink RX8 128 yX8_refusedFull) ∈ gW := gW_of (n := 466) (by decide +kernel) rfl
theorem q_468 : (Cond.instanceMethod yX8_refusedFull) ∈ gW := gW_of (n := 468) (by decide +kernel) rfl
theorem q_469 : (Cond.code yX8_refusedFull prog_1_method_30_code 1 (Option.some FieldType.int)) ∈ gW := gW_of (n := 469) (by decide +kernel) rfl
theorem q_470 : (Cond.methodLink RX8 131 yX3_performs) ∈ gW := gW_of (n := 470) (by decide +kernel) rfl
theorem q_471 : (Cond.instanceMethod yX3_performs) ∈ gW := gW_of (n := 471) (by decide +kernel) rfl
theorem q_472 : (Cond.selects RX3 yX3_performs yX3_performs) ∈ gW := gW_of (n := 472) (by decide +kernel) rfl
theorem q_473 : (Cond.code yX3_performs prog_5_method_2_code 2 (Option.some FieldType.int)) ∈ gW := gW_of (n := 473) (by decide +kernel) rfl
theorem q_474 : (Cond.methodLink RX3 32 yX3_movesBlock) ∈ gW := gW_of (n := 474) (by decide +kernel) rfl
theorem q_476 : (Cond.instanceMethod yX3_movesBlock) ∈ gW := gW_of (n := 476) (by decide +kernel) rfl
theorem q_477 : (Cond.code yX3_movesBlock prog_5_method_3_code 12 (Option.some FieldType.int)) ∈ gW := gW_of (n := 477) (by decide +kernel) rfl
theorem q_478 : (Cond.methodLink RX3 39 yX1_numberAt) ∈ gW := gW_of (n := 478) (by decide +kernel) rfl
theorem q_479 : (Cond.instanceMethod yX1_numberAt) ∈ gW := gW_of (n := 479) (by decide +kernel) rfl
theorem q_480 : (Cond.selects RX1 yX1_numberAt yX1_numberAt) ∈ gW := gW_of (n := 480) (by decide +kernel) rfl
theorem q_481 : (Cond.code yX1_numberAt prog_3_method_5_code 2 (Option.some FieldType.int)) ∈ gW := gW_of (n := 481) (by decide +kernel) rfl
theorem q_482 : (Cond.methodLink RX3 62 yX3_keepsSource) ∈ gW := gW_of (n := 482) (by decide +kernel) rfl
theorem q_484 : (Cond.instanceMethod yX3_keepsSource) ∈ gW := gW_of (n := 484) (by decide +kernel) rfl
theorem q_485 : (Cond.code yX3_keepsSource prog_5_method_4_code 3 (Option.none : Option Jvm.ClassFile.FieldType)) ∈ gW := gW_of (n := 485) (by decide +kernel) rfl
theorem q_486 : (Cond.methodLink RX3 80 yX6_rowAt) ∈ gW := gW_of (n := 486) (by decide +kernel) rfl
theorem q_487 : (Cond.methodLinkNest RX3 66 yX8_spanMask "PictureMoves") ∈ nW := nW_of (n := 487) (by decide +kernel) rfl
theorem q_488 : (Cond.methodLink RX3 70 yX3_sourceAt) ∈ gW := gW_of (n := 488) (by decide +kernel) rfl
theorem q_490 : (Cond.instanceMethod yX3_sourceAt) ∈ gW := gW_of (n := 490) (by decide +kernel) rfl
theorem q_491 : (Cond.code yX3_sourceAt prog_5_method_5_code 2 (Option.some FieldType.int)) ∈ gW := gW_of (n := 491) (by decide +kernel) rfl
theorem q_492 : (Cond.methodLinkNest RX3 83 yX8_isWithin "PictureMoves") ∈ nW := nW_of (n := 492) (by decide +kernel) rfl
theorem q_493 : (Cond.methodLinkNest RX3 73 yX8_shifted "PictureMoves") ∈ nW := nW_of (n := 493) (by decide +kernel) rfl
theorem q_494 : (Cond.methodLink RX3 76 yX6_joinsRow) ∈ gW := gW_of (n := 494) (by decide +kernel) rfl
theorem q_495 : (Cond.instanceMethod yX6_joinsRow) ∈ gW := gW_of (n := 495) (by decide +kernel) rfl
theorem q_496 : (Cond.selects RX6 yX6_joinsRow yX6_joinsRow) ∈ gW := gW_of (n := 496) (by decide +kernel) rfl
theorem q_497 : (Cond.code yX6_joinsRow prog_8_method_10_code 9 (Option.some FieldType.int)) ∈ gW := gW_of (n := 497) (by decide +kernel) rfl
theorem q_498 : (Cond.methodLink RX6 61 yX6_openAt) ∈ gW := gW_of (n := 498) (by decide +kernel) rfl
theorem q_499 : (Cond.instanceMethod yX6_openAt) ∈ gW := gW_of (n := 499) (by decide +kernel) rfl
theorem q_500 : (Cond.selects RX6 yX6_openAt yX6_openAt) ∈ gW := gW_of (n := 500) (by decide +kernel) rfl
theorem q_501 : (Cond.code yX6_openAt prog_8_method_7_code 6 (Option.some FieldType.int)) ∈ gW := gW_of (n := 501) (by decide +kernel) rfl
theorem q_502 : (Cond.methodLinkNest RX6 58 yX8_spanMask "PictureMoves") ∈ nW := nW_of (n := 502) (by decide +kernel) rfl
theorem q_503 : (Cond.methodLink RX6 64 yX6_patternAt) ∈ gW := gW_of (n := 503) (by decide +kernel) rfl
theorem q_504 : (Cond.instanceMethod yX6_patternAt) ∈ gW := gW_of (n := 504) (by decide +kernel) rfl
theorem q_505 : (Cond.selects RX6 yX6_patternAt yX6_patternAt) ∈ gW := gW_of (n := 505) (by decide +kernel) rfl
theorem q_506 : (Cond.code yX6_patternAt prog_8_method_6_code 2 (Option.some FieldType.int)) ∈ gW := gW_of (n := 506) (by decide +kernel) rfl
theorem q_507 : (Cond.constant RX6 57 (16843009 : Int32)) ∈ gW := gW_of (n := 507) (by decide +kernel) rfl
theorem q_508 : (Cond.methodLinkNest RX6 67 yX8_joinedRow "PictureMoves") ∈ nW := nW_of (n := 508) (by decide +kernel) rfl
theorem q_509 : (Cond.static yX8_joinedRow) ∈ gW := gW_of (n := 509) (by decide +kernel) rfl
theorem q_510 : (Cond.code yX8_joinedRow prog_1_method_40_code 6 (Option.some FieldType.int)) ∈ gW := gW_of (n := 510) (by decide +kernel) rfl
theorem q_511 : (Cond.methodLink RX6 71 yX6_turnsDots) ∈ gW := gW_of (n := 511) (by decide +kernel) rfl
theorem q_512 : (Cond.instanceMethod yX6_turnsDots) ∈ gW := gW_of (n := 512) (by decide +kernel) rfl
theorem q_513 : (Cond.selects RX6 yX6_turnsDots yX6_turnsDots) ∈ gW := gW_of (n := 513) (by decide +kernel) rfl
theorem q_514 : (Cond.code yX6_turnsDots prog_8_method_11_code 4 (Option.some FieldType.int)) ∈ gW := gW_of (n := 514) (by decide +kernel) rfl
theorem q_515 : (Cond.methodLink RX6 75 yJ6_bitCount_0f7a4) ∈ gW := gW_of (n := 515) (by decide +kernel) rfl
theorem q_516 : (Cond.methodLink RX3 36 yX3_drawsLine) ∈ gW := gW_of (n := 516) (by decide +kernel) rfl
theorem q_518 : (Cond.instanceMethod yX3_drawsLine) ∈ gW := gW_of (n := 518) (by decide +kernel) rfl
theorem q_519 : (Cond.code yX3_drawsLine prog_5_method_6_code 11 (Option.some FieldType.int)) ∈ gW := gW_of (n := 519) (by decide +kernel) rfl
theorem q_520 : (Cond.methodLink RX3 87 yJ9_abs_0f7a4) ∈ gW := gW_of (n := 520) (by decide +kernel) rfl
theorem q_521 : (Cond.static yJ9_abs_0f7a4) ∈ gW := gW_of (n := 521) (by decide +kernel) rfl
theorem q_522 : (Cond.code yJ9_abs_0f7a4 prog_13_method_59_code 1 (Option.some FieldType.int)) ∈ gW := gW_of (n := 522) (by decide +kernel) rfl
theorem q_523 : (Cond.methodLink RX3 92 yJ9_max_7cf53) ∈ gW := gW_of (n := 523) (by decide +kernel) rfl
theorem q_524 : (Cond.methodLink RX3 95 yX3_between) ∈ gW := gW_of (n := 524) (by decide +kernel) rfl
theorem q_525 : (Cond.static yX3_between) ∈ gW := gW_of (n := 525) (by decide +kernel) rfl
theorem q_526 : (Cond.code yX3_between prog_5_method_7_code 4 (Option.some FieldType.int)) ∈ gW := gW_of (n := 526) (by decide +kernel) rfl
theorem q_527 : (Cond.methodLink RX3 99 yJ9_floorDiv_7cf53) ∈ gW := gW_of (n := 527) (by decide +kernel) rfl
theorem q_528 : (Cond.static yJ9_floorDiv_7cf53) ∈ gW := gW_of (n := 528) (by decide +kernel) rfl
theorem q_529 : (Cond.code yJ9_floorDiv_7cf53 prog_13_method_47_code 3 (Option.some FieldType.int)) ∈ gW := gW_of (n := 529) (by decide +kernel) rfl
theorem q_530 : (Cond.methodLink RX3 43 yX3_floods) ∈ gW := gW_of (n := 530) (by decide +kernel) rfl
theorem q_532 : (Cond.instanceMethod yX3_floods) ∈ gW := gW_of (n := 532) (by decide +kernel) rfl
theorem q_533 : (Cond.code yX3_floods prog_5_method_8_code 7 (Option.some FieldType.int)) ∈ gW := gW_of (n := 533) (by decide +kernel) rfl
theorem q_534 : (Cond.methodLink RX3 102 yX6_isOpen) ∈ gW := gW_of (n := 534) (by decide +kernel) rfl
theorem q_535 : (Cond.instanceMethod yX6_isOpen) ∈ gW := gW_of (n := 535) (by decide +kernel) rfl
theorem q_536 : (Cond.selects RX6 yX6_isOpen yX6_isOpen) ∈ gW := gW_of (n := 536) (by decide +kernel) rfl
theorem q_537 : (Cond.code yX6_isOpen prog_8_method_8_code 3 (Option.some FieldType.boolean)) ∈ gW := gW_of (n := 537) (by decide +kernel) rfl
theorem q_538 : (Cond.methodLink RX3 106 yX6_dotAt) ∈ gW := gW_of (n := 538) (by decide +kernel) rfl
theorem q_539 : (Cond.methodLink RX3 109 yX6_openAt) ∈ gW := gW_of (n := 539) (by decide +kernel) rfl
theorem q_540 : (Cond.methodLinkNest RX3 117 yX8_dotMask "PictureMoves") ∈ nW := nW_of (n := 540) (by decide +kernel) rfl
theorem q_541 : (Cond.methodLink RX3 120 yX4_takesOut) ∈ gW := gW_of (n := 541) (by decide +kernel) rfl
theorem q_542 : (Cond.instanceMethod yX4_takesOut) ∈ gW := gW_of (n := 542) (by decide +kernel) rfl
theorem q_543 : (Cond.selects RX4 yX4_takesOut yX4_takesOut) ∈ gW := gW_of (n := 543) (by decide +kernel) rfl
theorem q_544 : (Cond.code yX4_takesOut prog_6_method_2_code 6 (Option.none : Option Jvm.ClassFile.FieldType)) ∈ gW := gW_of (n := 544) (by decide +kernel) rfl
theorem q_545 : (Cond.methodLink RX4 25 yX4_reaches) ∈ gW := gW_of (n := 545) (by decide +kernel) rfl
theorem q_547 : (Cond.instanceMethod yX4_reaches) ∈ gW := gW_of (n := 547) (by decide +kernel) rfl
theorem q_548 : (Cond.code yX4_reaches prog_6_method_4_code 4 (Option.none : Option Jvm.ClassFile.FieldType)) ∈ gW := gW_of (n := 548) (by decide +kernel) rfl
theorem q_549 : (Cond.methodLinkNest RX4 32 yX8_isWithin "PictureMoves") ∈ nW := nW_of (n := 549) (by decide +kernel) rfl
theorem q_550 : (Cond.methodLink RX4 36 yX4_runsThrough) ∈ gW := gW_of (n := 550) (by decide +kernel) rfl
theorem q_551 : (Cond.static yX4_runsThrough) ∈ gW := gW_of (n := 551) (by decide +kernel) rfl
theorem q_552 : (Cond.code yX4_runsThrough prog_6_method_5_code 7 (Option.some FieldType.int)) ∈ gW := gW_of (n := 552) (by decide +kernel) rfl
theorem q_553 : (Cond.methodLink RX3 124 yX6_turnsDots) ∈ gW := gW_of (n := 553) (by decide +kernel) rfl
theorem q_554 : (Cond.methodLink RX3 47 yX3_fillsRectangle) ∈ gW := gW_of (n := 554) (by decide +kernel) rfl
theorem q_556 : (Cond.instanceMethod yX3_fillsRectangle) ∈ gW := gW_of (n := 556) (by decide +kernel) rfl
theorem q_557 : (Cond.code yX3_fillsRectangle prog_5_method_9_code 8 (Option.some FieldType.int)) ∈ gW := gW_of (n := 557) (by decide +kernel) rfl
theorem q_558 : (Cond.methodLink RX3 50 yX3_writesLetter) ∈ gW := gW_of (n := 558) (by decide +kernel) rfl
theorem q_560 : (Cond.instanceMethod yX3_writesLetter) ∈ gW := gW_of (n := 560) (by decide +kernel) rfl
theorem q_561 : (Cond.code yX3_writesLetter prog_5_method_10_code 9 (Option.some FieldType.int)) ∈ gW := gW_of (n := 561) (by decide +kernel) rfl
theorem q_562 : (Cond.methodLink RX3 127 yX3_letterRow) ∈ gW := gW_of (n := 562) (by decide +kernel) rfl
theorem q_563 : (Cond.static yX3_letterRow) ∈ gW := gW_of (n := 563) (by decide +kernel) rfl
theorem q_564 : (Cond.code yX3_letterRow prog_5_method_11_code 2 (Option.some FieldType.int)) ∈ gW := gW_of (n := 564) (by decide +kernel) rfl
theorem q_565 : (Cond.methodLink RX3 53 yX6_opens) ∈ gW := gW_of (n := 565) (by decide +kernel) rfl
theorem q_566 : (Cond.instanceMethod yX6_opens) ∈ gW := gW_of (n := 566) (by decide +kernel) rfl
theorem q_567 : (Cond.selects RX6 yX6_opens yX6_opens) ∈ gW := gW_of (n := 567) (by decide +kernel) rfl
theorem q_568 : (Cond.code yX6_opens prog_8_method_9_code 6 (Option.none : Option Jvm.ClassFile.FieldType)) ∈ gW := gW_of (n := 568) (by decide +kernel) rfl
theorem q_569 : (Cond.methodLink RL 31 yX8_closes) ∈ gW := gW_of (n := 569) (by decide +kernel) rfl
theorem q_570 : (Cond.instanceMethod yX8_closes) ∈ gW := gW_of (n := 570) (by decide +kernel) rfl
theorem q_571 : (Cond.selects RX8 yX8_closes yX8_closes) ∈ gW := gW_of (n := 571) (by decide +kernel) rfl
theorem q_572 : (Cond.code yX8_closes prog_1_method_6_code 2 (Option.some FieldType.int)) ∈ gW := gW_of (n := 572) (by decide +kernel) rfl
theorem q_573 : (Cond.methodLink RL 36 yX8_move) ∈ gW := gW_of (n := 573) (by decide +kernel) rfl
theorem q_574 : (Cond.instanceMethod yX8_move) ∈ gW := gW_of (n := 574) (by decide +kernel) rfl
theorem q_575 : (Cond.selects RX8 yX8_move yX8_move) ∈ gW := gW_of (n := 575) (by decide +kernel) rfl
theorem q_576 : (Cond.code yX8_move prog_1_method_7_code 10 (Option.some FieldType.int)) ∈ gW := gW_of (n := 576) (by decide +kernel) rfl
theorem q_577 : (Cond.methodLink RL 41 yX8_line) ∈ gW := gW_of (n := 577) (by decide +kernel) rfl
theorem q_578 : (Cond.instanceMethod yX8_line) ∈ gW := gW_of (n := 578) (by decide +kernel) rfl
theorem q_579 : (Cond.selects RX8 yX8_line yX8_line) ∈ gW := gW_of (n := 579) (by decide +kernel) rfl
theorem q_580 : (Cond.code yX8_line prog_1_method_8_code 7 (Option.some FieldType.int)) ∈ gW := gW_of (n := 580) (by decide +kernel) rfl
theorem q_581 : (Cond.methodLink RL 46 yX8_flood) ∈ gW := gW_of (n := 581) (by decide +kernel) rfl
theorem q_582 : (Cond.instanceMethod yX8_flood) ∈ gW := gW_of (n := 582) (by decide +kernel) rfl
theorem q_583 : (Cond.selects RX8 yX8_flood yX8_flood) ∈ gW := gW_of (n := 583) (by decide +kernel) rfl
theorem q_584 : (Cond.code yX8_flood prog_1_method_9_code 4 (Option.some FieldType.int)) ∈ gW := gW_of (n := 584) (by decide +kernel) rfl
theorem q_585 : (Cond.methodLink RX8 135 yX6_isOpen) ∈ gW := gW_of (n := 585) (by decide +kernel) rfl
theorem q_586 : (Cond.methodLink RX8 138 yX8_refusedNo) ∈ gW := gW_of (n := 586) (by decide +kernel) rfl
theorem q_588 : (Cond.instanceMethod yX8_refusedNo) ∈ gW := gW_of (n := 588) (by decide +kernel) rfl
theorem q_589 : (Cond.code yX8_refusedNo prog_1_method_29_code 1 (Option.some FieldType.int)) ∈ gW := gW_of (n := 589) (by decide +kernel) rfl
theorem q_590 : (Cond.methodLink RL 51 yX8_rectangle) ∈ gW := gW_of (n := 590) (by decide +kernel) rfl
theorem q_591 : (Cond.instanceMethod yX8_rectangle) ∈ gW := gW_of (n := 591) (by decide +kernel) rfl
theorem q_592 : (Cond.selects RX8 yX8_rectangle yX8_rectangle) ∈ gW := gW_of (n := 592) (by decide +kernel) rfl
theorem q_593 : (Cond.code yX8_rectangle prog_1_method_10_code 7 (Option.some FieldType.int)) ∈ gW := gW_of (n := 593) (by decide +kernel) rfl
theorem q_594 : (Cond.methodLink RL 55 yX8_letter) ∈ gW := gW_of (n := 594) (by decide +kernel) rfl
theorem q_595 : (Cond.instanceMethod yX8_letter) ∈ gW := gW_of (n := 595) (by decide +kernel) rfl
theorem q_596 : (Cond.selects RX8 yX8_letter yX8_letter) ∈ gW := gW_of (n := 596) (by decide +kernel) rfl
theorem q_597 : (Cond.code yX8_letter prog_1_method_11_code 6 (Option.some FieldType.int)) ∈ gW := gW_of (n := 597) (by decide +kernel) rfl
theorem q_598 : (Cond.methodLink RL 60 yX8_joins) ∈ gW := gW_of (n := 598) (by decide +kernel) rfl
theorem q_599 : (Cond.instanceMethod yX8_joins) ∈ gW := gW_of (n := 599) (by decide +kernel) rfl
theorem q_600 : (Cond.selects RX8 yX8_joins yX8_joins) ∈ gW := gW_of (n := 600) (by decide +kernel) rfl
theorem q_601 : (Cond.code yX8_joins prog_1_method_12_code 4 (Option.some FieldType.int)) ∈ gW := gW_of (n := 601) (by decide +kernel) rfl
theorem q_602 : (Cond.methodLink RX8 141 yX7_joined) ∈ gW := gW_of (n := 602) (by decide +kernel) rfl
theorem q_603 : (Cond.instanceMethod yX7_joined) ∈ gW := gW_of (n := 603) (by decide +kernel) rfl
theorem q_604 : (Cond.selects RX7 yX7_joined yX7_joined) ∈ gW := gW_of (n := 604) (by decide +kernel) rfl
theorem q_605 : (Cond.code yX7_joined prog_9_method_4_code 6 (Option.some FieldType.int)) ∈ gW := gW_of (n := 605) (by decide +kernel) rfl
theorem q_606 : (Cond.methodLink RX7 39 yX6_rowAt) ∈ gW := gW_of (n := 606) (by decide +kernel) rfl
theorem q_607 : (Cond.methodLink RX7 43 yX6_joinsRow) ∈ gW := gW_of (n := 607) (by decide +kernel) rfl
theorem q_608 : (Cond.methodLink RL 64 yX8_changes) ∈ gW := gW_of (n := 608) (by decide +kernel) rfl
theorem q_609 : (Cond.instanceMethod yX8_changes) ∈ gW := gW_of (n := 609) (by decide +kernel) rfl
theorem q_610 : (Cond.selects RX8 yX8_changes yX8_changes) ∈ gW := gW_of (n := 610) (by decide +kernel) rfl
theorem q_611 : (Cond.code yX8_changes prog_1_method_13_code 3 (Option.some FieldType.int)) ∈ gW := gW_of (n := 611) (by decide +kernel) rfl
theorem q_612 : (Cond.methodLink RX8 144 yX7_changed) ∈ gW := gW_of (n := 612) (by decide +kernel) rfl
theorem q_613 : (Cond.instanceMethod yX7_changed) ∈ gW := gW_of (n := 613) (by decide +kernel) rfl
theorem q_614 : (Cond.selects RX7 yX7_changed yX7_changed) ∈ gW := gW_of (n := 614) (by decide +kernel) rfl
theorem q_615 : (Cond.code yX7_changed prog_9_method_5_code 4 (Option.some FieldType.int)) ∈ gW := gW_of (n := 615) (by decide +kernel) rfl
theorem q_616 : (Cond.methodLink RX7 47 yX7_changedRow) ∈ gW := gW_of (n := 616) (by decide +kernel) rfl
theorem q_618 : (Cond.instanceMethod yX7_changedRow) ∈ gW := gW_of (n := 618) (by decide +kernel) rfl
theorem q_619 : (Cond.code yX7_changedRow prog_9_method_7_code 4 (Option.some FieldType.int)) ∈ gW := gW_of (n := 619) (by decide +kernel) rfl
theorem q_620 : (Cond.methodLink RX7 63 yX7_mirroredRow) ∈ gW := gW_of (n := 620) (by decide +kernel) rfl
theorem q_621 : (Cond.static yX7_mirroredRow) ∈ gW := gW_of (n := 621) (by decide +kernel) rfl
theorem q_622 : (Cond.code yX7_mirroredRow prog_9_method_10_code 3 (Option.some FieldType.int)) ∈ gW := gW_of (n := 622) (by decide +kernel) rfl
theorem q_623 : (Cond.methodLink RX7 66 yX7_grownRow) ∈ gW := gW_of (n := 623) (by decide +kernel) rfl
theorem q_625 : (Cond.instanceMethod yX7_grownRow) ∈ gW := gW_of (n := 625) (by decide +kernel) rfl
theorem q_626 : (Cond.code yX7_grownRow prog_9_method_8_code 4 (Option.some FieldType.int)) ∈ gW := gW_of (n := 626) (by decide +kernel) rfl
theorem q_627 : (Cond.methodLink RX7 69 yX7_thinnedRow) ∈ gW := gW_of (n := 627) (by decide +kernel) rfl
theorem q_629 : (Cond.instanceMethod yX7_thinnedRow) ∈ gW := gW_of (n := 629) (by decide +kernel) rfl
theorem q_630 : (Cond.code yX7_thinnedRow prog_9_method_9_code 4 (Option.some FieldType.int)) ∈ gW := gW_of (n := 630) (by decide +kernel) rfl
theorem q_631 : (Cond.methodLink RX7 51 yX7_becomesWhatComes) ∈ gW := gW_of (n := 631) (by decide +kernel) rfl
theorem q_633 : (Cond.instanceMethod yX7_becomesWhatComes) ∈ gW := gW_of (n := 633) (by decide +kernel) rfl
theorem q_634 : (Cond.code yX7_becomesWhatComes prog_9_method_11_code 4 (Option.some FieldType.int)) ∈ gW := gW_of (n := 634) (by decide +kernel) rfl
theorem q_635 : (Cond.methodLink RX7 72 yX6_turnsDots) ∈ gW := gW_of (n := 635) (by decide +kernel) rfl
theorem q_636 : (Cond.methodLink RL 68 yX8_rolls) ∈ gW := gW_of (n := 636) (by decide +kernel) rfl
theorem q_637 : (Cond.instanceMethod yX8_rolls) ∈ gW := gW_of (n := 637) (by decide +kernel) rfl
theorem q_638 : (Cond.selects RX8 yX8_rolls yX8_rolls) ∈ gW := gW_of (n := 638) (by decide +kernel) rfl
theorem q_639 : (Cond.code yX8_rolls prog_1_method_14_code 4 (Option.some FieldType.int)) ∈ gW := gW_of (n := 639) (by decide +kernel) rfl
theorem q_640 : (Cond.methodLink RX8 147 yX7_rolled) ∈ gW := gW_of (n := 640) (by decide +kernel) rfl
theorem q_641 : (Cond.instanceMethod yX7_rolled) ∈ gW := gW_of (n := 641) (by decide +kernel) rfl
theorem q_642 : (Cond.selects RX7 yX7_rolled yX7_rolled) ∈ gW := gW_of (n := 642) (by decide +kernel) rfl
theorem q_643 : (Cond.code yX7_rolled prog_9_method_6_code 7 (Option.some FieldType.int)) ∈ gW := gW_of (n := 643) (by decide +kernel) rfl
theorem q_644 : (Cond.methodLink RX7 55 yJ9_floorMod_7cf53) ∈ gW := gW_of (n := 644) (by decide +kernel) rfl
theorem q_645 : (Cond.static yJ9_floorMod_7cf53) ∈ gW := gW_of (n := 645) (by decide +kernel) rfl
theorem q_646 : (Cond.code yJ9_floorMod_7cf53 prog_13_method_50_code 3 (Option.some FieldType.int)) ∈ gW := gW_of (n := 646) (by decide +kernel) rfl
theorem q_647 : (Cond.methodLinkNest RX7 60 yX8_shifted "PictureMoves") ∈ nW := nW_of (n := 647) (by decide +kernel) rfl
theorem q_648 : (Cond.methodLink RL 72 yX8_at) ∈ gW := gW_of (n := 648) (by decide +kernel) rfl
theorem q_649 : (Cond.instanceMethod yX8_at) ∈ gW := gW_of (n := 649) (by decide +kernel) rfl
theorem q_650 : (Cond.selects RX8 yX8_at yX8_at) ∈ gW := gW_of (n := 650) (by decide +kernel) rfl
theorem q_651 : (Cond.code yX8_at prog_1_method_15_code 4 (Option.some FieldType.int)) ∈ gW := gW_of (n := 651) (by decide +kernel) rfl
theorem q_652 : (Cond.methodLink RL 76 yX8_row) ∈ gW := gW_of (n := 652) (by decide +kernel) rfl
theorem q_653 : (Cond.instanceMethod yX8_row) ∈ gW := gW_of (n := 653) (by decide +kernel) rfl
theorem q_654 : (Cond.selects RX8 yX8_row yX8_row) ∈ gW := gW_of (n := 654) (by decide +kernel) rfl
theorem q_655 : (Cond.code yX8_row prog_1_method_16_code 3 (Option.some FieldType.int)) ∈ gW := gW_of (n := 655) (by decide +kernel) rfl
theorem q_656 : (Cond.methodLink RL 80 yX8_of) ∈ gW := gW_of (n := 656) (by decide +kernel) rfl
theorem q_657 : (Cond.instanceMethod yX8_of) ∈ gW := gW_of (n := 657) (by decide +kernel) rfl
theorem q_658 : (Cond.selects RX8 yX8_of yX8_of) ∈ gW := gW_of (n := 658) (by decide +kernel) rfl
theorem q_659 : (Cond.code yX8_of prog_1_method_17_code 3 (Option.some FieldType.int)) ∈ gW := gW_of (n := 659) (by decide +kernel) rfl
theorem q_660 : (Cond.methodLink RX8 150 yX0_measured) ∈ gW := gW_of (n := 660) (by decide +kernel) rfl
theorem q_661 : (Cond.instanceMethod yX0_measured) ∈ gW := gW_of (n := 661) (by decide +kernel) rfl
theorem q_662 : (Cond.selects RX0 yX0_measured yX0_measured) ∈ gW := gW_of (n := 662) (by decide +kernel) rfl
theorem q_663 : (Cond.code yX0_measured prog_2_method_2_code 3 (Option.some FieldType.int)) ∈ gW := gW_of (n := 663) (by decide +kernel) rfl
theorem q_664 : (Cond.methodLink RX0 23 yX0_ones) ∈ gW := gW_of (n := 664) (by decide +kernel) rfl
theorem q_665 : (Cond.methodLink RX0 27 yX0_partsOf) ∈ gW := gW_of (n := 665) (by decide +kernel) rfl
theorem q_667 : (Cond.instanceMethod yX0_partsOf) ∈ gW := gW_of (n := 667) (by decide +kernel) rfl
theorem q_668 : (Cond.code yX0_partsOf prog_2_method_9_code 3 (Option.some FieldType.int)) ∈ gW := gW_of (n := 668) (by decide +kernel) rfl
theorem q_669 : (Cond.methodLink RX0 76 yX4_numberOfParts) ∈ gW := gW_of (n := 669) (by decide +kernel) rfl
theorem q_670 : (Cond.instanceMethod yX4_numberOfParts) ∈ gW := gW_of (n := 670) (by decide +kernel) rfl
theorem q_671 : (Cond.selects RX4 yX4_numberOfParts yX4_numberOfParts) ∈ gW := gW_of (n := 671) (by decide +kernel) rfl
theorem q_672 : (Cond.code yX4_numberOfParts prog_6_method_3_code 4 (Option.some FieldType.int)) ∈ gW := gW_of (n := 672) (by decide +kernel) rfl
theorem q_673 : (Cond.methodLink RX4 29 yX4_takesOut) ∈ gW := gW_of (n := 673) (by decide +kernel) rfl
theorem q_674 : (Cond.methodLink RX0 30 yX0_leastX) ∈ gW := gW_of (n := 674) (by decide +kernel) rfl
theorem q_676 : (Cond.instanceMethod yX0_leastX) ∈ gW := gW_of (n := 676) (by decide +kernel) rfl
theorem q_677 : (Cond.code yX0_leastX prog_2_method_11_code 4 (Option.some FieldType.int)) ∈ gW := gW_of (n := 677) (by decide +kernel) rfl
theorem q_678 : (Cond.methodLink RX0 79 yX0_columnsOf) ∈ gW := gW_of (n := 678) (by decide +kernel) rfl
theorem q_680 : (Cond.instanceMethod yX0_columnsOf) ∈ gW := gW_of (n := 680) (by decide +kernel) rfl
theorem q_681 : (Cond.code yX0_columnsOf prog_2_method_10_code 4 (Option.some FieldType.int)) ∈ gW := gW_of (n := 681) (by decide +kernel) rfl
theorem q_682 : (Cond.methodLinkNest RX0 82 yX8_dotMask "PictureMoves") ∈ nW := nW_of (n := 682) (by decide +kernel) rfl
theorem q_683 : (Cond.methodLink RX0 33 yX0_greatestX) ∈ gW := gW_of (n := 683) (by decide +kernel) rfl
theorem q_685 : (Cond.instanceMethod yX0_greatestX) ∈ gW := gW_of (n := 685) (by decide +kernel) rfl
theorem q_686 : (Cond.code yX0_greatestX prog_2_method_12_code 4 (Option.some FieldType.int)) ∈ gW := gW_of (n := 686) (by decide +kernel) rfl
theorem q_687 : (Cond.methodLink RX0 36 yX0_leastY) ∈ gW := gW_of (n := 687) (by decide +kernel) rfl
theorem q_689 : (Cond.instanceMethod yX0_leastY) ∈ gW := gW_of (n := 689) (by decide +kernel) rfl
theorem q_690 : (Cond.code yX0_leastY prog_2_method_13_code 3 (Option.some FieldType.int)) ∈ gW := gW_of (n := 690) (by decide +kernel) rfl
theorem q_691 : (Cond.methodLink RX0 39 yX0_greatestY) ∈ gW := gW_of (n := 691) (by decide +kernel) rfl
theorem q_693 : (Cond.instanceMethod yX0_greatestY) ∈ gW := gW_of (n := 693) (by decide +kernel) rfl
theorem q_694 : (Cond.code yX0_greatestY prog_2_method_14_code 3 (Option.some FieldType.int)) ∈ gW := gW_of (n := 694) (by decide +kernel) rfl
theorem q_695 : (Cond.methodLink RX0 42 yX0_openDots) ∈ gW := gW_of (n := 695) (by decide +kernel) rfl
theorem q_697 : (Cond.instanceMethod yX0_openDots) ∈ gW := gW_of (n := 697) (by decide +kernel) rfl
theorem q_698 : (Cond.code yX0_openDots prog_2_method_15_code 3 (Option.some FieldType.int)) ∈ gW := gW_of (n := 698) (by decide +kernel) rfl
theorem q_699 : (Cond.methodLink RX0 85 yX6_openAt) ∈ gW := gW_of (n := 699) (by decide +kernel) rfl
theorem q_700 : (Cond.methodLink RL 84 yX8_count) ∈ gW := gW_of (n := 700) (by decide +kernel) rfl
theorem q_701 : (Cond.instanceMethod yX8_count) ∈ gW := gW_of (n := 701) (by decide +kernel) rfl
theorem q_702 : (Cond.selects RX8 yX8_count yX8_count) ∈ gW := gW_of (n := 702) (by decide +kernel) rfl
theorem q_703 : (Cond.code yX8_count prog_1_method_18_code 6 (Option.some FieldType.int)) ∈ gW := gW_of (n := 703) (by decide +kernel) rfl
theorem q_704 : (Cond.methodLink RX8 153 yX8_isPlace) ∈ gW := gW_of (n := 704) (by decide +kernel) rfl
theorem q_705 : (Cond.methodLink RX8 156 yX8_isSize) ∈ gW := gW_of (n := 705) (by decide +kernel) rfl
theorem q_706 : (Cond.methodLink RX8 159 yX0_onesWithin) ∈ gW := gW_of (n := 706) (by decide +kernel) rfl
theorem q_707 : (Cond.methodLink RL 88 yX8_unlike) ∈ gW := gW_of (n := 707) (by decide +kernel) rfl
theorem q_708 : (Cond.instanceMethod yX8_unlike) ∈ gW := gW_of (n := 708) (by decide +kernel) rfl
theorem q_709 : (Cond.selects RX8 yX8_unlike yX8_unlike) ∈ gW := gW_of (n := 709) (by decide +kernel) rfl
theorem q_710 : (Cond.code yX8_unlike prog_1_method_19_code 3 (Option.some FieldType.int)) ∈ gW := gW_of (n := 710) (by decide +kernel) rfl
theorem q_711 : (Cond.methodLink RX8 163 yX0_unlikeDots) ∈ gW := gW_of (n := 711) (by decide +kernel) rfl
theorem q_712 : (Cond.instanceMethod yX0_unlikeDots) ∈ gW := gW_of (n := 712) (by decide +kernel) rfl
theorem q_713 : (Cond.selects RX0 yX0_unlikeDots yX0_unlikeDots) ∈ gW := gW_of (n := 713) (by decide +kernel) rfl
theorem q_714 : (Cond.code yX0_unlikeDots prog_2_method_5_code 5 (Option.some FieldType.int)) ∈ gW := gW_of (n := 714) (by decide +kernel) rfl
theorem q_715 : (Cond.methodLink RL 92 yX8_finds) ∈ gW := gW_of (n := 715) (by decide +kernel) rfl
theorem q_716 : (Cond.instanceMethod yX8_finds) ∈ gW := gW_of (n := 716) (by decide +kernel) rfl
theorem q_717 : (Cond.selects RX8 yX8_finds yX8_finds) ∈ gW := gW_of (n := 717) (by decide +kernel) rfl
theorem q_718 : (Cond.code yX8_finds prog_1_method_20_code 7 (Option.some FieldType.int)) ∈ gW := gW_of (n := 718) (by decide +kernel) rfl
theorem q_719 : (Cond.methodLink RX8 166 yX0_takesBlock) ∈ gW := gW_of (n := 719) (by decide +kernel) rfl
theorem q_720 : (Cond.instanceMethod yX0_takesBlock) ∈ gW := gW_of (n := 720) (by decide +kernel) rfl
theorem q_721 : (Cond.selects RX0 yX0_takesBlock yX0_takesBlock) ∈ gW := gW_of (n := 721) (by decide +kernel) rfl
theorem q_722 : (Cond.code yX0_takesBlock prog_2_method_6_code 6 (Option.none : Option Jvm.ClassFile.FieldType)) ∈ gW := gW_of (n := 722) (by decide +kernel) rfl
theorem q_723 : (Cond.methodLinkNest RX0 64 yX8_shifted "PictureMoves") ∈ nW := nW_of (n := 723) (by decide +kernel) rfl
theorem q_724 : (Cond.methodLink RX8 170 yX0_placesOfBlock) ∈ gW := gW_of (n := 724) (by decide +kernel) rfl
theorem q_725 : (Cond.instanceMethod yX0_placesOfBlock) ∈ gW := gW_of (n := 725) (by decide +kernel) rfl
theorem q_726 : (Cond.selects RX0 yX0_placesOfBlock yX0_placesOfBlock) ∈ gW := gW_of (n := 726) (by decide +kernel) rfl
theorem q_727 : (Cond.code yX0_placesOfBlock prog_2_method_7_code 8 (Option.some FieldType.int)) ∈ gW := gW_of (n := 727) (by decide +kernel) rfl
theorem q_728 : (Cond.methodLink RX0 67 yX0_alikePlaces) ∈ gW := gW_of (n := 728) (by decide +kernel) rfl
theorem q_729 : (Cond.static yX0_alikePlaces) ∈ gW := gW_of (n := 729) (by decide +kernel) rfl
theorem q_730 : (Cond.code yX0_alikePlaces prog_2_method_8_code 6 (Option.some FieldType.int)) ∈ gW := gW_of (n := 730) (by decide +kernel) rfl
theorem q_731 : (Cond.methodLink RL 96 yX8_open) ∈ gW := gW_of (n := 731) (by decide +kernel) rfl
theorem q_732 : (Cond.instanceMethod yX8_open) ∈ gW := gW_of (n := 732) (by decide +kernel) rfl
theorem q_733 : (Cond.selects RX8 yX8_open yX8_open) ∈ gW := gW_of (n := 733) (by decide +kernel) rfl
theorem q_734 : (Cond.code yX8_open prog_1_method_21_code 3 (Option.some FieldType.int)) ∈ gW := gW_of (n := 734) (by decide +kernel) rfl
theorem q_735 : (Cond.methodLink RL 100 yX8_type) ∈ gW := gW_of (n := 735) (by decide +kernel) rfl
theorem q_736 : (Cond.instanceMethod yX8_type) ∈ gW := gW_of (n := 736) (by decide +kernel) rfl
theorem q_737 : (Cond.selects RX8 yX8_type yX8_type) ∈ gW := gW_of (n := 737) (by decide +kernel) rfl
theorem q_738 : (Cond.code yX8_type prog_1_method_22_code 2 (Option.some FieldType.int)) ∈ gW := gW_of (n := 738) (by decide +kernel) rfl
theorem q_739 : (Cond.methodLink RX8 176 yX2_takes) ∈ gW := gW_of (n := 739) (by decide +kernel) rfl
theorem q_740 : (Cond.instanceMethod yX2_takes) ∈ gW := gW_of (n := 740) (by decide +kernel) rfl
theorem q_741 : (Cond.selects RX2 yX2_takes yX2_takes) ∈ gW := gW_of (n := 741) (by decide +kernel) rfl
theorem q_742 : (Cond.code yX2_takes prog_4_method_2_code 2 (Option.none : Option Jvm.ClassFile.FieldType)) ∈ gW := gW_of (n := 742) (by decide +kernel) rfl
theorem q_743 : (Cond.methodLink RL 105 yX8_clear) ∈ gW := gW_of (n := 743) (by decide +kernel) rfl
theorem q_744 : (Cond.instanceMethod yX8_clear) ∈ gW := gW_of (n := 744) (by decide +kernel) rfl
theorem q_745 : (Cond.selects RX8 yX8_clear yX8_clear) ∈ gW := gW_of (n := 745) (by decide +kernel) rfl
theorem q_746 : (Cond.code yX8_clear prog_1_method_23_code 2 (Option.some FieldType.int)) ∈ gW := gW_of (n := 746) (by decide +kernel) rfl
theorem q_747 : (Cond.methodLink RL 109 yX8_does) ∈ gW := gW_of (n := 747) (by decide +kernel) rfl
theorem q_748 : (Cond.instanceMethod yX8_does) ∈ gW := gW_of (n := 748) (by decide +kernel) rfl
theorem q_749 : (Cond.selects RX8 yX8_does yX8_does) ∈ gW := gW_of (n := 749) (by decide +kernel) rfl
theorem q_750 : (Cond.code yX8_does prog_1_method_24_code 4 (Option.some FieldType.int)) ∈ gW := gW_of (n := 750) (by decide +kernel) rfl
theorem q_751 : (Cond.methodLink RX8 179 yX2_faultIn) ∈ gW := gW_of (n := 751) (by decide +kernel) rfl
theorem q_752 : (Cond.instanceMethod yX2_faultIn) ∈ gW := gW_of (n := 752) (by decide +kernel) rfl
theorem q_753 : (Cond.selects RX2 yX2_faultIn yX2_faultIn) ∈ gW := gW_of (n := 753) (by decide +kernel) rfl
theorem q_754 : (Cond.code yX2_faultIn prog_4_method_5_code 6 (Option.some FieldType.int)) ∈ gW := gW_of (n := 754) (by decide +kernel) rfl
theorem q_755 : (Cond.methodLink RX2 25 yX2_restarts) ∈ gW := gW_of (n := 755) (by decide +kernel) rfl
theorem q_756 : (Cond.instanceMethod yX2_restarts) ∈ gW := gW_of (n := 756) (by decide +kernel) rfl
theorem q_757 : (Cond.selects RX2 yX2_restarts yX2_restarts) ∈ gW := gW_of (n := 757) (by decide +kernel) rfl
theorem q_758 : (Cond.code yX2_restarts prog_4_method_3_code 1 (Option.none : Option Jvm.ClassFile.FieldType)) ∈ gW := gW_of (n := 758) (by decide +kernel) rfl
theorem q_759 : (Cond.methodLink RX2 28 yX2_isAtEnd) ∈ gW := gW_of (n := 759) (by decide +kernel) rfl
theorem q_760 : (Cond.instanceMethod yX2_isAtEnd) ∈ gW := gW_of (n := 760) (by decide +kernel) rfl
theorem q_761 : (Cond.selects RX2 yX2_isAtEnd yX2_isAtEnd) ∈ gW := gW_of (n := 761) (by decide +kernel) rfl
theorem q_762 : (Cond.code yX2_isAtEnd prog_4_method_4_code 1 (Option.some FieldType.boolean)) ∈ gW := gW_of (n := 762) (by decide +kernel) rfl
theorem q_763 : (Cond.methodLink RX2 22 yX2_skipsBlanks) ∈ gW := gW_of (n := 763) (by decide +kernel) rfl
theorem q_765 : (Cond.instanceMethod yX2_skipsBlanks) ∈ gW := gW_of (n := 765) (by decide +kernel) rfl
theorem q_766 : (Cond.code yX2_skipsBlanks prog_4_method_8_code 1 (Option.none : Option Jvm.ClassFile.FieldType)) ∈ gW := gW_of (n := 766) (by decide +kernel) rfl
theorem q_767 : (Cond.methodLink RX2 32 yX2_byteHere) ∈ gW := gW_of (n := 767) (by decide +kernel) rfl
theorem q_769 : (Cond.instanceMethod yX2_byteHere) ∈ gW := gW_of (n := 769) (by decide +kernel) rfl
theorem q_770 : (Cond.code yX2_byteHere prog_4_method_9_code 1 (Option.some FieldType.int)) ∈ gW := gW_of (n := 770) (by decide +kernel) rfl
theorem q_771 : (Cond.methodLinkNest RX2 76 yX8_isWithin "PictureMoves") ∈ nW := nW_of (n := 771) (by decide +kernel) rfl
theorem q_772 : (Cond.methodLink RX2 38 yX2_reads) ∈ gW := gW_of (n := 772) (by decide +kernel) rfl
theorem q_773 : (Cond.instanceMethod yX2_reads) ∈ gW := gW_of (n := 773) (by decide +kernel) rfl
theorem q_774 : (Cond.selects RX2 yX2_reads yX2_reads) ∈ gW := gW_of (n := 774) (by decide +kernel) rfl
theorem q_775 : (Cond.code yX2_reads prog_4_method_6_code 5 (Option.some FieldType.int)) ∈ gW := gW_of (n := 775) (by decide +kernel) rfl
theorem q_776 : (Cond.methodLink RX2 46 yX1_isSign) ∈ gW := gW_of (n := 776) (by decide +kernel) rfl
theorem q_777 : (Cond.static yX1_isSign) ∈ gW := gW_of (n := 777) (by decide +kernel) rfl
theorem q_778 : (Cond.code yX1_isSign prog_3_method_6_code 1 (Option.some FieldType.boolean)) ∈ gW := gW_of (n := 778) (by decide +kernel) rfl
theorem q_779 : (Cond.methodLink RX1 54 yJ0_isEmpty_aae02) ∈ gW := gW_of (n := 779) (by decide +kernel) rfl
theorem q_780 : (Cond.instanceMethod yJ0_isEmpty_aae02) ∈ gW := gW_of (n := 780) (by decide +kernel) rfl
theorem q_781 : (Cond.selects RJ0 yJ0_isEmpty_aae02 yJ0_isEmpty_aae02) ∈ gW := gW_of (n := 781) (by decide +kernel) rfl
theorem q_782 : (Cond.code yJ0_isEmpty_aae02 prog_14_method_55_code 1 (Option.some FieldType.boolean)) ∈ gW := gW_of (n := 782) (by decide +kernel) rfl
theorem q_783 : (Cond.methodLink RX2 50 yX1_begins) ∈ gW := gW_of (n := 783) (by decide +kernel) rfl
theorem q_784 : (Cond.methodLink RX2 58 yJ0_length_8abf5) ∈ gW := gW_of (n := 784) (by decide +kernel) rfl
theorem q_785 : (Cond.methodLink RX2 62 yX2_readsNumber) ∈ gW := gW_of (n := 785) (by decide +kernel) rfl
theorem q_787 : (Cond.instanceMethod yX2_readsNumber) ∈ gW := gW_of (n := 787) (by decide +kernel) rfl
theorem q_788 : (Cond.code yX2_readsNumber prog_4_method_7_code 4 (Option.some FieldType.boolean)) ∈ gW := gW_of (n := 788) (by decide +kernel) rfl
theorem q_789 : (Cond.methodLink RX2 68 yX1_with) ∈ gW := gW_of (n := 789) (by decide +kernel) rfl
theorem q_790 : (Cond.methodLink RX2 42 yX2_openingsAfter) ∈ gW := gW_of (n := 790) (by decide +kernel) rfl
theorem q_791 : (Cond.static yX2_openingsAfter) ∈ gW := gW_of (n := 791) (by decide +kernel) rfl
theorem q_792 : (Cond.code yX2_openingsAfter prog_4_method_10_code 2 (Option.some FieldType.int)) ∈ gW := gW_of (n := 792) (by decide +kernel) rfl
theorem q_793 : (Cond.methodLink RX8 183 yX2_restarts) ∈ gW := gW_of (n := 793) (by decide +kernel) rfl
theorem q_794 : (Cond.methodLink RX8 186 yX2_isAtEnd) ∈ gW := gW_of (n := 794) (by decide +kernel) rfl
theorem q_795 : (Cond.methodLink RX8 189 yX2_reads) ∈ gW := gW_of (n := 795) (by decide +kernel) rfl
theorem q_796 : (Cond.methodLink RL 113 yX8_back) ∈ gW := gW_of (n := 796) (by decide +kernel) rfl
theorem q_797 : (Cond.instanceMethod yX8_back) ∈ gW := gW_of (n := 797) (by decide +kernel) rfl
theorem q_798 : (Cond.selects RX8 yX8_back yX8_back) ∈ gW := gW_of (n := 798) (by decide +kernel) rfl
theorem q_799 : (Cond.code yX8_back prog_1_method_25_code 1 (Option.some FieldType.int)) ∈ gW := gW_of (n := 799) (by decide +kernel) rfl
theorem q_800 : (Cond.methodLink RX8 195 yX5_givesBack) ∈ gW := gW_of (n := 800) (by decide +kernel) rfl
theorem q_801 : (Cond.instanceMethod yX5_givesBack) ∈ gW := gW_of (n := 801) (by decide +kernel) rfl
theorem q_802 : (Cond.selects RX5 yX5_givesBack yX5_givesBack) ∈ gW := gW_of (n := 802) (by decide +kernel) rfl
theorem q_803 : (Cond.code yX5_givesBack prog_7_method_3_code 2 (Option.none : Option Jvm.ClassFile.FieldType)) ∈ gW := gW_of (n := 803) (by decide +kernel) rfl
theorem q_804 : (Cond.methodLink RL 117 yX8_told) ∈ gW := gW_of (n := 804) (by decide +kernel) rfl
theorem q_805 : (Cond.instanceMethod yX8_told) ∈ gW := gW_of (n := 805) (by decide +kernel) rfl
theorem q_806 : (Cond.selects RX8 yX8_told yX8_told) ∈ gW := gW_of (n := 806) (by decide +kernel) rfl
theorem q_807 : (Cond.code yX8_told prog_1_method_26_code 2 (Option.some FieldType.int)) ∈ gW := gW_of (n := 807) (by decide +kernel) rfl
theorem q_808 : (Cond.methodLink RX8 198 yX8_tally) ∈ gW := gW_of (n := 808) (by decide +kernel) rfl
theorem q_810 : (Cond.instanceMethod yX8_tally) ∈ gW := gW_of (n := 810) (by decide +kernel) rfl
theorem q_811 : (Cond.code yX8_tally prog_1_method_31_code 2 (Option.some FieldType.int)) ∈ gW := gW_of (n := 811) (by decide +kernel) rfl
theorem q_812 : (Cond.methodLink RL 121 yX8_digest) ∈ gW := gW_of (n := 812) (by decide +kernel) rfl
theorem q_813 : (Cond.instanceMethod yX8_digest) ∈ gW := gW_of (n := 813) (by decide +kernel) rfl
theorem q_814 : (Cond.selects RX8 yX8_digest yX8_digest) ∈ gW := gW_of (n := 814) (by decide +kernel) rfl
theorem q_815 : (Cond.code yX8_digest prog_1_method_27_code 4 (Option.some FieldType.long)) ∈ gW := gW_of (n := 815) (by decide +kernel) rfl
theorem q_816 : (Cond.constantLong RX8 201 (2083 : Int64)) ∈ gW := gW_of (n := 816) (by decide +kernel) rfl
theorem q_817 : (Cond.constantLong RX8 203 (31 : Int64)) ∈ gW := gW_of (n := 817) (by decide +kernel) rfl
theorem q_818 : (Cond.methodLink RX8 205 yX6_mixedInto) ∈ gW := gW_of (n := 818) (by decide +kernel) rfl
theorem q_819 : (Cond.instanceMethod yX6_mixedInto) ∈ gW := gW_of (n := 819) (by decide +kernel) rfl
theorem q_820 : (Cond.selects RX6 yX6_mixedInto yX6_mixedInto) ∈ gW := gW_of (n := 820) (by decide +kernel) rfl
theorem q_821 : (Cond.code yX6_mixedInto prog_8_method_12_code 6 (Option.some FieldType.long)) ∈ gW := gW_of (n := 821) (by decide +kernel) rfl
theorem q_822 : (Cond.constantLong RX6 80 (31 : Int64)) ∈ gW := gW_of (n := 822) (by decide +kernel) rfl
theorem q_823 : (Cond.classLink RL 10 "PictureMovesModel") ∈ gW := gW_of (n := 823) (by decide +kernel) rfl
theorem q_824 : (Cond.instantiable RX9 12) ∈ gW := gW_of (n := 824) (by decide +kernel) rfl
theorem q_825 : (Cond.methodLink RL 12 yX9_init) ∈ gW := gW_of (n := 825) (by decide +kernel) rfl
theorem q_826 : (Cond.instanceMethod yX9_init) ∈ gW := gW_of (n := 826) (by decide +kernel) rfl
theorem q_827 : (Cond.code yX9_init prog_11_method_1_code 2 (Option.none : Option Jvm.ClassFile.FieldType)) ∈ gW := gW_of (n := 827) (by decide +kernel) rfl
theorem q_828 : (Cond.methodLink RX9 1 ({ cls := "java/lang/Object", name := "<init>", desc := "()V" } : Jvm.MethodName)) ∈ gW := gW_of (n := 828) (by decide +kernel) rfl
theorem q_829 : (Cond.fieldLink RX9 7 "PictureMovesModel" "now" "[I") ∈ gW := gW_of (n := 829) (by decide +kernel) rfl
theorem q_830 : (Cond.fieldLink RX9 13 "PictureMovesModel" "past" "[I") ∈ gW := gW_of (n := 830) (by decide +kernel) rfl
theorem q_831 : (Cond.fieldLink RX9 53 "PictureMovesModel" "states" "I") ∈ gW := gW_of (n := 831) (by decide +kernel) rfl
theorem q_832 : (Cond.fieldLink RX9 16 "PictureMovesModel" "refused" "[I") ∈ gW := gW_of (n := 832) (by decide +kernel) rfl
theorem q_833 : (Cond.fieldLink RX9 19 "PictureMovesModel" "aside" "[I") ∈ gW := gW_of (n := 833) (by decide +kernel) rfl
theorem q_834 : (Cond.fieldLink RX9 22 "PictureMovesModel" "pile" "[I") ∈ gW := gW_of (n := 834) (by decide +kernel) rfl
theorem q_835 : (Cond.fieldLink RX9 25 "PictureMovesModel" "came" "[Z") ∈ gW := gW_of (n := 835) (by decide +kernel) rfl
theorem q_836 : (Cond.fieldLink RX9 152 "PictureMovesModel" "pileLong" "I") ∈ gW := gW_of (n := 836) (by decide +kernel) rfl
theorem q_837 : (Cond.fieldLink RX9 29 "PictureMovesModel" "text" "[I") ∈ gW := gW_of (n := 837) (by decide +kernel) rfl
theorem q_838 : (Cond.fieldLink RX9 213 "PictureMovesModel" "textLong" "I") ∈ gW := gW_of (n := 838) (by decide +kernel) rfl
theorem q_839 : (Cond.fieldLink RX9 216 "PictureMovesModel" "place" "I") ∈ gW := gW_of (n := 839) (by decide +kernel) rfl
theorem q_840 : (Cond.fieldLink RX9 32 "PictureMovesModel" "args" "[I") ∈ gW := gW_of (n := 840) (by decide +kernel) rfl
theorem q_841 : (Cond.laysFinal "PictureMovesModel" "PictureMovesModel" "now" "[I") ∈ gW := gW_of (n := 841) (by decide +kernel) rfl
theorem q_843 : (Cond.laysFinal "PictureMovesModel" "PictureMovesModel" "past" "[I") ∈ gW := gW_of (n := 843) (by decide +kernel) rfl
theorem q_845 : (Cond.lays "PictureMovesModel" "PictureMovesModel" "states" "I") ∈ gW := gW_of (n := 845) (by decide +kernel) rfl
theorem q_847 : (Cond.laysFinal "PictureMovesModel" "PictureMovesModel" "refused" "[I") ∈ gW := gW_of (n := 847) (by decide +kernel) rfl
theorem q_849 : (Cond.laysFinal "PictureMovesModel" "PictureMovesModel" "aside" "[I") ∈ gW := gW_of (n := 849) (by decide +kernel) rfl
theorem q_851 : (Cond.laysFinal "PictureMovesModel" "PictureMovesModel" "pile" "[I") ∈ gW := gW_of (n := 851) (by decide +kernel) rfl
theorem q_853 : (Cond.laysFinal "PictureMovesModel" "PictureMovesModel" "came" "[Z") ∈ gW := gW_of (n := 853) (by decide +kernel) rfl
theorem q_855 : (Cond.lays "PictureMovesModel" "PictureMovesModel" "pileLong" "I") ∈ gW := gW_of (n := 855) (by decide +kernel) rfl
theorem q_857 : (Cond.laysFinal "PictureMovesModel" "PictureMovesModel" "text" "[I") ∈ gW := gW_of (n := 857) (by decide +kernel) rfl
theorem q_859 : (Cond.lays "PictureMovesModel" "PictureMovesModel" "textLong" "I") ∈ gW := gW_of (n := 859) (by decide +kernel) rfl
theorem q_861 : (Cond.lays "PictureMovesModel" "PictureMovesModel" "place" "I") ∈ gW := gW_of (n := 861) (by decide +kernel) rfl
theorem q_863 : (Cond.laysFinal "PictureMovesModel" "PictureMovesModel" "args" "[I") ∈ gW := gW_of (n := 863) (by decide +kernel) rfl
theorem q_866 : (Cond.arrayClass FieldType.boolean) ∈ gW := gW_of (n := 866) (by decide +kernel) rfl
theorem q_867 : (Cond.methodLink RL 17 yX9_dot) ∈ gW := gW_of (n := 867) (by decide +kernel) rfl
theorem q_868 : (Cond.instanceMethod yX9_dot) ∈ gW := gW_of (n := 868) (by decide +kernel) rfl
theorem q_869 : (Cond.selects RX9 yX9_dot yX9_dot) ∈ gW := gW_of (n := 869) (by decide +kernel) rfl
theorem q_870 : (Cond.code yX9_dot prog_11_method_19_code 6 (Option.some FieldType.int)) ∈ gW := gW_of (n := 870) (by decide +kernel) rfl
theorem q_871 : (Cond.methodLink RX9 79 yX9_isPicture) ∈ gW := gW_of (n := 871) (by decide +kernel) rfl
theorem q_872 : (Cond.static yX9_isPicture) ∈ gW := gW_of (n := 872) (by decide +kernel) rfl
theorem q_873 : (Cond.code yX9_isPicture prog_11_method_7_code 1 (Option.some FieldType.boolean)) ∈ gW := gW_of (n := 873) (by decide +kernel) rfl
theorem q_874 : (Cond.constantLong RX9 35 (2 : Int64)) ∈ gW := gW_of (n := 874) (by decide +kernel) rfl
theorem q_875 : (Cond.methodLink RX9 37 yX9_in) ∈ gW := gW_of (n := 875) (by decide +kernel) rfl
theorem q_876 : (Cond.static yX9_in) ∈ gW := gW_of (n := 876) (by decide +kernel) rfl
theorem q_877 : (Cond.code yX9_in prog_11_method_3_code 6 (Option.some FieldType.boolean)) ∈ gW := gW_of (n := 877) (by decide +kernel) rfl
theorem q_878 : (Cond.methodLink RX9 57 yX9_isIn) ∈ gW := gW_of (n := 878) (by decide +kernel) rfl
theorem q_879 : (Cond.static yX9_isIn) ∈ gW := gW_of (n := 879) (by decide +kernel) rfl
theorem q_880 : (Cond.code yX9_isIn prog_11_method_11_code 2 (Option.some FieldType.boolean)) ∈ gW := gW_of (n := 880) (by decide +kernel) rfl
theorem q_881 : (Cond.constantLong RX9 49 (31 : Int64)) ∈ gW := gW_of (n := 881) (by decide +kernel) rfl
theorem q_882 : (Cond.constantLong RX9 51 (23 : Int64)) ∈ gW := gW_of (n := 882) (by decide +kernel) rfl
theorem q_883 : (Cond.methodLink RX9 83 yX9_bad) ∈ gW := gW_of (n := 883) (by decide +kernel) rfl
theorem q_885 : (Cond.instanceMethod yX9_bad) ∈ gW := gW_of (n := 885) (by decide +kernel) rfl
theorem q_886 : (Cond.code yX9_bad prog_11_method_4_code 2 (Option.some FieldType.int)) ∈ gW := gW_of (n := 886) (by decide +kernel) rfl
theorem q_887 : (Cond.methodLink RX9 87 yX9_keep) ∈ gW := gW_of (n := 887) (by decide +kernel) rfl
theorem q_889 : (Cond.instanceMethod yX9_keep) ∈ gW := gW_of (n := 889) (by decide +kernel) rfl
theorem q_890 : (Cond.code yX9_keep prog_11_method_12_code 2 (Option.none : Option Jvm.ClassFile.FieldType)) ∈ gW := gW_of (n := 890) (by decide +kernel) rfl
theorem q_891 : (Cond.methodLink RX9 75 yX9_sets) ∈ gW := gW_of (n := 891) (by decide +kernel) rfl
theorem q_893 : (Cond.instanceMethod yX9_sets) ∈ gW := gW_of (n := 893) (by decide +kernel) rfl
theorem q_894 : (Cond.code yX9_sets prog_11_method_15_code 6 (Option.some FieldType.int)) ∈ gW := gW_of (n := 894) (by decide +kernel) rfl
theorem q_895 : (Cond.methodLink RX9 65 yX9_dotOf) ∈ gW := gW_of (n := 895) (by decide +kernel) rfl
theorem q_897 : (Cond.instanceMethod yX9_dotOf) ∈ gW := gW_of (n := 897) (by decide +kernel) rfl
theorem q_898 : (Cond.code yX9_dotOf prog_11_method_14_code 4 (Option.some FieldType.int)) ∈ gW := gW_of (n := 898) (by decide +kernel) rfl
theorem q_899 : (Cond.methodLink RX9 61 yX9_bitOf) ∈ gW := gW_of (n := 899) (by decide +kernel) rfl
theorem q_900 : (Cond.static yX9_bitOf) ∈ gW := gW_of (n := 900) (by decide +kernel) rfl
theorem q_901 : (Cond.code yX9_bitOf prog_11_method_13_code 2 (Option.some FieldType.int)) ∈ gW := gW_of (n := 901) (by decide +kernel) rfl
theorem q_902 : (Cond.methodLink RL 22 yX9_pattern) ∈ gW := gW_of (n := 902) (by decide +kernel) rfl
theorem q_903 : (Cond.instanceMethod yX9_pattern) ∈ gW := gW_of (n := 903) (by decide +kernel) rfl
theorem q_904 : (Cond.selects RX9 yX9_pattern yX9_pattern) ∈ gW := gW_of (n := 904) (by decide +kernel) rfl
theorem q_905 : (Cond.code yX9_pattern prog_11_method_20_code 4 (Option.some FieldType.int)) ∈ gW := gW_of (n := 905) (by decide +kernel) rfl
theorem q_906 : (Cond.constantLong RX9 90 (7 : Int64)) ∈ gW := gW_of (n := 906) (by decide +kernel) rfl
theorem q_907 : (Cond.constantLong RX9 47 (255 : Int64)) ∈ gW := gW_of (n := 907) (by decide +kernel) rfl
theorem q_908 : (Cond.methodLink RL 26 yX9_draw) ∈ gW := gW_of (n := 908) (by decide +kernel) rfl
theorem q_909 : (Cond.instanceMethod yX9_draw) ∈ gW := gW_of (n := 909) (by decide +kernel) rfl
theorem q_910 : (Cond.selects RX9 yX9_draw yX9_draw) ∈ gW := gW_of (n := 910) (by decide +kernel) rfl
theorem q_911 : (Cond.code yX9_draw prog_11_method_22_code 9 (Option.some FieldType.int)) ∈ gW := gW_of (n := 911) (by decide +kernel) rfl
theorem q_912 : (Cond.constantLong RX9 92 (999999 : Int64)) ∈ gW := gW_of (n := 912) (by decide +kernel) rfl
theorem q_913 : (Cond.constantLong RX9 94 (1103515245 : Int64)) ∈ gW := gW_of (n := 913) (by decide +kernel) rfl
theorem q_914 : (Cond.constantLong RX9 96 (12345 : Int64)) ∈ gW := gW_of (n := 914) (by decide +kernel) rfl
theorem q_915 : (Cond.constantLong RX9 98 (2147483648 : Int64)) ∈ gW := gW_of (n := 915) (by decide +kernel) rfl
theorem q_916 : (Cond.constantLong RX9 100 (65536 : Int64)) ∈ gW := gW_of (n := 916) (by decide +kernel) rfl
theorem q_917 : (Cond.constantLong RX9 102 (32768 : Int64)) ∈ gW := gW_of (n := 917) (by decide +kernel) rfl
theorem q_918 : (Cond.methodLink RX9 104 yX9_dots) ∈ gW := gW_of (n := 918) (by decide +kernel) rfl
theorem q_920 : (Cond.instanceMethod yX9_dots) ∈ gW := gW_of (n := 920) (by decide +kernel) rfl
theorem q_921 : (Cond.code yX9_dots prog_11_method_21_code 5 (Option.some FieldType.int)) ∈ gW := gW_of (n := 921) (by decide +kernel) rfl
theorem q_922 : (Cond.methodLink RL 30 yX9_opening) ∈ gW := gW_of (n := 922) (by decide +kernel) rfl
theorem q_923 : (Cond.instanceMethod yX9_opening) ∈ gW := gW_of (n := 923) (by decide +kernel) rfl
theorem q_924 : (Cond.selects RX9 yX9_opening yX9_opening) ∈ gW := gW_of (n := 924) (by decide +kernel) rfl
theorem q_925 : (Cond.code yX9_opening prog_11_method_24_code 5 (Option.some FieldType.int)) ∈ gW := gW_of (n := 925) (by decide +kernel) rfl
theorem q_926 : (Cond.methodLink RX9 107 yX9_isPlace) ∈ gW := gW_of (n := 926) (by decide +kernel) rfl
theorem q_927 : (Cond.static yX9_isPlace) ∈ gW := gW_of (n := 927) (by decide +kernel) rfl
theorem q_928 : (Cond.code yX9_isPlace prog_11_method_8_code 2 (Option.some FieldType.boolean)) ∈ gW := gW_of (n := 928) (by decide +kernel) rfl
theorem q_929 : (Cond.constantLong RX9 41 (-64 : Int64)) ∈ gW := gW_of (n := 929) (by decide +kernel) rfl
theorem q_930 : (Cond.constantLong RX9 43 (63 : Int64)) ∈ gW := gW_of (n := 930) (by decide +kernel) rfl
theorem q_931 : (Cond.methodLink RX9 110 yX9_isSize) ∈ gW := gW_of (n := 931) (by decide +kernel) rfl
theorem q_932 : (Cond.static yX9_isSize) ∈ gW := gW_of (n := 932) (by decide +kernel) rfl
theorem q_933 : (Cond.code yX9_isSize prog_11_method_9_code 2 (Option.some FieldType.boolean)) ∈ gW := gW_of (n := 933) (by decide +kernel) rfl
theorem q_934 : (Cond.constantLong RX9 45 (64 : Int64)) ∈ gW := gW_of (n := 934) (by decide +kernel) rfl
theorem q_935 : (Cond.methodLink RX9 113 yX9_full) ∈ gW := gW_of (n := 935) (by decide +kernel) rfl
theorem q_937 : (Cond.instanceMethod yX9_full) ∈ gW := gW_of (n := 937) (by decide +kernel) rfl
theorem q_938 : (Cond.code yX9_full prog_11_method_6_code 1 (Option.some FieldType.int)) ∈ gW := gW_of (n := 938) (by decide +kernel) rfl
theorem q_939 : (Cond.methodLink RX9 117 yX9_opens) ∈ gW := gW_of (n := 939) (by decide +kernel) rfl
theorem q_941 : (Cond.instanceMethod yX9_opens) ∈ gW := gW_of (n := 941) (by decide +kernel) rfl
theorem q_942 : (Cond.code yX9_opens prog_11_method_23_code 6 (Option.none : Option Jvm.ClassFile.FieldType)) ∈ gW := gW_of (n := 942) (by decide +kernel) rfl
theorem q_943 : (Cond.methodLink RL 35 yX9_closes) ∈ gW := gW_of (n := 943) (by decide +kernel) rfl
theorem q_944 : (Cond.instanceMethod yX9_closes) ∈ gW := gW_of (n := 944) (by decide +kernel) rfl
theorem q_945 : (Cond.selects RX9 yX9_closes yX9_closes) ∈ gW := gW_of (n := 945) (by decide +kernel) rfl
theorem q_946 : (Cond.code yX9_closes prog_11_method_26_code 1 (Option.some FieldType.int)) ∈ gW := gW_of (n := 946) (by decide +kernel) rfl
theorem q_947 : (Cond.methodLink RX9 121 yX9_shuts) ∈ gW := gW_of (n := 947) (by decide +kernel) rfl
theorem q_949 : (Cond.instanceMethod yX9_shuts) ∈ gW := gW_of (n := 949) (by decide +kernel) rfl
theorem q_950 : (Cond.code yX9_shuts prog_11_method_25_code 3 (Option.some FieldType.int)) ∈ gW := gW_of (n := 950) (by decide +kernel) rfl
theorem q_951 : (Cond.methodLink RL 40 yX9_move) ∈ gW := gW_of (n := 951) (by decide +kernel) rfl
theorem q_952 : (Cond.instanceMethod yX9_move) ∈ gW := gW_of (n := 952) (by decide +kernel) rfl
theorem q_953 : (Cond.selects RX9 yX9_move yX9_move) ∈ gW := gW_of (n := 953) (by decide +kernel) rfl
theorem q_954 : (Cond.code yX9_move prog_11_method_30_code 10 (Option.some FieldType.int)) ∈ gW := gW_of (n := 954) (by decide +kernel) rfl
theorem q_955 : (Cond.methodLink RX9 135 yX9_isJoin) ∈ gW := gW_of (n := 955) (by decide +kernel) rfl
theorem q_956 : (Cond.static yX9_isJoin) ∈ gW := gW_of (n := 956) (by decide +kernel) rfl
theorem q_957 : (Cond.code yX9_isJoin prog_11_method_10_code 1 (Option.some FieldType.boolean)) ∈ gW := gW_of (n := 957) (by decide +kernel) rfl
theorem q_958 : (Cond.methodLink RX9 138 yX9_moves) ∈ gW := gW_of (n := 958) (by decide +kernel) rfl
theorem q_960 : (Cond.instanceMethod yX9_moves) ∈ gW := gW_of (n := 960) (by decide +kernel) rfl
theorem q_961 : (Cond.code yX9_moves prog_11_method_29_code 13 (Option.some FieldType.int)) ∈ gW := gW_of (n := 961) (by decide +kernel) rfl
theorem q_962 : (Cond.methodLink RX9 124 yX9_copies) ∈ gW := gW_of (n := 962) (by decide +kernel) rfl
theorem q_964 : (Cond.instanceMethod yX9_copies) ∈ gW := gW_of (n := 964) (by decide +kernel) rfl
theorem q_965 : (Cond.code yX9_copies prog_11_method_27_code 3 (Option.none : Option Jvm.ClassFile.FieldType)) ∈ gW := gW_of (n := 965) (by decide +kernel) rfl
theorem q_966 : (Cond.methodLink RX9 128 yX9_asideAt) ∈ gW := gW_of (n := 966) (by decide +kernel) rfl
theorem q_968 : (Cond.instanceMethod yX9_asideAt) ∈ gW := gW_of (n := 968) (by decide +kernel) rfl
theorem q_969 : (Cond.code yX9_asideAt prog_11_method_28_code 4 (Option.some FieldType.int)) ∈ gW := gW_of (n := 969) (by decide +kernel) rfl
theorem q_970 : (Cond.methodLink RX9 131 yX9_joinsAt) ∈ gW := gW_of (n := 970) (by decide +kernel) rfl
theorem q_972 : (Cond.instanceMethod yX9_joinsAt) ∈ gW := gW_of (n := 972) (by decide +kernel) rfl
theorem q_973 : (Cond.code yX9_joinsAt prog_11_method_18_code 7 (Option.some FieldType.int)) ∈ gW := gW_of (n := 973) (by decide +kernel) rfl
theorem q_974 : (Cond.methodLink RX9 69 yX9_isOpen) ∈ gW := gW_of (n := 974) (by decide +kernel) rfl
theorem q_976 : (Cond.instanceMethod yX9_isOpen) ∈ gW := gW_of (n := 976) (by decide +kernel) rfl
theorem q_977 : (Cond.code yX9_isOpen prog_11_method_17_code 6 (Option.some FieldType.boolean)) ∈ gW := gW_of (n := 977) (by decide +kernel) rfl
theorem q_978 : (Cond.methodLink RX9 72 yX9_patternAt) ∈ gW := gW_of (n := 978) (by decide +kernel) rfl
theorem q_980 : (Cond.instanceMethod yX9_patternAt) ∈ gW := gW_of (n := 980) (by decide +kernel) rfl
theorem q_981 : (Cond.code yX9_patternAt prog_11_method_16_code 3 (Option.some FieldType.int)) ∈ gW := gW_of (n := 981) (by decide +kernel) rfl
theorem q_982 : (Cond.methodLink RL 45 yX9_line) ∈ gW := gW_of (n := 982) (by decide +kernel) rfl
theorem q_983 : (Cond.instanceMethod yX9_line) ∈ gW := gW_of (n := 983) (by decide +kernel) rfl
theorem q_984 : (Cond.selects RX9 yX9_line yX9_line) ∈ gW := gW_of (n := 984) (by decide +kernel) rfl
theorem q_985 : (Cond.code yX9_line prog_11_method_34_code 7 (Option.some FieldType.int)) ∈ gW := gW_of (n := 985) (by decide +kernel) rfl
theorem q_986 : (Cond.methodLink RX9 148 yX9_lines) ∈ gW := gW_of (n := 986) (by decide +kernel) rfl
theorem q_988 : (Cond.instanceMethod yX9_lines) ∈ gW := gW_of (n := 988) (by decide +kernel) rfl
theorem q_989 : (Cond.code yX9_lines prog_11_method_33_code 15 (Option.some FieldType.int)) ∈ gW := gW_of (n := 989) (by decide +kernel) rfl
theorem q_990 : (Cond.methodLink RX9 142 yX9_size) ∈ gW := gW_of (n := 990) (by decide +kernel) rfl
theorem q_991 : (Cond.static yX9_size) ∈ gW := gW_of (n := 991) (by decide +kernel) rfl
theorem q_992 : (Cond.code yX9_size prog_11_method_31_code 1 (Option.some FieldType.int)) ∈ gW := gW_of (n := 992) (by decide +kernel) rfl
theorem q_993 : (Cond.methodLink RX9 145 yX9_by) ∈ gW := gW_of (n := 993) (by decide +kernel) rfl
theorem q_994 : (Cond.static yX9_by) ∈ gW := gW_of (n := 994) (by decide +kernel) rfl
theorem q_995 : (Cond.code yX9_by prog_11_method_32_code 3 (Option.some FieldType.int)) ∈ gW := gW_of (n := 995) (by decide +kernel) rfl
theorem q_996 : (Cond.methodLink RL 50 yX9_flood) ∈ gW := gW_of (n := 996) (by decide +kernel) rfl
theorem q_997 : (Cond.instanceMethod yX9_flood) ∈ gW := gW_of (n := 997) (by decide +kernel) rfl
theorem q_998 : (Cond.selects RX9 yX9_flood yX9_flood) ∈ gW := gW_of (n := 998) (by decide +kernel) rfl
theorem q_999 : (Cond.code yX9_flood prog_11_method_40_code 4 (Option.some FieldType.int)) ∈ gW := gW_of (n := 999) (by decide +kernel) rfl
theorem q_1000 : (Cond.methodLink RX9 166 yX9_mayFlood) ∈ gW := gW_of (n := 1000) (by decide +kernel) rfl
theorem q_1002 : (Cond.instanceMethod yX9_mayFlood) ∈ gW := gW_of (n := 1002) (by decide +kernel) rfl
theorem q_1003 : (Cond.code yX9_mayFlood prog_11_method_38_code 3 (Option.some FieldType.boolean)) ∈ gW := gW_of (n := 1003) (by decide +kernel) rfl
theorem q_1004 : (Cond.methodLink RX9 169 yX9_no) ∈ gW := gW_of (n := 1004) (by decide +kernel) rfl
theorem q_1006 : (Cond.instanceMethod yX9_no) ∈ gW := gW_of (n := 1006) (by decide +kernel) rfl
theorem q_1007 : (Cond.code yX9_no prog_11_method_5_code 1 (Option.some FieldType.int)) ∈ gW := gW_of (n := 1007) (by decide +kernel) rfl
theorem q_1008 : (Cond.methodLink RX9 172 yX9_floods) ∈ gW := gW_of (n := 1008) (by decide +kernel) rfl
theorem q_1010 : (Cond.instanceMethod yX9_floods) ∈ gW := gW_of (n := 1010) (by decide +kernel) rfl
theorem q_1011 : (Cond.code yX9_floods prog_11_method_39_code 8 (Option.some FieldType.int)) ∈ gW := gW_of (n := 1011) (by decide +kernel) rfl
theorem q_1012 : (Cond.methodLink RX9 159 yX9_noneCame) ∈ gW := gW_of (n := 1012) (by decide +kernel) rfl
theorem q_1014 : (Cond.instanceMethod yX9_noneCame) ∈ gW := gW_of (n := 1014) (by decide +kernel) rfl
theorem q_1015 : (Cond.code yX9_noneCame prog_11_method_37_code 2 (Option.none : Option Jvm.ClassFile.FieldType)) ∈ gW := gW_of (n := 1015) (by decide +kernel) rfl
theorem q_1016 : (Cond.methodLink RX9 162 yX9_spreads) ∈ gW := gW_of (n := 1016) (by decide +kernel) rfl
theorem q_1018 : (Cond.instanceMethod yX9_spreads) ∈ gW := gW_of (n := 1018) (by decide +kernel) rfl
theorem q_1019 : (Cond.code yX9_spreads prog_11_method_36_code 13 (Option.some FieldType.int)) ∈ gW := gW_of (n := 1019) (by decide +kernel) rfl
theorem q_1020 : (Cond.methodLink RX9 155 yX9_comes) ∈ gW := gW_of (n := 1020) (by decide +kernel) rfl
theorem q_1022 : (Cond.instanceMethod yX9_comes) ∈ gW := gW_of (n := 1022) (by decide +kernel) rfl
theorem q_1023 : (Cond.code yX9_comes prog_11_method_35_code 3 (Option.none : Option Jvm.ClassFile.FieldType)) ∈ gW := gW_of (n := 1023) (by decide +kernel) rfl
theorem q_1024 : (Cond.methodLink RL 54 yX9_rectangle) ∈ gW := gW_of (n := 1024) (by decide +kernel) rfl
theorem q_1025 : (Cond.instanceMethod yX9_rectangle) ∈ gW := gW_of (n := 1025) (by decide +kernel) rfl
theorem q_1026 : (Cond.selects RX9 yX9_rectangle yX9_rectangle) ∈ gW := gW_of (n := 1026) (by decide +kernel) rfl
theorem q_1027 : (Cond.code yX9_rectangle prog_11_method_42_code 7 (Option.some FieldType.int)) ∈ gW := gW_of (n := 1027) (by decide +kernel) rfl
theorem q_1028 : (Cond.methodLink RX9 175 yX9_rectangles) ∈ gW := gW_of (n := 1028) (by decide +kernel) rfl
theorem q_1030 : (Cond.instanceMethod yX9_rectangles) ∈ gW := gW_of (n := 1030) (by decide +kernel) rfl
theorem q_1031 : (Cond.code yX9_rectangles prog_11_method_41_code 10 (Option.some FieldType.int)) ∈ gW := gW_of (n := 1031) (by decide +kernel) rfl
theorem q_1032 : (Cond.methodLink RL 59 yX9_letter) ∈ gW := gW_of (n := 1032) (by decide +kernel) rfl
theorem q_1033 : (Cond.instanceMethod yX9_letter) ∈ gW := gW_of (n := 1033) (by decide +kernel) rfl
theorem q_1034 : (Cond.selects RX9 yX9_letter yX9_letter) ∈ gW := gW_of (n := 1034) (by decide +kernel) rfl
theorem q_1035 : (Cond.code yX9_letter prog_11_method_44_code 6 (Option.some FieldType.int)) ∈ gW := gW_of (n := 1035) (by decide +kernel) rfl
theorem q_1036 : (Cond.constantLong RX9 178 (15 : Int64)) ∈ gW := gW_of (n := 1036) (by decide +kernel) rfl
theorem q_1037 : (Cond.methodLink RX9 180 yX9_letters) ∈ gW := gW_of (n := 1037) (by decide +kernel) rfl
theorem q_1039 : (Cond.instanceMethod yX9_letters) ∈ gW := gW_of (n := 1039) (by decide +kernel) rfl
theorem q_1040 : (Cond.code yX9_letters prog_11_method_43_code 10 (Option.some FieldType.int)) ∈ gW := gW_of (n := 1040) (by decide +kernel) rfl
theorem q_1041 : (Cond.methodLink RL 63 yX9_joins) ∈ gW := gW_of (n := 1041) (by decide +kernel) rfl
theorem q_1042 : (Cond.instanceMethod yX9_joins) ∈ gW := gW_of (n := 1042) (by decide +kernel) rfl
theorem q_1043 : (Cond.selects RX9 yX9_joins yX9_joins) ∈ gW := gW_of (n := 1043) (by decide +kernel) rfl
theorem q_1044 : (Cond.code yX9_joins prog_11_method_45_code 4 (Option.some FieldType.int)) ∈ gW := gW_of (n := 1044) (by decide +kernel) rfl
theorem q_1045 : (Cond.methodLink RL 67 yX9_changes) ∈ gW := gW_of (n := 1045) (by decide +kernel) rfl
theorem q_1046 : (Cond.instanceMethod yX9_changes) ∈ gW := gW_of (n := 1046) (by decide +kernel) rfl
theorem q_1047 : (Cond.selects RX9 yX9_changes yX9_changes) ∈ gW := gW_of (n := 1047) (by decide +kernel) rfl
theorem q_1048 : (Cond.code yX9_changes prog_11_method_48_code 6 (Option.some FieldType.int)) ∈ gW := gW_of (n := 1048) (by decide +kernel) rfl
theorem q_1049 : (Cond.constantLong RX9 186 (4 : Int64)) ∈ gW := gW_of (n := 1049) (by decide +kernel) rfl
theorem q_1050 : (Cond.methodLink RX9 188 yX9_changed) ∈ gW := gW_of (n := 1050) (by decide +kernel) rfl
theorem q_1052 : (Cond.instanceMethod yX9_changed) ∈ gW := gW_of (n := 1052) (by decide +kernel) rfl
theorem q_1053 : (Cond.code yX9_changed prog_11_method_47_code 7 (Option.some FieldType.int)) ∈ gW := gW_of (n := 1053) (by decide +kernel) rfl
theorem q_1054 : (Cond.methodLink RX9 183 yX9_sides) ∈ gW := gW_of (n := 1054) (by decide +kernel) rfl
theorem q_1056 : (Cond.instanceMethod yX9_sides) ∈ gW := gW_of (n := 1056) (by decide +kernel) rfl
theorem q_1057 : (Cond.code yX9_sides prog_11_method_46_code 4 (Option.some FieldType.int)) ∈ gW := gW_of (n := 1057) (by decide +kernel) rfl
theorem q_1058 : (Cond.methodLink RL 71 yX9_rolls) ∈ gW := gW_of (n := 1058) (by decide +kernel) rfl
theorem q_1059 : (Cond.instanceMethod yX9_rolls) ∈ gW := gW_of (n := 1059) (by decide +kernel) rfl
theorem q_1060 : (Cond.selects RX9 yX9_rolls yX9_rolls) ∈ gW := gW_of (n := 1060) (by decide +kernel) rfl
theorem q_1061 : (Cond.code yX9_rolls prog_11_method_49_code 7 (Option.some FieldType.int)) ∈ gW := gW_of (n := 1061) (by decide +kernel) rfl
theorem q_1062 : (Cond.constantLong RX9 191 (-31 : Int64)) ∈ gW := gW_of (n := 1062) (by decide +kernel) rfl
theorem q_1063 : (Cond.methodLink RL 75 yX9_at) ∈ gW := gW_of (n := 1063) (by decide +kernel) rfl
theorem q_1064 : (Cond.instanceMethod yX9_at) ∈ gW := gW_of (n := 1064) (by decide +kernel) rfl
theorem q_1065 : (Cond.selects RX9 yX9_at yX9_at) ∈ gW := gW_of (n := 1065) (by decide +kernel) rfl
theorem q_1066 : (Cond.code yX9_at prog_11_method_50_code 4 (Option.some FieldType.int)) ∈ gW := gW_of (n := 1066) (by decide +kernel) rfl
theorem q_1067 : (Cond.methodLink RL 79 yX9_row) ∈ gW := gW_of (n := 1067) (by decide +kernel) rfl
theorem q_1068 : (Cond.instanceMethod yX9_row) ∈ gW := gW_of (n := 1068) (by decide +kernel) rfl
theorem q_1069 : (Cond.selects RX9 yX9_row yX9_row) ∈ gW := gW_of (n := 1069) (by decide +kernel) rfl
theorem q_1070 : (Cond.code yX9_row prog_11_method_51_code 3 (Option.some FieldType.int)) ∈ gW := gW_of (n := 1070) (by decide +kernel) rfl
theorem q_1071 : (Cond.methodLink RL 83 yX9_of) ∈ gW := gW_of (n := 1071) (by decide +kernel) rfl
theorem q_1072 : (Cond.instanceMethod yX9_of) ∈ gW := gW_of (n := 1072) (by decide +kernel) rfl
theorem q_1073 : (Cond.selects RX9 yX9_of yX9_of) ∈ gW := gW_of (n := 1073) (by decide +kernel) rfl
theorem q_1074 : (Cond.code yX9_of prog_11_method_55_code 3 (Option.some FieldType.int)) ∈ gW := gW_of (n := 1074) (by decide +kernel) rfl
theorem q_1075 : (Cond.constantLong RX9 193 (6 : Int64)) ∈ gW := gW_of (n := 1075) (by decide +kernel) rfl
theorem q_1076 : (Cond.methodLink RX9 195 yX9_partsOf) ∈ gW := gW_of (n := 1076) (by decide +kernel) rfl
theorem q_1078 : (Cond.instanceMethod yX9_partsOf) ∈ gW := gW_of (n := 1078) (by decide +kernel) rfl
theorem q_1079 : (Cond.code yX9_partsOf prog_11_method_52_code 5 (Option.some FieldType.int)) ∈ gW := gW_of (n := 1079) (by decide +kernel) rfl
theorem q_1080 : (Cond.methodLink RX9 198 yX9_openDots) ∈ gW := gW_of (n := 1080) (by decide +kernel) rfl
theorem q_1082 : (Cond.instanceMethod yX9_openDots) ∈ gW := gW_of (n := 1082) (by decide +kernel) rfl
theorem q_1083 : (Cond.code yX9_openDots prog_11_method_54_code 3 (Option.some FieldType.int)) ∈ gW := gW_of (n := 1083) (by decide +kernel) rfl
theorem q_1084 : (Cond.methodLink RX9 201 yX9_edge) ∈ gW := gW_of (n := 1084) (by decide +kernel) rfl
theorem q_1086 : (Cond.instanceMethod yX9_edge) ∈ gW := gW_of (n := 1086) (by decide +kernel) rfl
theorem q_1087 : (Cond.code yX9_edge prog_11_method_53_code 8 (Option.some FieldType.int)) ∈ gW := gW_of (n := 1087) (by decide +kernel) rfl
theorem q_1088 : (Cond.methodLink RL 87 yX9_count) ∈ gW := gW_of (n := 1088) (by decide +kernel) rfl
theorem q_1089 : (Cond.instanceMethod yX9_count) ∈ gW := gW_of (n := 1089) (by decide +kernel) rfl
theorem q_1090 : (Cond.selects RX9 yX9_count yX9_count) ∈ gW := gW_of (n := 1090) (by decide +kernel) rfl
theorem q_1091 : (Cond.code yX9_count prog_11_method_56_code 9 (Option.some FieldType.int)) ∈ gW := gW_of (n := 1091) (by decide +kernel) rfl
theorem q_1092 : (Cond.methodLink RL 91 yX9_unlike) ∈ gW := gW_of (n := 1092) (by decide +kernel) rfl
theorem q_1093 : (Cond.instanceMethod yX9_unlike) ∈ gW := gW_of (n := 1093) (by decide +kernel) rfl
theorem q_1094 : (Cond.selects RX9 yX9_unlike yX9_unlike) ∈ gW := gW_of (n := 1094) (by decide +kernel) rfl
theorem q_1095 : (Cond.code yX9_unlike prog_11_method_57_code 5 (Option.some FieldType.int)) ∈ gW := gW_of (n := 1095) (by decide +kernel) rfl
theorem q_1096 : (Cond.methodLink RL 95 yX9_finds) ∈ gW := gW_of (n := 1096) (by decide +kernel) rfl
theorem q_1097 : (Cond.instanceMethod yX9_finds) ∈ gW := gW_of (n := 1097) (by decide +kernel) rfl
theorem q_1098 : (Cond.selects RX9 yX9_finds yX9_finds) ∈ gW := gW_of (n := 1098) (by decide +kernel) rfl
theorem q_1099 : (Cond.code yX9_finds prog_11_method_59_code 10 (Option.some FieldType.int)) ∈ gW := gW_of (n := 1099) (by decide +kernel) rfl
theorem q_1100 : (Cond.constantLong RX9 205 (8 : Int64)) ∈ gW := gW_of (n := 1100) (by decide +kernel) rfl
theorem q_1101 : (Cond.methodLink RX9 207 yX9_isLike) ∈ gW := gW_of (n := 1101) (by decide +kernel) rfl
theorem q_1103 : (Cond.instanceMethod yX9_isLike) ∈ gW := gW_of (n := 1103) (by decide +kernel) rfl
theorem q_1104 : (Cond.code yX9_isLike prog_11_method_58_code 12 (Option.some FieldType.boolean)) ∈ gW := gW_of (n := 1104) (by decide +kernel) rfl
theorem q_1105 : (Cond.methodLink RL 99 yX9_open) ∈ gW := gW_of (n := 1105) (by decide +kernel) rfl
theorem q_1106 : (Cond.instanceMethod yX9_open) ∈ gW := gW_of (n := 1106) (by decide +kernel) rfl
theorem q_1107 : (Cond.selects RX9 yX9_open yX9_open) ∈ gW := gW_of (n := 1107) (by decide +kernel) rfl
theorem q_1108 : (Cond.code yX9_open prog_11_method_60_code 3 (Option.some FieldType.int)) ∈ gW := gW_of (n := 1108) (by decide +kernel) rfl
theorem q_1109 : (Cond.methodLink RL 104 yX9_type) ∈ gW := gW_of (n := 1109) (by decide +kernel) rfl
theorem q_1110 : (Cond.instanceMethod yX9_type) ∈ gW := gW_of (n := 1110) (by decide +kernel) rfl
theorem q_1111 : (Cond.selects RX9 yX9_type yX9_type) ∈ gW := gW_of (n := 1111) (by decide +kernel) rfl
theorem q_1112 : (Cond.code yX9_type prog_11_method_61_code 2 (Option.some FieldType.int)) ∈ gW := gW_of (n := 1112) (by decide +kernel) rfl
theorem q_1113 : (Cond.constantLong RX9 211 (127 : Int64)) ∈ gW := gW_of (n := 1113) (by decide +kernel) rfl
theorem q_1114 : (Cond.methodLink RL 108 yX9_clear) ∈ gW := gW_of (n := 1114) (by decide +kernel) rfl
theorem q_1115 : (Cond.instanceMethod yX9_clear) ∈ gW := gW_of (n := 1115) (by decide +kernel) rfl
theorem q_1116 : (Cond.selects RX9 yX9_clear yX9_clear) ∈ gW := gW_of (n := 1116) (by decide +kernel) rfl
theorem q_1117 : (Cond.code yX9_clear prog_11_method_62_code 2 (Option.some FieldType.int)) ∈ gW := gW_of (n := 1117) (by decide +kernel) rfl
theorem q_1118 : (Cond.methodLink RL 112 yX9_does) ∈ gW := gW_of (n := 1118) (by decide +kernel) rfl
theorem q_1119 : (Cond.instanceMethod yX9_does) ∈ gW := gW_of (n := 1119) (by decide +kernel) rfl
theorem q_1120 : (Cond.selects RX9 yX9_does yX9_does) ∈ gW := gW_of (n := 1120) (by decide +kernel) rfl
theorem q_1121 : (Cond.code yX9_does prog_11_method_72_code 1 (Option.some FieldType.int)) ∈ gW := gW_of (n := 1121) (by decide +kernel) rfl
theorem q_1122 : (Cond.methodLink RX9 249 yX9_goesThrough) ∈ gW := gW_of (n := 1122) (by decide +kernel) rfl
theorem q_1124 : (Cond.instanceMethod yX9_goesThrough) ∈ gW := gW_of (n := 1124) (by decide +kernel) rfl
theorem q_1125 : (Cond.code yX9_goesThrough prog_11_method_71_code 6 (Option.some FieldType.int)) ∈ gW := gW_of (n := 1125) (by decide +kernel) rfl
theorem q_1126 : (Cond.methodLink RX9 243 yX9_reads) ∈ gW := gW_of (n := 1126) (by decide +kernel) rfl
theorem q_1128 : (Cond.instanceMethod yX9_reads) ∈ gW := gW_of (n := 1128) (by decide +kernel) rfl
theorem q_1129 : (Cond.code yX9_reads prog_11_method_69_code 7 (Option.some FieldType.int)) ∈ gW := gW_of (n := 1129) (by decide +kernel) rfl
theorem q_1130 : (Cond.methodLink RX9 222 yX9_skip) ∈ gW := gW_of (n := 1130) (by decide +kernel) rfl
theorem q_1132 : (Cond.instanceMethod yX9_skip) ∈ gW := gW_of (n := 1132) (by decide +kernel) rfl
theorem q_1133 : (Cond.code yX9_skip prog_11_method_63_code 1 (Option.none : Option Jvm.ClassFile.FieldType)) ∈ gW := gW_of (n := 1133) (by decide +kernel) rfl
theorem q_1134 : (Cond.methodLink RX9 234 yX9_manyOf) ∈ gW := gW_of (n := 1134) (by decide +kernel) rfl
theorem q_1135 : (Cond.static yX9_manyOf) ∈ gW := gW_of (n := 1135) (by decide +kernel) rfl
theorem q_1136 : (Cond.code yX9_manyOf prog_11_method_66_code 1 (Option.some FieldType.int)) ∈ gW := gW_of (n := 1136) (by decide +kernel) rfl
theorem q_1137 : (Cond.methodLink RX9 237 yX9_sortsOf) ∈ gW := gW_of (n := 1137) (by decide +kernel) rfl
theorem q_1138 : (Cond.static yX9_sortsOf) ∈ gW := gW_of (n := 1138) (by decide +kernel) rfl
theorem q_1139 : (Cond.code yX9_sortsOf prog_11_method_65_code 1 (Option.some FieldType.int)) ∈ gW := gW_of (n := 1139) (by decide +kernel) rfl
theorem q_1140 : (Cond.constant RX9 219 (311022110 : Int32)) ∈ gW := gW_of (n := 1140) (by decide +kernel) rfl
theorem q_1141 : (Cond.constant RX9 220 (311110 : Int32)) ∈ gW := gW_of (n := 1141) (by decide +kernel) rfl
theorem q_1142 : (Cond.constant RX9 221 (322110 : Int32)) ∈ gW := gW_of (n := 1142) (by decide +kernel) rfl
theorem q_1143 : (Cond.methodLink RX9 240 yX9_takes) ∈ gW := gW_of (n := 1143) (by decide +kernel) rfl
theorem q_1145 : (Cond.instanceMethod yX9_takes) ∈ gW := gW_of (n := 1145) (by decide +kernel) rfl
theorem q_1146 : (Cond.code yX9_takes prog_11_method_68_code 11 (Option.some FieldType.boolean)) ∈ gW := gW_of (n := 1146) (by decide +kernel) rfl
theorem q_1147 : (Cond.methodLink RX9 225 yX9_isByte) ∈ gW := gW_of (n := 1147) (by decide +kernel) rfl
theorem q_1149 : (Cond.instanceMethod yX9_isByte) ∈ gW := gW_of (n := 1149) (by decide +kernel) rfl
theorem q_1150 : (Cond.code yX9_isByte prog_11_method_64_code 4 (Option.some FieldType.boolean)) ∈ gW := gW_of (n := 1150) (by decide +kernel) rfl
theorem q_1151 : (Cond.constantLong RX9 229 (3 : Int64)) ∈ gW := gW_of (n := 1151) (by decide +kernel) rfl
theorem q_1152 : (Cond.methodLink RX9 231 yX9_isAs) ∈ gW := gW_of (n := 1152) (by decide +kernel) rfl
theorem q_1153 : (Cond.static yX9_isAs) ∈ gW := gW_of (n := 1153) (by decide +kernel) rfl
theorem q_1154 : (Cond.code yX9_isAs prog_11_method_67_code 2 (Option.some FieldType.boolean)) ∈ gW := gW_of (n := 1154) (by decide +kernel) rfl
theorem q_1155 : (Cond.methodLink RX9 246 yX9_doesOne) ∈ gW := gW_of (n := 1155) (by decide +kernel) rfl
theorem q_1157 : (Cond.instanceMethod yX9_doesOne) ∈ gW := gW_of (n := 1157) (by decide +kernel) rfl
theorem q_1158 : (Cond.code yX9_doesOne prog_11_method_70_code 3 (Option.some FieldType.int)) ∈ gW := gW_of (n := 1158) (by decide +kernel) rfl
theorem q_1159 : (Cond.methodLink RL 116 yX9_back) ∈ gW := gW_of (n := 1159) (by decide +kernel) rfl
theorem q_1160 : (Cond.instanceMethod yX9_back) ∈ gW := gW_of (n := 1160) (by decide +kernel) rfl
theorem q_1161 : (Cond.selects RX9 yX9_back yX9_back) ∈ gW := gW_of (n := 1161) (by decide +kernel) rfl
theorem q_1162 : (Cond.code yX9_back prog_11_method_73_code 2 (Option.some FieldType.int)) ∈ gW := gW_of (n := 1162) (by decide +kernel) rfl
theorem q_1163 : (Cond.methodLink RL 120 yX9_told) ∈ gW := gW_of (n := 1163) (by decide +kernel) rfl
theorem q_1164 : (Cond.instanceMethod yX9_told) ∈ gW := gW_of (n := 1164) (by decide +kernel) rfl
theorem q_1165 : (Cond.selects RX9 yX9_told yX9_told) ∈ gW := gW_of (n := 1165) (by decide +kernel) rfl
theorem q_1166 : (Cond.code yX9_told prog_11_method_75_code 2 (Option.some FieldType.int)) ∈ gW := gW_of (n := 1166) (by decide +kernel) rfl
theorem q_1167 : (Cond.constantLong RX9 253 (5 : Int64)) ∈ gW := gW_of (n := 1167) (by decide +kernel) rfl
theorem q_1168 : (Cond.methodLink RX9 255 yX9_toldOf) ∈ gW := gW_of (n := 1168) (by decide +kernel) rfl
theorem q_1170 : (Cond.instanceMethod yX9_toldOf) ∈ gW := gW_of (n := 1170) (by decide +kernel) rfl
theorem q_1171 : (Cond.code yX9_toldOf prog_11_method_74_code 2 (Option.some FieldType.int)) ∈ gW := gW_of (n := 1171) (by decide +kernel) rfl
theorem q_1172 : (Cond.methodLink RL 125 yX9_digest) ∈ gW := gW_of (n := 1172) (by decide +kernel) rfl
theorem q_1173 : (Cond.instanceMethod yX9_digest) ∈ gW := gW_of (n := 1173) (by decide +kernel) rfl
theorem q_1174 : (Cond.selects RX9 yX9_digest yX9_digest) ∈ gW := gW_of (n := 1174) (by decide +kernel) rfl
theorem q_1175 : (Cond.code yX9_digest prog_11_method_76_code 4 (Option.some FieldType.long)) ∈ gW := gW_of (n := 1175) (by decide +kernel) rfl
theorem q_1176 : (Cond.constantLong RX9 258 (2083 : Int64)) ∈ gW := gW_of (n := 1176) (by decide +kernel) rfl
theorem q_1177 : (Cond.fieldLink RJ0 9 "java/lang/String" "value" "[B") ∈ gW := gW_of (n := 1177) (by decide +kernel) rfl
theorem q_1178 : (Cond.fieldLink RJ0 15 "java/lang/String" "coder" "B") ∈ gW := gW_of (n := 1178) (by decide +kernel) rfl
theorem i_X0 : ∀ w ∈ u_ws RX0 TX0 3, w ∈ gW := List.forall_mem_cons.mpr ⟨q_197, List.forall_mem_cons.mpr ⟨q_199, List.forall_mem_cons.mpr ⟨q_201, fun _ h => absurd h List.not_mem_nil⟩⟩⟩
theorem i_X1 : ∀ w ∈ u_ws RX1 TX1 5, w ∈ gW := List.forall_mem_cons.mpr ⟨q_220, List.forall_mem_cons.mpr ⟨q_222, List.forall_mem_cons.mpr ⟨q_224, List.forall_mem_cons.mpr ⟨q_226, List.forall_mem_cons.mpr ⟨q_228, fun _ h => absurd h List.not_mem_nil⟩⟩⟩⟩⟩
theorem i_X2 : ∀ w ∈ u_ws RX2 TX2 4, w ∈ gW := List.forall_mem_cons.mpr ⟨q_243, List.forall_mem_cons.mpr ⟨q_245, List.forall_mem_cons.mpr ⟨q_247, List.forall_mem_cons.mpr ⟨q_249, fun _ h => absurd h List.not_mem_nil⟩⟩⟩⟩
theorem i_X3 : ∀ w ∈ u_ws RX3 TX3 4, w ∈ gW := List.forall_mem_cons.mpr ⟨q_166, List.forall_mem_cons.mpr ⟨q_168, List.forall_mem_cons.mpr ⟨q_170, List.forall_mem_cons.mpr ⟨q_172, fun _ h => absurd h List.not_mem_nil⟩⟩⟩⟩
theorem i_X4 : ∀ w ∈ u_ws RX4 TX4 4, w ∈ gW := List.forall_mem_cons.mpr ⟨q_127, List.forall_mem_cons.mpr ⟨q_129, List.forall_mem_cons.mpr ⟨q_131, List.forall_mem_cons.mpr ⟨q_133, fun _ h => absurd h List.not_mem_nil⟩⟩⟩⟩
theorem i_X5 : ∀ w ∈ u_ws RX5 TX5 3, w ∈ gW := List.forall_mem_cons.mpr ⟨q_149, List.forall_mem_cons.mpr ⟨q_151, List.forall_mem_cons.mpr ⟨q_153, fun _ h => absurd h List.not_mem_nil⟩⟩⟩
theorem i_X6 : ∀ w ∈ u_ws RX6 TX6 4, w ∈ gW := List.forall_mem_cons.mpr ⟨q_105, List.forall_mem_cons.mpr ⟨q_107, List.forall_mem_cons.mpr ⟨q_109, List.forall_mem_cons.mpr ⟨q_111, fun _ h => absurd h List.not_mem_nil⟩⟩⟩⟩
theorem i_X7 : ∀ w ∈ u_ws RX7 TX7 2, w ∈ gW := List.forall_mem_cons.mpr ⟨q_183, List.forall_mem_cons.mpr ⟨q_185, fun _ h => absurd h List.not_mem_nil⟩⟩
theorem i_X8 : ∀ w ∈ u_ws RX8 TX8 10, w ∈ gW := List.forall_mem_cons.mpr ⟨q_262, List.forall_mem_cons.mpr ⟨q_264, List.forall_mem_cons.mpr ⟨q_266, List.forall_mem_cons.mpr ⟨q_268, List.forall_mem_cons.mpr ⟨q_270, List.forall_mem_cons.mpr ⟨q_272, List.forall_mem_cons.mpr ⟨q_274, List.forall_mem_cons.mpr ⟨q_276, List.forall_mem_cons.mpr ⟨q_278, List.forall_mem_cons.mpr ⟨q_280, fun _ h => absurd h List.not_mem_nil⟩⟩⟩⟩⟩⟩⟩⟩⟩⟩
theorem i_X9 : ∀ w ∈ u_ws RX9 TX9 12, w ∈ gW := List.forall_mem_cons.mpr ⟨q_841, List.forall_mem_cons.mpr ⟨q_843, List.forall_mem_cons.mpr ⟨q_845, List.forall_mem_cons.mpr ⟨q_847, List.forall_mem_cons.mpr ⟨q_849, List.forall_mem_cons.mpr ⟨q_851, List.forall_mem_cons.mpr ⟨q_853, List.forall_mem_cons.mpr ⟨q_855, List.forall_mem_cons.mpr ⟨q_857, List.forall_mem_cons.mpr ⟨q_859, List.forall_mem_cons.mpr ⟨q_861, List.forall_mem_cons.mpr ⟨q_863, fun _ h => absurd h List.not_mem_nil⟩⟩⟩⟩⟩⟩⟩⟩⟩⟩⟩⟩
end
section

abbrev zG : Type := va_G × (ClassId × ClassId × ClassId × ClassId) × (Nat → Nat) × (Nat → Nat)
abbrev cI (G : zG) : ClassId := G.2.1.1
abbrev cB (G : zG) : ClassId := G.2.1.2.1
abbrev cZ (G : zG) : ClassId := G.2.1.2.2.1
abbrev cS (G : zG) : ClassId := G.2.1.2.2.2
abbrev aK (G : zG) : Nat → Nat := G.2.2.1
abbrev aV (G : zG) : Nat → Nat := G.2.2.2
abbrev zT (G : zG) : List (ClassId × FieldType) := [(cI G, .int), (cB G, .byte), (cZ G, .boolean), (cS G, .object "PictureMoves$Scene")]
/-- the text constants of Order: pool places, texts, their bytes -/
def sIx : Nat → Nat := fun i => [15, 58, 60, 62, 64, 66, 68].getD i 0
def sTx : Nat → String := fun i => ["", "pxxwwpxxj", "pxxxxj", "pxx", "pxxwwj", "pnxxj", "xxww"].getD i ""
def sLn : List Nat := [0, 9, 6, 3, 6, 5, 4]
def sBy : List (List Int32) := [[], [112, 120, 120, 119, 119, 112, 120, 120, 106], [112, 120, 120, 120, 120, 106], [112, 120, 120], [112, 120, 120, 119, 119, 106], [112, 110, 120, 120, 106], [120, 120, 119, 119]]
/-- what the tables say that no list of words can carry, and what nobody writes -/
def zE (G : zG) (A : Nat → Prop) (U : State) (H : Heap) : Prop :=
  va_K G.1 vwCl (zT G) U ∧ (∀ w ∈ nW, va_Nw w U) ∧ vk_S 7 sLn sBy (aK G) (aV G) A U H ∧ (∀ i, i < 7 → vk_R RX1 (sIx i) (sTx i) (aK G i) U) ∧ va_Z "java/lang/String" "COMPACT_STRINGS" "Z" (.int 1) A U H ∧ va_Zq "jdk/internal/util/Preconditions" "SIOOBE_FORMATTER" "Ljava/util/function/BiFunction;" A U H
theorem zE.same {G : zG} {A : Nat → Prop} {u U : State} {H : Heap} (hv : u.vm = U.vm) (h : zE G A u H) : zE G A U H := by
  obtain ⟨h1, h2, h3, h4, h5, h6⟩ := h
  have ha : u.vm.Alike U.vm := by rw [hv]; exact Vm.Alike.refl _
  exact ⟨va_K.moved ha h1, fun w hw => va_Nw.same (nW_on hw) hv (h2 w hw), vk_S.moved ha h3, fun i hi => vk_R.same hv.symm (h4 i hi), va_Z.moved ha h5, va_Zq.moved ha h6⟩
theorem zE.to {G : zG} {A B : Nat → Prop} {s U : State} {H : Heap} {locs : List Loc} (h : zE G A s s.heap) (hW : s.WarmedH U.vm) (hS : va_S A s.heap H locs) (hAB : ∀ q, B q → A q) : zE G B U H := by
  obtain ⟨h1, h2, h3, h4, h5, h6⟩ := h
  have ha := hW.alike
  exact ⟨va_K.moved ha h1, fun w hw => nW_warm hW hw (h2 w hw), ((vk_S.moved ha h3).kept hS.2.1).narrow hAB, fun i hi => vk_R.warm hW (h4 i hi), ((va_Z.moved ha h5).kept hS.2.1).narrow hAB, ((va_Zq.moved ha h6).kept hS.2.1).narrow hAB⟩
/-- a body under way: machine, launch, room, start, method, what is to be reached, what may change -/
abbrev zX : Type := Program × Launch × Env × Room × State × MethodId × Array Value × List Frame × Method × Code × (State → Prop) × (Nat → Prop)
abbrev xP (X : zX) : Program := X.1
abbrev xL (X : zX) : Launch := X.2.1
abbrev xE (X : zX) : Env := X.2.2.1
abbrev xR (X : zX) : Room := X.2.2.2.1
abbrev xS (X : zX) : State := X.2.2.2.2.1
abbrev xM (X : zX) : MethodId := X.2.2.2.2.2.1
abbrev xA (X : zX) : Array Value := X.2.2.2.2.2.2.1
abbrev xB (X : zX) : List Frame := X.2.2.2.2.2.2.2.1
abbrev xT (X : zX) : Method := X.2.2.2.2.2.2.2.2.1
abbrev xC (X : zX) : Code := X.2.2.2.2.2.2.2.2.2.1
abbrev xQ (X : zX) : State → Prop := X.2.2.2.2.2.2.2.2.2.2.1
abbrev xF (X : zX) : Nat → Prop := X.2.2.2.2.2.2.2.2.2.2.2
/-- the machine at pc, with these locals, this stack, this world, comes to what is to be reached -/
def Z (X : zX) (G : zG) (nL k n : Nat) (ws : va_W) (pc : Nat) (lv : List (Nat × Value)) (st : List Value) : Prop :=
  ∀ (H : Heap) (locs : List Loc) (ls : Array Slot), va_P G.1 vwCl ws H → va_D (xF X) ws → va_S (xF X) (xS X).heap H locs → lv_has ls nL lv → W (xP X) (xL X) (xE X) (xR X) (xS X) (xM X) (xA X) (xB X) (xT X) (xC X) H locs k n (xQ X) (F0 (xM X) pc ls st)
def zC (X : zX) (G : zG) (nL : Nat) (cc : ByteArray) (own : String) (ret : Option FieldType) (fr lo : Nat) : Prop :=
  (xP X).tables.exec = Jvm.exec ∧ (xC X).code = cc ∧ (xC X).maxLocals = nL ∧ (xS X).vm.findClass own = some (xM X).cls ∧ (∀ w ∈ gW, w.before (xA X) (xS X) = true) ∧ (∀ q, (xS X).heap.size ≤ q → xF X q) ∧ zE G (xF X) (xS X) (xS X).heap ∧ (xT X).sig.returnType = ret ∧ (xT X).locks = false ∧ fr ≤ (xR X).frames ∧ lo ≤ (xR X).locals
def zP (X : zX) (G : zG) (k n : Nat) (Po : Option Value → va_W → Prop) : Prop := ∃ Qc : Array Value → State → Outcome → State → Prop, xQ X = MQ (xB X) Qc (xA X) (xS X) k n (xF X) ∧ ∀ (v : Option Value) (w : va_W) (H : Heap) (locs : List Loc), Po v w → va_P G.1 vwCl w H → va_S (xF X) (xS X).heap H locs → ∀ t : State, t.heap = H → (xS X).WarmedH t.vm → Qc (xA X) (xS X) (.returned v) t
section ZR
variable {X : zX} {G : zG} {nL k n fr lo : Nat} {cc : ByteArray} {own : String} {ret : Option FieldType} {ws : va_W} {pc : Nat} {lv : List (Nat × Value)} {rest : List Value} {Po : Option Value → va_W → Prop}
theorem z_lv {lv' : List (Nat × Value)} {st : List Value} (ks : List Nat) (hl : lv_pick lv ks = lv') (kk : Z X G nL k n ws pc lv' st) : Z X G nL k n ws pc lv st := fun H locs ls hP hD hS h => kk H locs ls hP hD hS (lv_sub h ks hl)
theorem z_topi {x : Int32} (kk : ∀ y : Int32, y = x → Z X G nL k n ws pc lv (.int y :: rest)) : Z X G nL k n ws pc lv (.int x :: rest) := kk x rfl
theorem z_topl {x : Int64} (kk : ∀ y : Int64, y = x → Z X G nL k n ws pc lv (.long y :: rest)) : Z X G nL k n ws pc lv (.long x :: rest) := kk x rfl
/-- the same state, said otherwise -/
theorem z_eq {ws' : va_W} {lv' : List (Nat × Value)} {st st' : List Value} (hw : ws = ws') (hl : lv = lv') (hs : st = st') (kk : Z X G nL k n ws' pc lv' st') : Z X G nL k n ws pc lv st := by subst hw hl hs; exact kk

theorem z_iconst {i : Int} {v : Int32} (C : zC X G nL cc own ret fr lo)  (hd : decode cc pc = .ok (.iconst i, 1)) (hv : Int32.ofInt i = v) (kk : Z X G nL k n ws (pc + 1) lv (.int v :: rest)) : Z X G nL k n ws pc lv rest := fun H locs ls hP hD hS hl => lv_iconst C.1 C.2.1 hd hv (kk H locs ls hP hD hS hl)
theorem z_bipush {i : Int} {v : Int32} (C : zC X G nL cc own ret fr lo)  (hd : decode cc pc = .ok (.bipush i, 2)) (hv : (Int8.ofInt i).toInt32 = v) (kk : Z X G nL k n ws (pc + 2) lv (.int v :: rest)) : Z X G nL k n ws pc lv rest := fun H locs ls hP hD hS hl => lv_bipush C.1 C.2.1 hd hv (kk H locs ls hP hD hS hl)
theorem z_sipush {i : Int} {v : Int32} (C : zC X G nL cc own ret fr lo)  (hd : decode cc pc = .ok (.sipush i, 3)) (hv : (Int16.ofInt i).toInt32 = v) (kk : Z X G nL k n ws (pc + 3) lv (.int v :: rest)) : Z X G nL k n ws pc lv rest := fun H locs ls hP hD hS hl => lv_sipush C.1 C.2.1 hd hv (kk H locs ls hP hD hS hl)
theorem z_lconst {i : Fin 2} {v : Int64} (C : zC X G nL cc own ret fr lo)  (hd : decode cc pc = .ok (.lconst i, 1)) (hv : Int64.ofNat (i : Nat) = v) (kk : Z X G nL k n ws (pc + 1) lv (.long v :: rest)) : Z X G nL k n ws pc lv rest := fun H locs ls hP hD hS hl => lv_lconst C.1 C.2.1 hd hv (kk H locs ls hP hD hS hl)
theorem z_ldc {i : Nat} {v : Int32} (C : zC X G nL cc own ret fr lo) (q : Cond.constant own i v ∈ gW) (hd : decode cc pc = .ok (.ldc i, 2))  (kk : Z X G nL k n ws (pc + 2) lv (.int v :: rest)) : Z X G nL k n ws pc lv rest := fun H locs ls hP hD hS hl => lv_ldc C.1 C.2.1 C.2.2.2.1 (C.2.2.2.2.1 _ q) hd (kk H locs ls hP hD hS hl)
theorem z_ldc_w {i : Nat} {v : Int32} (C : zC X G nL cc own ret fr lo) (q : Cond.constant own i v ∈ gW) (hd : decode cc pc = .ok (.ldc_w i, 3))  (kk : Z X G nL k n ws (pc + 3) lv (.int v :: rest)) : Z X G nL k n ws pc lv rest := fun H locs ls hP hD hS hl => lv_ldcw C.1 C.2.1 C.2.2.2.1 (C.2.2.2.2.1 _ q) hd (kk H locs ls hP hD hS hl)
theorem z_ldc2_w {i : Nat} {v : Int64} (C : zC X G nL cc own ret fr lo) (q : Cond.constantLong own i v ∈ gW) (hd : decode cc pc = .ok (.ldc2_w i, 3))  (kk : Z X G nL k n ws (pc + 3) lv (.long v :: rest)) : Z X G nL k n ws pc lv rest := fun H locs ls hP hD hS hl => lv_ldc2 C.1 C.2.1 C.2.2.2.1 (C.2.2.2.2.1 _ q) hd (kk H locs ls hP hD hS hl)
theorem z_iload_n {f : Fin 4} {x : Int32} (C : zC X G nL cc own ret fr lo) (j : Nat) (hd : decode cc pc = .ok (.iload_n f, 1)) (hj : lv[j]? = some ((f : Nat), .int x)) (kk : Z X G nL k n ws (pc + 1) lv (.int x :: rest)) : Z X G nL k n ws pc lv rest := fun H locs ls hP hD hS hl => lv_iload_n C.1 C.2.1 hd rfl (lv_at hl j hj) (kk H locs ls hP hD hS hl)
theorem z_iload {f : Nat} {x : Int32} (C : zC X G nL cc own ret fr lo) (j : Nat) (hd : decode cc pc = .ok (.iload f, 2)) (hj : lv[j]? = some (f, .int x)) (kk : Z X G nL k n ws (pc + 2) lv (.int x :: rest)) : Z X G nL k n ws pc lv rest := fun H locs ls hP hD hS hl => lv_iload C.1 C.2.1 hd (lv_at hl j hj) (kk H locs ls hP hD hS hl)
theorem z_lload_n {f : Fin 4} {x : Int64} (C : zC X G nL cc own ret fr lo) (j : Nat) (hd : decode cc pc = .ok (.lload_n f, 1)) (hj : lv[j]? = some ((f : Nat), .long x)) (kk : Z X G nL k n ws (pc + 1) lv (.long x :: rest)) : Z X G nL k n ws pc lv rest := fun H locs ls hP hD hS hl => lv_lload_n C.1 C.2.1 hd rfl (lv_at hl j hj) (kk H locs ls hP hD hS hl)
theorem z_lload {f : Nat} {x : Int64} (C : zC X G nL cc own ret fr lo) (j : Nat) (hd : decode cc pc = .ok (.lload f, 2)) (hj : lv[j]? = some (f, .long x)) (kk : Z X G nL k n ws (pc + 2) lv (.long x :: rest)) : Z X G nL k n ws pc lv rest := fun H locs ls hP hD hS hl => lv_lload C.1 C.2.1 hd (lv_at hl j hj) (kk H locs ls hP hD hS hl)
theorem z_aload_n {f : Fin 4} {x : Nat} (C : zC X G nL cc own ret fr lo) (j : Nat) (hd : decode cc pc = .ok (.aload_n f, 1)) (hj : lv[j]? = some ((f : Nat), .ref x)) (kk : Z X G nL k n ws (pc + 1) lv (.ref x :: rest)) : Z X G nL k n ws pc lv rest := fun H locs ls hP hD hS hl => lv_aload_n C.1 C.2.1 hd rfl (lv_at hl j hj) (kk H locs ls hP hD hS hl)
theorem z_aload {f : Nat} {x : Nat} (C : zC X G nL cc own ret fr lo) (j : Nat) (hd : decode cc pc = .ok (.aload f, 2)) (hj : lv[j]? = some (f, .ref x)) (kk : Z X G nL k n ws (pc + 2) lv (.ref x :: rest)) : Z X G nL k n ws pc lv rest := fun H locs ls hP hD hS hl => lv_aload C.1 C.2.1 hd (lv_at hl j hj) (kk H locs ls hP hD hS hl)
theorem z_istore_n {f : Fin 4} {i : Nat} {x : Int32} (lv' : List (Nat × Value)) (C : zC X G nL cc own ret fr lo) (hd : decode cc pc = .ok (.istore_n f, 1)) (hi : (f : Nat) = i) (hn : i < nL) (hl : (i, Value.int x) :: lv.filter (fun q => !(q.1 == i) && !(q.1 + 1 == i && q.2.category == 2)) = lv') (kk : Z X G nL k n ws (pc + 1) lv' rest) : Z X G nL k n ws pc lv (.int x :: rest) := fun H locs ls hP hD hS h => lv_istore_n C.1 C.2.1 hd hi h hn hl (fun ls h => kk H locs ls hP hD hS h)
theorem z_istore {i : Nat} {x : Int32} (lv' : List (Nat × Value)) (C : zC X G nL cc own ret fr lo) (hd : decode cc pc = .ok (.istore i, 2)) (hn : i < nL) (hl : (i, Value.int x) :: lv.filter (fun q => !(q.1 == i) && !(q.1 + 1 == i && q.2.category == 2)) = lv') (kk : Z X G nL k n ws (pc + 2) lv' rest) : Z X G nL k n ws pc lv (.int x :: rest) := fun H locs ls hP hD hS h => lv_istore C.1 C.2.1 hd h hn hl (fun ls h => kk H locs ls hP hD hS h)
theorem z_lstore_n {f : Fin 4} {i : Nat} {x : Int64} (lv' : List (Nat × Value)) (C : zC X G nL cc own ret fr lo) (hd : decode cc pc = .ok (.lstore_n f, 1)) (hi : (f : Nat) = i) (hn : i + 1 < nL) (hl : (i, Value.long x) :: lv.filter (fun q => !(q.1 == i) && (!(q.1 == i + 1) && !(q.1 + 1 == i && q.2.category == 2))) = lv') (kk : Z X G nL k n ws (pc + 1) lv' rest) : Z X G nL k n ws pc lv (.long x :: rest) := fun H locs ls hP hD hS h => lv_lstore_n C.1 C.2.1 hd hi h hn hl (fun ls h => kk H locs ls hP hD hS h)
theorem z_lstore {i : Nat} {x : Int64} (lv' : List (Nat × Value)) (C : zC X G nL cc own ret fr lo) (hd : decode cc pc = .ok (.lstore i, 2)) (hn : i + 1 < nL) (hl : (i, Value.long x) :: lv.filter (fun q => !(q.1 == i) && (!(q.1 == i + 1) && !(q.1 + 1 == i && q.2.category == 2))) = lv') (kk : Z X G nL k n ws (pc + 2) lv' rest) : Z X G nL k n ws pc lv (.long x :: rest) := fun H locs ls hP hD hS h => lv_lstore C.1 C.2.1 hd h hn hl (fun ls h => kk H locs ls hP hD hS h)
theorem z_astore_n {f : Fin 4} {i : Nat} {x : Nat} (lv' : List (Nat × Value)) (C : zC X G nL cc own ret fr lo) (hd : decode cc pc = .ok (.astore_n f, 1)) (hi : (f : Nat) = i) (hn : i < nL) (hl : (i, Value.ref x) :: lv.filter (fun q => !(q.1 == i) && !(q.1 + 1 == i && q.2.category == 2)) = lv') (kk : Z X G nL k n ws (pc + 1) lv' rest) : Z X G nL k n ws pc lv (.ref x :: rest) := fun H locs ls hP hD hS h => lv_astore_n C.1 C.2.1 hd hi h hn hl (fun ls h => kk H locs ls hP hD hS h)
theorem z_astore {i : Nat} {x : Nat} (lv' : List (Nat × Value)) (C : zC X G nL cc own ret fr lo) (hd : decode cc pc = .ok (.astore i, 2)) (hn : i < nL) (hl : (i, Value.ref x) :: lv.filter (fun q => !(q.1 == i) && !(q.1 + 1 == i && q.2.category == 2)) = lv') (kk : Z X G nL k n ws (pc + 2) lv' rest) : Z X G nL k n ws pc lv (.ref x :: rest) := fun H locs ls hP hD hS h => lv_astore C.1 C.2.1 hd h hn hl (fun ls h => kk H locs ls hP hD hS h)
theorem z_iinc {i : Nat} {a : Int} {x v : Int32} (lv' : List (Nat × Value)) (C : zC X G nL cc own ret fr lo) (j : Nat) (hd : decode cc pc = .ok (.iinc i a, 3)) (hj : lv[j]? = some (i, .int x)) (hv : x + Int32.ofInt a = v) (hn : i < nL) (hl : (i, Value.int v) :: lv.filter (fun q => !(q.1 == i) && !(q.1 + 1 == i && q.2.category == 2)) = lv') (kk : Z X G nL k n ws (pc + 3) lv' rest) : Z X G nL k n ws pc lv rest := fun H locs ls hP hD hS h => lv_iinc C.1 C.2.1 hd h hj hv hn hl (fun ls h => kk H locs ls hP hD hS h)
theorem z_iadd {x y : Int32} (C : zC X G nL cc own ret fr lo)  (hd : decode cc pc = .ok (.iadd, 1))  (kk : Z X G nL k n ws (pc + 1) lv (.int (x + y) :: rest)) : Z X G nL k n ws pc lv (.int y :: .int x :: rest) := fun H locs ls hP hD hS hl => lv_iadd C.1 C.2.1 hd (kk H locs ls hP hD hS hl)
theorem z_isub {x y : Int32} (C : zC X G nL cc own ret fr lo)  (hd : decode cc pc = .ok (.isub, 1))  (kk : Z X G nL k n ws (pc + 1) lv (.int (x - y) :: rest)) : Z X G nL k n ws pc lv (.int y :: .int x :: rest) := fun H locs ls hP hD hS hl => lv_isub C.1 C.2.1 hd (kk H locs ls hP hD hS hl)
theorem z_imul {x y : Int32} (C : zC X G nL cc own ret fr lo)  (hd : decode cc pc = .ok (.imul, 1))  (kk : Z X G nL k n ws (pc + 1) lv (.int (x * y) :: rest)) : Z X G nL k n ws pc lv (.int y :: .int x :: rest) := fun H locs ls hP hD hS hl => lv_imul C.1 C.2.1 hd (kk H locs ls hP hD hS hl)
theorem z_iand {x y : Int32} (C : zC X G nL cc own ret fr lo)  (hd : decode cc pc = .ok (.iand, 1))  (kk : Z X G nL k n ws (pc + 1) lv (.int (x &&& y) :: rest)) : Z X G nL k n ws pc lv (.int y :: .int x :: rest) := fun H locs ls hP hD hS hl => lv_iand C.1 C.2.1 hd (kk H locs ls hP hD hS hl)
theorem z_ior {x y : Int32} (C : zC X G nL cc own ret fr lo)  (hd : decode cc pc = .ok (.ior, 1))  (kk : Z X G nL k n ws (pc + 1) lv (.int (x ||| y) :: rest)) : Z X G nL k n ws pc lv (.int y :: .int x :: rest) := fun H locs ls hP hD hS hl => lv_ior C.1 C.2.1 hd (kk H locs ls hP hD hS hl)
theorem z_ixor {x y : Int32} (C : zC X G nL cc own ret fr lo)  (hd : decode cc pc = .ok (.ixor, 1))  (kk : Z X G nL k n ws (pc + 1) lv (.int (x ^^^ y) :: rest)) : Z X G nL k n ws pc lv (.int y :: .int x :: rest) := fun H locs ls hP hD hS hl => lv_ixor C.1 C.2.1 hd (kk H locs ls hP hD hS hl)
theorem z_ishl {x y : Int32} (C : zC X G nL cc own ret fr lo)  (hd : decode cc pc = .ok (.ishl, 1))  (kk : Z X G nL k n ws (pc + 1) lv (.int (x <<< (y &&& 31)) :: rest)) : Z X G nL k n ws pc lv (.int y :: .int x :: rest) := fun H locs ls hP hD hS hl => lv_ishl C.1 C.2.1 hd (kk H locs ls hP hD hS hl)
theorem z_ishr {x y : Int32} (C : zC X G nL cc own ret fr lo)  (hd : decode cc pc = .ok (.ishr, 1))  (kk : Z X G nL k n ws (pc + 1) lv (.int (x >>> (y &&& 31)) :: rest)) : Z X G nL k n ws pc lv (.int y :: .int x :: rest) := fun H locs ls hP hD hS hl => lv_ishr C.1 C.2.1 hd (kk H locs ls hP hD hS hl)
def uShr (x y : Int32) : Int32 := (x.toUInt32 >>> (y.toUInt32 &&& Int32.toUInt32 31)).toInt32
theorem z_iushr {x y : Int32} (C : zC X G nL cc own ret fr lo)  (hd : decode cc pc = .ok (.iushr, 1))  (kk : Z X G nL k n ws (pc + 1) lv (.int (uShr x y) :: rest)) : Z X G nL k n ws pc lv (.int y :: .int x :: rest) := fun H locs ls hP hD hS hl => lv_iushr C.1 C.2.1 hd rfl (kk H locs ls hP hD hS hl)
theorem z_idiv {x y : Int32} (C : zC X G nL cc own ret fr lo)  (hd : decode cc pc = .ok (.idiv, 1)) (hne : ¬ y = 0) (kk : Z X G nL k n ws (pc + 1) lv (.int (x / y) :: rest)) : Z X G nL k n ws pc lv (.int y :: .int x :: rest) := fun H locs ls hP hD hS hl => lv_idiv C.1 C.2.1 hd hne (kk H locs ls hP hD hS hl)
theorem z_irem {x y : Int32} (C : zC X G nL cc own ret fr lo)  (hd : decode cc pc = .ok (.irem, 1)) (hne : ¬ y = 0) (kk : Z X G nL k n ws (pc + 1) lv (.int (x - x / y * y) :: rest)) : Z X G nL k n ws pc lv (.int y :: .int x :: rest) := fun H locs ls hP hD hS hl => lv_irem C.1 C.2.1 hd hne (kk H locs ls hP hD hS hl)
theorem z_ineg {x : Int32} (C : zC X G nL cc own ret fr lo)  (hd : decode cc pc = .ok (.ineg, 1))  (kk : Z X G nL k n ws (pc + 1) lv (.int (-x) :: rest)) : Z X G nL k n ws pc lv (.int x :: rest) := fun H locs ls hP hD hS hl => lv_ineg C.1 C.2.1 hd (kk H locs ls hP hD hS hl)
theorem z_ladd {x y : Int64} (C : zC X G nL cc own ret fr lo)  (hd : decode cc pc = .ok (.ladd, 1))  (kk : Z X G nL k n ws (pc + 1) lv (.long (x + y) :: rest)) : Z X G nL k n ws pc lv (.long y :: .long x :: rest) := fun H locs ls hP hD hS hl => lv_ladd C.1 C.2.1 hd (kk H locs ls hP hD hS hl)
theorem z_lmul {x y : Int64} (C : zC X G nL cc own ret fr lo)  (hd : decode cc pc = .ok (.lmul, 1))  (kk : Z X G nL k n ws (pc + 1) lv (.long (x * y) :: rest)) : Z X G nL k n ws pc lv (.long y :: .long x :: rest) := fun H locs ls hP hD hS hl => lv_lmul C.1 C.2.1 hd (kk H locs ls hP hD hS hl)
theorem z_ldiv {x y : Int64} (C : zC X G nL cc own ret fr lo)  (hd : decode cc pc = .ok (.ldiv, 1)) (hne : ¬ y = 0) (kk : Z X G nL k n ws (pc + 1) lv (.long (x / y) :: rest)) : Z X G nL k n ws pc lv (.long y :: .long x :: rest) := fun H locs ls hP hD hS hl => lv_ldiv C.1 C.2.1 hd hne (kk H locs ls hP hD hS hl)
theorem z_lrem {x y : Int64} (C : zC X G nL cc own ret fr lo)  (hd : decode cc pc = .ok (.lrem, 1)) (hne : ¬ y = 0) (kk : Z X G nL k n ws (pc + 1) lv (.long (x - x / y * y) :: rest)) : Z X G nL k n ws pc lv (.long y :: .long x :: rest) := fun H locs ls hP hD hS hl => lv_lrem C.1 C.2.1 hd hne (kk H locs ls hP hD hS hl)
theorem z_i2l {x : Int32} (C : zC X G nL cc own ret fr lo)  (hd : decode cc pc = .ok (.i2l, 1))  (kk : Z X G nL k n ws (pc + 1) lv (.long x.toInt64 :: rest)) : Z X G nL k n ws pc lv (.int x :: rest) := fun H locs ls hP hD hS hl => lv_i2l C.1 C.2.1 hd rfl (kk H locs ls hP hD hS hl)
theorem z_l2i {x : Int64} (C : zC X G nL cc own ret fr lo)  (hd : decode cc pc = .ok (.l2i, 1))  (kk : Z X G nL k n ws (pc + 1) lv (.int x.toInt32 :: rest)) : Z X G nL k n ws pc lv (.long x :: rest) := fun H locs ls hP hD hS hl => lv_l2i C.1 C.2.1 hd rfl (kk H locs ls hP hD hS hl)
theorem z_i2b {x : Int32} (C : zC X G nL cc own ret fr lo)  (hd : decode cc pc = .ok (.i2b, 1))  (kk : Z X G nL k n ws (pc + 1) lv (.int x.toInt8.toInt32 :: rest)) : Z X G nL k n ws pc lv (.int x :: rest) := fun H locs ls hP hD hS hl => lv_i2b C.1 C.2.1 hd rfl (kk H locs ls hP hD hS hl)
theorem z_i2c {x : Int32} (C : zC X G nL cc own ret fr lo)  (hd : decode cc pc = .ok (.i2c, 1))  (kk : Z X G nL k n ws (pc + 1) lv (.int (x.toUInt32 % 65536).toInt32 :: rest)) : Z X G nL k n ws pc lv (.int x :: rest) := fun H locs ls hP hD hS hl => lv_i2c C.1 C.2.1 hd rfl (kk H locs ls hP hD hS hl)
theorem z_lcmp {x y : Int64} (C : zC X G nL cc own ret fr lo)  (hd : decode cc pc = .ok (.lcmp, 1))  (kk : Z X G nL k n ws (pc + 1) lv (.int (lg_cmp x y) :: rest)) : Z X G nL k n ws pc lv (.long y :: .long x :: rest) := fun H locs ls hP hD hS hl => W.lcmp C.1 C.2.1 hd (kk H locs ls hP hD hS hl)
theorem z_dup {v : Value} (C : zC X G nL cc own ret fr lo)  (hd : decode cc pc = .ok (.dup, 1)) (hv : v.category = 1) (kk : Z X G nL k n ws (pc + 1) lv (v :: v :: rest)) : Z X G nL k n ws pc lv (v :: rest) := fun H locs ls hP hD hS hl => lv_dup C.1 C.2.1 hd hv (kk H locs ls hP hD hS hl)
theorem z_pop {v : Value} (C : zC X G nL cc own ret fr lo)  (hd : decode cc pc = .ok (.pop, 1)) (hv : v.category = 1) (kk : Z X G nL k n ws (pc + 1) lv rest) : Z X G nL k n ws pc lv (v :: rest) := fun H locs ls hP hD hS hl => lv_pop C.1 C.2.1 hd hv (kk H locs ls hP hD hS hl)
theorem z_dup2 {v u : Value} (C : zC X G nL cc own ret fr lo)  (hd : decode cc pc = .ok (.dup2, 1)) (hv : v.category = 1) (hu : u.category = 1) (kk : Z X G nL k n ws (pc + 1) lv (v :: u :: v :: u :: rest)) : Z X G nL k n ws pc lv (v :: u :: rest) := fun H locs ls hP hD hS hl => lv_dup2_11 C.1 C.2.1 hd hv hu (kk H locs ls hP hD hS hl)
theorem z_if_eq {x : Int32} {off : Int} (tgt : Nat) (C : zC X G nL cc own ret fr lo) (hd : decode cc pc = .ok (.ifCond .eq off, 3)) (ht : (pc : Int) + off = (tgt : Int)) (kt : x = 0 → Z X G nL k n ws tgt lv rest) (kf : ¬ x = 0 → Z X G nL k n ws (pc + 3) lv rest) : Z X G nL k n ws pc lv (.int x :: rest) := fun H locs ls hP hD hS hl => lv_if_eq C.1 C.2.1 hd ht (fun h => kt h H locs ls hP hD hS hl) (fun h => kf h H locs ls hP hD hS hl)
theorem z_if_ne {x : Int32} {off : Int} (tgt : Nat) (C : zC X G nL cc own ret fr lo) (hd : decode cc pc = .ok (.ifCond .ne off, 3)) (ht : (pc : Int) + off = (tgt : Int)) (kt : ¬ x = 0 → Z X G nL k n ws tgt lv rest) (kf : x = 0 → Z X G nL k n ws (pc + 3) lv rest) : Z X G nL k n ws pc lv (.int x :: rest) := fun H locs ls hP hD hS hl => lv_if_ne C.1 C.2.1 hd ht (fun h => kt h H locs ls hP hD hS hl) (fun h => kf h H locs ls hP hD hS hl)
theorem z_if_lt {x : Int32} {off : Int} (tgt : Nat) (C : zC X G nL cc own ret fr lo) (hd : decode cc pc = .ok (.ifCond .lt off, 3)) (ht : (pc : Int) + off = (tgt : Int)) (kt : x < 0 → Z X G nL k n ws tgt lv rest) (kf : ¬ x < 0 → Z X G nL k n ws (pc + 3) lv rest) : Z X G nL k n ws pc lv (.int x :: rest) := fun H locs ls hP hD hS hl => lv_if_lt C.1 C.2.1 hd ht (fun h => kt h H locs ls hP hD hS hl) (fun h => kf h H locs ls hP hD hS hl)
theorem z_if_ge {x : Int32} {off : Int} (tgt : Nat) (C : zC X G nL cc own ret fr lo) (hd : decode cc pc = .ok (.ifCond .ge off, 3)) (ht : (pc : Int) + off = (tgt : Int)) (kt : 0 ≤ x → Z X G nL k n ws tgt lv rest) (kf : ¬ 0 ≤ x → Z X G nL k n ws (pc + 3) lv rest) : Z X G nL k n ws pc lv (.int x :: rest) := fun H locs ls hP hD hS hl => lv_if_ge C.1 C.2.1 hd ht (fun h => kt h H locs ls hP hD hS hl) (fun h => kf h H locs ls hP hD hS hl)
theorem z_if_gt {x : Int32} {off : Int} (tgt : Nat) (C : zC X G nL cc own ret fr lo) (hd : decode cc pc = .ok (.ifCond .gt off, 3)) (ht : (pc : Int) + off = (tgt : Int)) (kt : 0 < x → Z X G nL k n ws tgt lv rest) (kf : ¬ 0 < x → Z X G nL k n ws (pc + 3) lv rest) : Z X G nL k n ws pc lv (.int x :: rest) := fun H locs ls hP hD hS hl => lv_if_gt C.1 C.2.1 hd ht (fun h => kt h H locs ls hP hD hS hl) (fun h => kf h H locs ls hP hD hS hl)
theorem z_if_le {x : Int32} {off : Int} (tgt : Nat) (C : zC X G nL cc own ret fr lo) (hd : decode cc pc = .ok (.ifCond .le off, 3)) (ht : (pc : Int) + off = (tgt : Int)) (kt : x ≤ 0 → Z X G nL k n ws tgt lv rest) (kf : ¬ x ≤ 0 → Z X G nL k n ws (pc + 3) lv rest) : Z X G nL k n ws pc lv (.int x :: rest) := fun H locs ls hP hD hS hl => lv_if_le C.1 C.2.1 hd ht (fun h => kt h H locs ls hP hD hS hl) (fun h => kf h H locs ls hP hD hS hl)
theorem z_icmp_eq {x y : Int32} {off : Int} (tgt : Nat) (C : zC X G nL cc own ret fr lo) (hd : decode cc pc = .ok (.if_icmp .eq off, 3)) (ht : (pc : Int) + off = (tgt : Int)) (kt : x = y → Z X G nL k n ws tgt lv rest) (kf : ¬ x = y → Z X G nL k n ws (pc + 3) lv rest) : Z X G nL k n ws pc lv (.int y :: .int x :: rest) := fun H locs ls hP hD hS hl => lv_icmp_eq C.1 C.2.1 hd ht (fun h => kt h H locs ls hP hD hS hl) (fun h => kf h H locs ls hP hD hS hl)
theorem z_icmp_ne {x y : Int32} {off : Int} (tgt : Nat) (C : zC X G nL cc own ret fr lo) (hd : decode cc pc = .ok (.if_icmp .ne off, 3)) (ht : (pc : Int) + off = (tgt : Int)) (kt : ¬ x = y → Z X G nL k n ws tgt lv rest) (kf : x = y → Z X G nL k n ws (pc + 3) lv rest) : Z X G nL k n ws pc lv (.int y :: .int x :: rest) := fun H locs ls hP hD hS hl => lv_icmp_ne C.1 C.2.1 hd ht (fun h => kt h H locs ls hP hD hS hl) (fun h => kf h H locs ls hP hD hS hl)
theorem z_icmp_lt {x y : Int32} {off : Int} (tgt : Nat) (C : zC X G nL cc own ret fr lo) (hd : decode cc pc = .ok (.if_icmp .lt off, 3)) (ht : (pc : Int) + off = (tgt : Int)) (kt : x < y → Z X G nL k n ws tgt lv rest) (kf : ¬ x < y → Z X G nL k n ws (pc + 3) lv rest) : Z X G nL k n ws pc lv (.int y :: .int x :: rest) := fun H locs ls hP hD hS hl => lv_icmp_lt C.1 C.2.1 hd ht (fun h => kt h H locs ls hP hD hS hl) (fun h => kf h H locs ls hP hD hS hl)
theorem z_icmp_ge {x y : Int32} {off : Int} (tgt : Nat) (C : zC X G nL cc own ret fr lo) (hd : decode cc pc = .ok (.if_icmp .ge off, 3)) (ht : (pc : Int) + off = (tgt : Int)) (kt : y ≤ x → Z X G nL k n ws tgt lv rest) (kf : ¬ y ≤ x → Z X G nL k n ws (pc + 3) lv rest) : Z X G nL k n ws pc lv (.int y :: .int x :: rest) := fun H locs ls hP hD hS hl => lv_icmp_ge C.1 C.2.1 hd ht (fun h => kt h H locs ls hP hD hS hl) (fun h => kf h H locs ls hP hD hS hl)
theorem z_icmp_gt {x y : Int32} {off : Int} (tgt : Nat) (C : zC X G nL cc own ret fr lo) (hd : decode cc pc = .ok (.if_icmp .gt off, 3)) (ht : (pc : Int) + off = (tgt : Int)) (kt : y < x → Z X G nL k n ws tgt lv rest) (kf : ¬ y < x → Z X G nL k n ws (pc + 3) lv rest) : Z X G nL k n ws pc lv (.int y :: .int x :: rest) := fun H locs ls hP hD hS hl => lv_icmp_gt C.1 C.2.1 hd ht (fun h => kt h H locs ls hP hD hS hl) (fun h => kf h H locs ls hP hD hS hl)
theorem z_icmp_le {x y : Int32} {off : Int} (tgt : Nat) (C : zC X G nL cc own ret fr lo) (hd : decode cc pc = .ok (.if_icmp .le off, 3)) (ht : (pc : Int) + off = (tgt : Int)) (kt : x ≤ y → Z X G nL k n ws tgt lv rest) (kf : ¬ x ≤ y → Z X G nL k n ws (pc + 3) lv rest) : Z X G nL k n ws pc lv (.int y :: .int x :: rest) := fun H locs ls hP hD hS hl => lv_icmp_le C.1 C.2.1 hd ht (fun h => kt h H locs ls hP hD hS hl) (fun h => kf h H locs ls hP hD hS hl)
theorem z_goto {off : Int} (tgt : Nat) (C : zC X G nL cc own ret fr lo) (hd : decode cc pc = .ok (.goto off, 3)) (ht : (pc : Int) + off = (tgt : Int)) (kk : Z X G nL k n ws tgt lv rest) : Z X G nL k n ws pc lv rest := fun H locs ls hP hD hS hl => lv_goto C.1 C.2.1 hd ht (kk H locs ls hP hD hS hl)
theorem z_lookup {dflt : Int} {ps : Array (Int × Int)} {len : Nat} {x : Int32} {off : Int} (tgt : Nat) (C : zC X G nL cc own ret fr lo) (hd : decode cc pc = .ok (.lookupswitch dflt ps, len)) (hp : (ps.toList.zip (ps.toList.drop 1)).all (fun (a, next) => a.1 < next.1) = true) (ho : Op.lookupswitch.offset ps.toList dflt x.toInt = off) (ht : (pc : Int) + off = (tgt : Int)) (kk : Z X G nL k n ws tgt lv rest) : Z X G nL k n ws pc lv (.int x :: rest) := fun H locs ls hP hD hS hl => lv_lookup C.1 C.2.1 hd hp ho ht (kk H locs ls hP hD hS hl)
theorem z_tableOut {dflt lw hi : Int} {offs : Array Int} {len : Nat} {x : Int32} (tgt : Nat) (C : zC X G nL cc own ret fr lo) (hd : decode cc pc = .ok (.tableswitch dflt lw hi offs, len)) (h : x.toInt < lw ∨ hi < x.toInt) (ht : (pc : Int) + dflt = (tgt : Int)) (kk : Z X G nL k n ws tgt lv rest) : Z X G nL k n ws pc lv (.int x :: rest) := fun H locs ls hP hD hS hl => lv_tableOut C.1 C.2.1 hd h ht (kk H locs ls hP hD hS hl)
theorem z_tableIn {dflt lw hi : Int} {offs : Array Int} {len : Nat} {x : Int32} {off : Int} (tgt : Nat) (C : zC X G nL cc own ret fr lo) (hd : decode cc pc = .ok (.tableswitch dflt lw hi offs, len)) (h1 : ¬ x.toInt < lw) (h2 : ¬ hi < x.toInt) (ho : offs[(x.toInt - lw).toNat]? = some off) (ht : (pc : Int) + off = (tgt : Int)) (kk : Z X G nL k n ws tgt lv rest) : Z X G nL k n ws pc lv (.int x :: rest) := fun H locs ls hP hD hS hl => lv_tableIn C.1 C.2.1 hd h1 h2 ho ht (kk H locs ls hP hD hS hl)
theorem z_get {Cn : String} {T : u_T} {N ci idx a : Nat} {fs : List Value} {v : Value} (C : zC X G nL cc own ret fr lo) (q0 f : Nat) (hd : decode cc pc = .ok (.getfield idx, 3)) (he : ws[q0]? = some (a, .inr (ci, fs))) (hc : vwCl[ci]? = some (Cn, T, N)) (hin : ∀ w ∈ u_ws Cn T N, w ∈ gW) (hf : f < N) (q : Cond.fieldLink own idx (T f).1 (T f).2.1 (T f).2.2.1 ∈ gW) (hv : fs[f]? = some v) (kk : Z X G nL k n ws (pc + 3) lv (v :: rest)) : Z X G nL k n ws pc lv (.ref a :: rest) := fun H locs ls hP hD hS hl => va_get C.1 C.2.1 C.2.2.2.2.1 hin C.2.2.2.1 C.2.2.2.2.2.2.1.1 hP q0 he hc f hf (C.2.2.2.2.1 _ q) (fun _ h => h) hv hd (kk H locs ls hP hD hS hl)
theorem z_put {Cn : String} {T : u_T} {N ci idx a : Nat} {fs : List Value} {v : Value} {ty : FieldType} {ty0 : Nat → FieldType} (ws' : va_W) (C : zC X G nL cc own ret fr lo) (q0 f : Nat) (hd : decode cc pc = .ok (.putfield idx, 3)) (he : ws[q0]? = some (a, .inr (ci, fs))) (hc : vwCl[ci]? = some (Cn, T, N)) (hin : ∀ w ∈ u_ws Cn T N, w ∈ gW) (hty : ∀ k, k < N → parseFieldDescriptor (T k).2.2.1 = some (ty0 k)) (hnm : ∀ a, a < N → ∀ b, b < N → a ≠ b → (T a).2.1 ≠ (T b).2.1) (hf : f < N) (q : Cond.fieldLink own idx (T f).1 (T f).2.1 (T f).2.2.1 ∈ gW) (hfin : (T f).2.2.2 = false) (hty1 : ty0 f = ty) (hn : narrow ty v = v) (hfit : fits ty v = true) (hl9 : f < fs.length) (hw : ws.set q0 (a, .inr (ci, fs.set f v)) = ws') (kk : Z X G nL k n ws' (pc + 3) lv rest) : Z X G nL k n ws pc lv (v :: .ref a :: rest) := fun H locs ls hP hD hS hl => va_put C.1 C.2.1 C.2.2.2.2.1 hin ty0 hty hnm C.2.2.2.1 C.2.2.2.2.2.2.1.1 hP hD hS q0 he hc f hf (C.2.2.2.2.1 _ q) (fun _ h => h) hfin (by rw [hty f hf, hty1]) hn hfit hl9 hd (fun H1 l1 p1 d1 s1 => kk H1 l1 ls (hw ▸ p1) (hw ▸ d1) s1 hl)
theorem z_iald {a z : Nat} {f : Nat → Int32} {i : Int32} (C : zC X G nL cc own ret fr lo) (q0 : Nat) (hd : decode cc pc = .ok (.iaload, 1)) (ha : ws[q0]? = some (a, .inl (cI G, z, .inl f))) (hin : vp_in i z) (kk : Z X G nL k n ws (pc + 1) lv (.int (f i.toNatClampNeg) :: rest)) : Z X G nL k n ws pc lv (.int i :: .ref a :: rest) := fun H locs ls hP hD hS hl => va_iald C.1 C.2.1 C.2.2.2.2.2.2.1.1 hP q0 0 ha rfl hin hd (kk H locs ls hP hD hS hl)
theorem z_bald {a z : Nat} {f : Nat → Int32} {i : Int32} (C : zC X G nL cc own ret fr lo) (q0 : Nat) (hd : decode cc pc = .ok (.baload, 1)) (ha : ws[q0]? = some (a, .inl (cB G, z, .inl f))) (hin : vp_in i z) (kk : Z X G nL k n ws (pc + 1) lv (.int (f i.toNatClampNeg) :: rest)) : Z X G nL k n ws pc lv (.int i :: .ref a :: rest) := fun H locs ls hP hD hS hl => va_bald C.1 C.2.1 C.2.2.2.2.2.2.1.1 hP q0 1 ha rfl hin hd (kk H locs ls hP hD hS hl)
theorem z_zald {a z : Nat} {f : Nat → Int32} {i : Int32} (C : zC X G nL cc own ret fr lo) (q0 : Nat) (hd : decode cc pc = .ok (.baload, 1)) (ha : ws[q0]? = some (a, .inl (cZ G, z, .inl f))) (hin : vp_in i z) (kk : Z X G nL k n ws (pc + 1) lv (.int (f i.toNatClampNeg) :: rest)) : Z X G nL k n ws pc lv (.int i :: .ref a :: rest) := fun H locs ls hP hD hS hl => va_zald C.1 C.2.1 C.2.2.2.2.2.2.1.1 hP q0 2 ha rfl hin hd (kk H locs ls hP hD hS hl)
theorem z_iast {a z : Nat} {f : Nat → Int32} {i x : Int32} (ws' : va_W) (C : zC X G nL cc own ret fr lo) (q0 : Nat) (hd : decode cc pc = .ok (.iastore, 1)) (ha : ws[q0]? = some (a, .inl (cI G, z, .inl f))) (hin : vp_in i z) (hw : ws.set q0 (a, .inl (cI G, z, .inl (upd f i.toNatClampNeg (x)))) = ws') (kk : Z X G nL k n ws' (pc + 1) lv rest) : Z X G nL k n ws pc lv (.int x :: .int i :: .ref a :: rest) := fun H locs ls hP hD hS hl => va_iast C.1 C.2.1 C.2.2.2.2.2.2.1.1 hP hD hS q0 0 ha rfl hin hd (fun H1 l1 p1 d1 s1 => kk H1 l1 ls (hw ▸ p1) (hw ▸ d1) s1 hl)
theorem z_bast {a z : Nat} {f : Nat → Int32} {i x : Int32} (ws' : va_W) (C : zC X G nL cc own ret fr lo) (q0 : Nat) (hd : decode cc pc = .ok (.bastore, 1)) (ha : ws[q0]? = some (a, .inl (cB G, z, .inl f))) (hin : vp_in i z) (hw : ws.set q0 (a, .inl (cB G, z, .inl (upd f i.toNatClampNeg (vp_nar .byte x)))) = ws') (kk : Z X G nL k n ws' (pc + 1) lv rest) : Z X G nL k n ws pc lv (.int x :: .int i :: .ref a :: rest) := fun H locs ls hP hD hS hl => va_bast C.1 C.2.1 C.2.2.2.2.2.2.1.1 hP hD hS q0 1 ha rfl hin hd (fun H1 l1 p1 d1 s1 => kk H1 l1 ls (hw ▸ p1) (hw ▸ d1) s1 hl)
theorem z_zast {a z : Nat} {f : Nat → Int32} {i x : Int32} (ws' : va_W) (C : zC X G nL cc own ret fr lo) (q0 : Nat) (hd : decode cc pc = .ok (.bastore, 1)) (ha : ws[q0]? = some (a, .inl (cZ G, z, .inl f))) (hin : vp_in i z) (hw : ws.set q0 (a, .inl (cZ G, z, .inl (upd f i.toNatClampNeg (vp_nar .boolean x)))) = ws') (kk : Z X G nL k n ws' (pc + 1) lv rest) : Z X G nL k n ws pc lv (.int x :: .int i :: .ref a :: rest) := fun H locs ls hP hD hS hl => va_zast C.1 C.2.1 C.2.2.2.2.2.2.1.1 hP hD hS q0 2 ha rfl hin hd (fun H1 l1 p1 d1 s1 => kk H1 l1 ls (hw ▸ p1) (hw ▸ d1) s1 hl)
theorem z_aald {a z : Nat} {f : Nat → Option Nat} {i : Int32} (C : zC X G nL cc own ret fr lo) (q0 : Nat) (hd : decode cc pc = .ok (.aaload, 1)) (ha : ws[q0]? = some (a, .inl (cS G, z, .inr (.inr (.inr (.inr f)))))) (hin : vp_in i z) (kk : Z X G nL k n ws (pc + 1) lv (va_rf (f i.toNatClampNeg) :: rest)) : Z X G nL k n ws pc lv (.int i :: .ref a :: rest) := fun H locs ls hP hD hS hl => va_aldq C.1 C.2.1 C.2.2.2.2.2.2.1.1 hP q0 3 ha rfl hin hd (kk H locs ls hP hD hS hl)
theorem z_alen_cI {a : Nat} {x : vp_A} {v : Int32} (C : zC X G nL cc own ret fr lo) (q0 : Nat) (hd : decode cc pc = .ok (.arraylength, 1)) (ha : ws[q0]? = some (a, .inl (cI G, x))) (hv : Int32.ofNat x.1 = v) (kk : Z X G nL k n ws (pc + 1) lv (.int v :: rest)) : Z X G nL k n ws pc lv (.ref a :: rest) := fun H locs ls hP hD hS hl => va_alen C.1 C.2.1 C.2.2.2.2.2.2.1.1 hP q0 0 ha (ty := .int) rfl hv hd (kk H locs ls hP hD hS hl)
theorem z_alen_cB {a : Nat} {x : vp_A} {v : Int32} (C : zC X G nL cc own ret fr lo) (q0 : Nat) (hd : decode cc pc = .ok (.arraylength, 1)) (ha : ws[q0]? = some (a, .inl (cB G, x))) (hv : Int32.ofNat x.1 = v) (kk : Z X G nL k n ws (pc + 1) lv (.int v :: rest)) : Z X G nL k n ws pc lv (.ref a :: rest) := fun H locs ls hP hD hS hl => va_alen C.1 C.2.1 C.2.2.2.2.2.2.1.1 hP q0 1 ha (ty := .byte) rfl hv hd (kk H locs ls hP hD hS hl)
theorem z_alen_cZ {a : Nat} {x : vp_A} {v : Int32} (C : zC X G nL cc own ret fr lo) (q0 : Nat) (hd : decode cc pc = .ok (.arraylength, 1)) (ha : ws[q0]? = some (a, .inl (cZ G, x))) (hv : Int32.ofNat x.1 = v) (kk : Z X G nL k n ws (pc + 1) lv (.int v :: rest)) : Z X G nL k n ws pc lv (.ref a :: rest) := fun H locs ls hP hD hS hl => va_alen C.1 C.2.1 C.2.2.2.2.2.2.1.1 hP q0 2 ha (ty := .boolean) rfl hv hd (kk H locs ls hP hD hS hl)
theorem z_copyi {a a0 n0 n1 : Nat} {f g : Nat → Int32} {sp dp m : Int32} {idx : Nat} (ws' : va_W) (C : zC X G nL cc own ret fr lo) (q0 q1 : Nat) (ql : Cond.methodLink own idx arraycopyName ∈ gW) (qn : Cond.native arraycopyName ∈ gW) (qs : Cond.static arraycopyName ∈ gW) (qi : Cond.initialized "java/lang/System" ∈ gW) (hd : decode cc pc = .ok (.invokestatic idx, 3)) (ha0 : ws[q0]? = some (a0, .inl (cI G, n0, .inl f))) (ha1 : ws[q1]? = some (a, .inl (cI G, n1, .inl g))) (h1 : ¬ sp < 0) (h2 : ¬ dp < 0) (h3 : ¬ m < 0) (h4 : sp.toNatClampNeg + m.toNatClampNeg ≤ n0) (h5 : dp.toNatClampNeg + m.toNatClampNeg ≤ n1) (hfr : 1 ≤ fr) (hlo : (rest.map fun v => v.category).sum + (nativeFrameWords "java/lang/System" "arraycopy" 5 + 11) ≤ lo) (hw : ws.set q1 (a, .inl (cI G, n1, .inl (va_cpy f g sp.toNatClampNeg dp.toNatClampNeg m.toNatClampNeg))) = ws') (kk : Z X G nL k n ws' (pc + 3) lv rest) : Z X G nL k n ws pc lv (.int m :: .int dp :: .ref a :: .int sp :: .ref a0 :: rest) := fun H locs ls hP hD hS hl => va_copyi C.1 C.2.1 (C.2.2.1.trans hl.1.symm) C.2.2.2.1 (C.2.2.2.2.1 _ ql) (C.2.2.2.2.1 _ qn) (C.2.2.2.2.1 _ qs) (C.2.2.2.2.1 _ qi) C.2.2.2.2.2.2.1.1 hP hD hS q0 q1 0 0 (ty := .int) ha0 ha1 rfl rfl rfl h1 h2 h3 h4 h5 (fun _ _ => rfl) (Nat.le_trans hfr C.2.2.2.2.2.2.2.2.2.1) (Nat.le_trans hlo C.2.2.2.2.2.2.2.2.2.2) hd (fun H1 l1 p1 d1 s1 => kk H1 l1 ls (hw ▸ p1) (hw ▸ d1) s1 hl)

theorem z_iret {r : Int32} (C : zC X G nL cc own (some .int) fr lo) (E : zP X G k n Po) (hd : decode cc pc = .ok (.ireturn, 1)) (h : Po (some (.int r)) ws) : Z X G nL k n ws pc lv [.int r] := fun H locs ls hP hD hS hl => by
  obtain ⟨Qc, hq, hf⟩ := E
  rw [hq]
  exact W.iret C.1 C.2.1 C.2.2.2.2.2.2.2.1 (fun t ht hW => hf _ _ H locs h hP hS t ht hW) hS.2.2 hd C.2.2.2.2.2.2.2.2.1
theorem z_zret {r : Int32} {ty : FieldType} (C : zC X G nL cc own (some ty) fr lo) (E : zP X G k n Po) (hd : decode cc pc = .ok (.ireturn, 1)) (hn : narrow ty (.int r) = .int r) (h : Po (some (.int r)) ws) : Z X G nL k n ws pc lv [.int r] := fun H locs ls hP hD hS hl => by
  obtain ⟨Qc, hq, hf⟩ := E
  rw [hq]
  exact W.zret C.1 C.2.1 C.2.2.2.2.2.2.2.1 hn (fun t ht hW => hf _ _ H locs h hP hS t ht hW) hS.2.2 hd C.2.2.2.2.2.2.2.2.1
theorem z_lret {r : Int64} (C : zC X G nL cc own (some .long) fr lo) (E : zP X G k n Po) (hd : decode cc pc = .ok (.lreturn, 1)) (h : Po (some (.long r)) ws) : Z X G nL k n ws pc lv [.long r] := fun H locs ls hP hD hS hl => by
  obtain ⟨Qc, hq, hf⟩ := E
  rw [hq]
  exact W.lret C.1 C.2.1 C.2.2.2.2.2.2.2.1 (fun t ht hW => hf _ _ H locs h hP hS t ht hW) hS.2.2 hd C.2.2.2.2.2.2.2.2.1
theorem z_vret (C : zC X G nL cc own none fr lo) (E : zP X G k n Po) (hd : decode cc pc = .ok (.return_, 1)) (h : Po none ws) : Z X G nL k n ws pc lv [] := fun H locs ls hP hD hS hl => by
  obtain ⟨Qc, hq, hf⟩ := E
  rw [hq]
  exact W.vret C.1 C.2.1 C.2.2.2.2.2.2.2.1 (fun t ht hW => hf _ _ H locs h hP hS t ht hW) hS.2.2 hd C.2.2.2.2.2.2.2.2.1
theorem z_aret {r : Nat} {rt : FieldType} (C : zC X G nL cc own (some rt) fr lo) (E : zP X G k n Po) (hd : decode cc pc = .ok (.areturn, 1)) (hrt : (∃ n, rt = .object n) ∨ ∃ t, rt = .array t) (h : Po (some (.ref r)) ws) : Z X G nL k n ws pc lv [.ref r] := fun H locs ls hP hD hS hl => by
  obtain ⟨Qc, hq, hf⟩ := E
  rw [hq]
  exact W.aret C.1 C.2.1 C.2.2.2.2.2.2.2.1 hrt (Or.inr ⟨_, rfl⟩) (fun t ht hW => hf _ _ H locs h hP hS t ht hW) hS.2.2 hd C.2.2.2.2.2.2.2.2.1
/-- a counted loop: from its head at i to its head at e -/
theorem z_loop {e : Nat} (ws : Nat → va_W) (lv : Nat → List (Nat × Value)) (st : List Value) (hs : ∀ i, i < e → Z X G nL k n (ws (i + 1)) pc (lv (i + 1)) st → Z X G nL k n (ws i) pc (lv i) st) (hx : Z X G nL k n (ws e) pc (lv e) st) : ∀ i, i ≤ e → Z X G nL k n (ws i) pc (lv i) st := by
  intro i hi
  obtain ⟨d, rfl⟩ : ∃ d, e = i + d := ⟨e - i, by omega⟩
  induction d generalizing i with
  | zero => exact hx
  | succ d ih => exact hs i (by omega) (ih (i + 1) (fun j hj => by rw [show i + 1 + d = i + (d + 1) by omega] at hj; exact hs j hj) (by rw [show i + 1 + d = i + (d + 1) by omega]; exact hx) (by omega))
/-- a loop with a measure -/
theorem z_while {σ : Type} (I : σ → Prop) (μ : σ → Nat) (ws : σ → va_W) (lv : σ → List (Nat × Value)) (st : List Value) (hs : ∀ x, I x → (∀ y, I y → μ y < μ x → Z X G nL k n (ws y) pc (lv y) st) → Z X G nL k n (ws x) pc (lv x) st) : ∀ x, I x → Z X G nL k n (ws x) pc (lv x) st := by
  have h : ∀ d x, μ x < d → I x → Z X G nL k n (ws x) pc (lv x) st := by
    intro d
    induction d with
    | zero => intro x h; exact absurd h (Nat.not_lt_zero _)
    | succ d ih => intro x h hi; exact hs x hi fun y hy hl => ih y (by omega) hy
  exact fun x hi => h _ x (Nat.lt_succ_self _) hi
end ZR
/-- the cells of a part put back in their places -/
def zput : va_W → List Nat → va_W → va_W
  | ws, i :: is, q :: w => zput (ws.set i q) is w
  | ws, _, _ => ws
def zpush : Option Value → List Value → List Value
  | none, st => st
  | some v, st => v :: st
theorem zpush_eq (v : Option Value) (st : List Value) : zpush v st = v.toList ++ st := by cases v <;> rfl
theorem zput_get : ∀ (is : List Nat) (ws w : va_W) (_ : is.length = w.length) (i : Nat) (q : Nat × va_E), (zput ws is w)[i]? = some q → (∃ j : Nat, w[j]? = some q) ∨ (ws[i]? = some q ∧ i ∉ is)
  | [], ws, [], _, i, q, h => Or.inr ⟨h, List.not_mem_nil⟩
  | [], ws, _ :: _, hl, i, q, h => by simp at hl
  | _ :: _, ws, [], hl, i, q, h => by simp at hl
  | i0 :: is, ws, q0 :: w, hl, i, q, h => by
    rcases zput_get is (ws.set i0 q0) w (by simpa using hl) i q h with ⟨j, hj⟩ | ⟨h1, h2⟩
    · exact Or.inl ⟨j + 1, by simpa using hj⟩
    · by_cases e : i0 = i
      · subst e
        rw [List.getElem?_set] at h1
        by_cases hlt : i0 < ws.length
        · simp [hlt] at h1
          exact Or.inl ⟨0, by simp [h1]⟩
        · simp [hlt] at h1
      · rw [List.getElem?_set_ne e] at h1
        exact Or.inr ⟨h1, fun hm => by
          rcases List.mem_cons.mp hm with z | z
          · exact e z.symm
          · exact h2 z⟩
theorem zset_adr {ws : va_W} {i : Nat} {q : Nat × va_E} (h : (ws[i]?).map (·.1) = some q.1) (j : Nat) : ((ws.set i q)[j]?).map (·.1) = (ws[j]?).map (·.1) := by
  by_cases e : i = j
  · subst e
    rw [h, List.getElem?_set]
    have hlt : i < ws.length := by
      rcases Nat.lt_or_ge i ws.length with z | z
      · exact z
      · rw [List.getElem?_eq_none z] at h; cases h
    simp [hlt]
  · rw [List.getElem?_set_ne e]
theorem zput_adr : ∀ (is : List Nat) (ws w : va_W) (_ : is.map (fun i => (ws[i]?).map (·.1)) = w.map (fun q => some q.1)) (j : Nat), ((zput ws is w)[j]?).map (·.1) = (ws[j]?).map (·.1)
  | [], ws, w, _, j => by cases w <;> rfl
  | _ :: _, ws, [], h, j => by simp at h
  | i :: is, ws, q :: w, h, j => by
    simp only [List.map_cons, List.cons.injEq] at h
    show ((zput (ws.set i q) is w)[j]?).map (·.1) = _
    rw [zput_adr is (ws.set i q) w (by rw [← h.2]; exact List.map_congr_left fun x _ => zset_adr h.1 x) j, zset_adr h.1 j]
theorem va_D_adr {A : Nat → Prop} {ws ws' : va_W} (hD : va_D A ws) (h : ∀ j : Nat, (ws'[j]?).map (·.1) = (ws[j]?).map (·.1)) : va_D A ws' := by
  have key : ∀ (i : Nat) (p : Nat × va_E), ws'[i]? = some p → ∃ e, ws[i]? = some (p.1, e) := by
    intro i p hp
    have h1 := h i
    rw [hp] at h1
    cases hw : ws[i]? with
    | none => rw [hw] at h1; cases h1
    | some q => rw [hw] at h1; obtain ⟨a, e⟩ := q; exact ⟨e, by have : p.1 = a := Option.some.inj h1; rw [this]⟩
  refine ⟨fun i j p q hp hq e => ?_, fun i p hp => ?_⟩
  · obtain ⟨e1, h1⟩ := key i p hp
    obtain ⟨e2, h2⟩ := key j q hq
    exact hD.1 i j _ _ h1 h2 e
  · obtain ⟨e1, h1⟩ := key i p hp
    exact hD.2 i (p.1, e1) h1
/-- a contract: with these arguments, over this world, the method returns, with what Po says -/
def zQc (G : zG) (ws : va_W) (Po : Option Value → va_W → Prop) (sz : Nat) : Array Value → State → Outcome → State → Prop := fun _ st oc t => (∃ (v : Option Value) (w : va_W), oc = .returned v ∧ Po v w ∧ va_P G.1 vwCl w t.heap) ∧ va_F (va_A ws sz) st t
def zPc (G : zG) (av : List Value) (ws : va_W) (sz : Nat) : Array Value → State → Prop := va_Pc av (fun U => U.heap.size = sz ∧ va_P G.1 vwCl ws U.heap ∧ va_D (fun _ => True) ws ∧ zE G (va_A ws sz) U U.heap)
def Ct (l : Launch) (G : zG) (y : MethodName) (cc : ByteArray) (nL : Nat) (ret : Option FieldType) (fr lo : Nat) (av : List Value) (ws : va_W) (Po : Option Value → va_W → Prop) : Prop :=
  (∀ v w, Po v w → w.map (fun q => some q.1) = ws.map (fun q => some q.1)) ∧ ∀ sz : Nat, Met l y (Cond.code y cc nL ret :: gW) { frames := fr, cells := 0, slots := 0, locals := lo } (zPc G av ws sz) (zQc G ws Po sz) 0 0 (va_A ws sz)
theorem metOfWF {l : Launch} {y : MethodName} {ws ws' : List Cond} {rm : Room} {Pc : Array Value → State → Prop} {Qc : Array Value → State → Outcome → State → Prop} {mc ms : Nat} {free : Addr → Prop} {cc : ByteArray} {maxL : Nat} {ret : Option FieldType}
    (hy : plainFor y = true) (hw : ws = Cond.code y cc maxL ret :: ws')
    (body : ∀ p e s m args below meth c s₁, BodyLoose p l y (headSpec ws rm) cc maxL ret e s m args below meth c s₁ → c.maxLocals = maxL → Pc args s →
      W p l e (headSpec ws rm).room s m args below meth c s.heap [] 0 0 (MQ below Qc args s mc ms free) (entryFrame m args maxL)) : Met l y ws rm Pc Qc mc ms free := by
  refine MetFree.of_bodySF (code := cc) (maxLocals := maxL) (ret := ret) hy ?_ ?_
  · intro args s m h hn
    obtain ⟨meth, c, h1, h2, h3, h4, h5, h6, -, -⟩ := Cond.code_spec hn (atoms_spec (ws := ws) h _ (by rw [hw]; exact List.mem_cons_self))
    exact ⟨meth, c, h1, h2, h3, h4, h5, h6⟩
  · intro p e s m args below meth c s₁ B hml hP _
    have hh0 : s₁.heap = s.heap := by rw [B.state]; rfl
    obtain ⟨t, a1, o, b1, b2, b3⟩ := body p e s m args below meth c s₁ B hml hP s₁ hh0 (Stand.of_body B)
    exact ⟨t, o, a1, b1, b2, ⟨b3.1, b3.2⟩⟩
theorem Ct.of {l : Launch} {G : zG} {y : MethodName} {cc : ByteArray} {nL : Nat} {ret : Option FieldType} {fr lo : Nat} {av : List Value} {ws : va_W} {Po : Option Value → va_W → Prop} (hy : plainFor y = true) (hn : (lg_sl av).length ≤ nL) (had : ∀ v w, Po v w → w.map (fun q => some q.1) = ws.map (fun q => some q.1))
    (body : ∀ X : zX, zC X G nL cc y.cls ret fr lo → zP X G 0 0 Po → Z X G nL 0 0 ws 0 (lv_args 0 av) []) : Ct l G y cc nL ret fr lo av ws Po := by
  refine ⟨had, fun sz => metOfWF (cc := cc) (maxL := nL) (ret := ret) hy rfl ?_⟩
  intro p e s m args below meth c s₁ B hml hv
  obtain ⟨rfl, hsz, hP, hD0, hE⟩ := hv
  subst hsz
  have hts := atoms_spec (ws := Cond.code y cc nL ret :: gW) B.pre
  have hown : s.vm.findClass y.cls = some m.cls := findClass_of_methodNamed B.named
  have h := body (p, l, e, { frames := fr, cells := 0, slots := 0, locals := lo }, s, m, av.toArray, below, meth, c, MQ below (zQc G ws Po s.heap.size) av.toArray s 0 0 (va_A ws s.heap.size), va_A ws s.heap.size)
    ⟨B.exec, B.bytes, hml, hown, fun w hw => hts w (List.mem_cons_of_mem _ hw), fun q hq => Or.inr hq, hE, B.returns, B.notSynchronized, Nat.le_refl _, Nat.le_refl _⟩
    ⟨zQc G ws Po s.heap.size, rfl, fun v w H locs hp hP1 hS t ht hW => ⟨⟨v, w, rfl, hp, by rw [ht]; exact hP1⟩, hS.F ht⟩⟩
  rw [lg_entry_eq]
  exact h s.heap [] _ hP hD0.self va_S.rf (lv_entry av hn)
/-- what a method's name must be, with so many parameters -/
def zOk (y : MethodName) (n : Nat) : Prop := y.cls ≠ "java/lang/invoke/MethodHandle" ∧ y.cls ≠ "java/lang/invoke/VarHandle" ∧ (parseMethodDescriptor y.desc).map (fun d => d.parameters.length) = some n
section ZK
variable {X : zX} {G : zG} {nL k n fr lo : Nat} {cc : ByteArray} {own : String} {ret : Option FieldType} {ws : va_W} {pc : Nat} {lv : List (Nat × Value)} {rest st : List Value} {Po : Option Value → va_W → Prop}
variable {y : MethodName} {cy : ByteArray} {ny fy ly idx b ci m : Nat} {ry : Option FieldType} {av As : List Value} {wc : va_W} {H : Heap} {locs : List Loc} {ls : Array Slot}
theorem z_after {a : Array Value} (hr : va_Run (xP X) (xL X) (xE X) (xR X) (xS X) (xM X) (xA X) (xB X) (xT X) (xC X) H locs k n 0 0 (F0 (xM X) pc ls st) rest (zQc G wc Po H.size a) (va_A wc H.size)) (hA : ∀ q, (xS X).heap.size ≤ q → xF X q) (had : ∀ v w, Po v w → w.map (fun q => some q.1) = wc.map (fun q => some q.1))
    (hP : va_P G.1 vwCl ws H) (hD : va_D (xF X) ws) (hS : va_S (xF X) (xS X).heap H locs) (hl : lv_has ls nL lv) (is : List Nat) (hC : is.map (fun i => ws[i]?) = wc.map some) (kk : ∀ v w, Po v w → Z X G nL k n (zput ws is w) (pc + 3) lv (zpush v rest)) :
    W (xP X) (xL X) (xE X) (xR X) (xS X) (xM X) (xA X) (xB X) (xT X) (xC X) H locs k n (xQ X) (F0 (xM X) pc ls st) := by
  intro T hT Xs
  obtain ⟨v, st₀, t, T', L, h0, X', hL, e1, e2, ⟨⟨v', w, hv, hp, hb⟩, hz, hk⟩, stp⟩ := hr T hT Xs
  cases hv
  rw [h0] at hz hk
  have hF := va_free (wc := wc) hD hS hA is hC
  have hw := had v w hp
  have hadr : is.map (fun i => (ws[i]?).map (·.1)) = w.map (fun q => some q.1) := by
    rw [hw]
    have h1 := congrArg (List.map (Option.map (fun q : Nat × va_E => q.1))) hC
    simpa [List.map_map, Function.comp_def] using h1
  have hlen : is.length = w.length := by simpa using congrArg List.length hadr
  have at' : ∀ (j : Nat) (q : Nat × va_E), wc[j]? = some q → ∃ i, is[j]? = some i ∧ ws[i]? = some q := by
    intro j q hq
    have h1 : (is.map (fun i => ws[i]?))[j]? = some (some q) := by rw [hC, List.getElem?_map, hq]; rfl
    rw [List.getElem?_map] at h1
    cases hi : is[j]? with
    | none => rw [hi] at h1; cases h1
    | some i => rw [hi] at h1; exact ⟨i, rfl, Option.some.inj h1⟩
  have hPn : va_P G.1 vwCl (zput ws is w) T'.heap := by
    intro i q hq
    rcases zput_get is ws w hlen i q hq with ⟨j, hj⟩ | ⟨h1, h2⟩
    · rw [e1]; exact hb j q hj
    · have hlt := (hP i q h1).lt
      refine (hP i q h1).kept ?_
      rw [e1]
      refine hk q.1 hlt fun hz2 => ?_
      rcases hz2 with ⟨j, e, hj⟩ | hj
      · obtain ⟨i2, g1, g2⟩ := at' j (q.1, e) hj
        have := hD.1 i i2 q (q.1, e) h1 g2 rfl
        subst this
        exact h2 (List.mem_of_getElem? g1)
      · omega
  have hDn : va_D (xF X) (zput ws is w) := va_D_adr hD (zput_adr is ws w hadr)
  obtain ⟨t2, a1, b1⟩ := kk v w hp T'.heap (locs ++ L) ls hPn hDn ⟨Nat.le_trans hS.1 (by rw [e1]; exact hz), fun q h1 h2 => by rw [e1, hk q (Nat.lt_of_lt_of_le h1 hS.1) (fun z => h2 (hF q z))]; exact hS.2.1 q h1 h2, fun q hq => by
      rcases List.mem_append.mp hq with h | h
      · exact hS.2.2 q h
      · exact hF _ (hL q h)⟩ hl T' rfl X'
  rw [zpush_eq] at a1
  exact ⟨t2, stp t2 a1, b1⟩
theorem z_blind {sz : Nat} : FrameBlind (zPc G av wc sz) := fun a U g mk q => ⟨q.1, q.2.1, q.2.2.1, q.2.2.2.1, zE.same (u := U) (U := U.calling g mk a) rfl q.2.2.2.2⟩
theorem z_pre (C : zC X G nL cc own ret fr lo) (hP : va_P G.1 vwCl ws H) (hD : va_D (xF X) ws) (hS : va_S (xF X) (xS X).heap H locs) (is : List Nat) (hnd : va_nd is = true) (hC : is.map (fun i => ws[i]?) = wc.map some) (U : State) (hU : U.heap = H) (hW : (xS X).WarmedH U.vm) : zPc G av wc H.size av.toArray U := by
  refine ⟨rfl, by rw [hU], ?_, (hD.sub is hnd hC).weaken (fun _ _ _ _ => trivial), ?_⟩
  · rw [hU]
    refine hP.sub is ?_
    have h1 := congrArg (List.filterMap id) hC
    simpa [List.filterMap_map, Function.comp_def] using h1
  · rw [hU]
    exact zE.to C.2.2.2.2.2.2.1 hW hS (va_free (wc := wc) hD hS C.2.2.2.2.2.1 is hC)
theorem zroom (h : (rest.map fun v => v.category).sum ≤ 8) : 2 * (F0 (xM X) pc ls st).monitorRoom + (rest.map fun v => v.category).sum ≤ 8 := lv_room h
/-- a static method of the own class, or of another by an ordinary link -/
theorem z_callS (C : zC X G nL cc own ret fr lo) (hM : Ct (xL X) G y cy ny ry fy ly av wc Po) (is : List Nat) (hf : k ≤ (xR X).cells ∧ n ≤ (xR X).slots) (hm : Cond.code y cy ny ry ∈ gW ∧ Cond.static y ∈ gW ∧ Cond.initialized y.cls ∈ gW ∧ zOk y m) (ql : Cond.methodLink own idx y ∈ gW) (hd : decode cc pc = .ok (.invokestatic idx, 3)) (hst : st = av.reverse ++ rest) (hnd : va_nd is = true) (hC : is.map (fun i => ws[i]?) = wc.map some) (hlen : av.length = m) (hrs : (rest.map fun v => v.category).sum ≤ 8) (hR : fy + 1 ≤ fr ∧ 8 + (ny + 11) + ly ≤ lo)
    (kk : ∀ v w, Po v w → Z X G nL k n (zput ws is w) (pc + 3) lv (zpush v rest)) : Z X G nL k n ws pc lv st := fun H locs ls hP hD hS hl =>
  z_after (va_runS (As := av) (rest := rest) ⟨C.1, C.2.1, C.2.2.1, C.2.2.2.1, C.2.2.2.2.1⟩ (hM.2 H.size) ⟨callB_of m C.2.2.2.2.1 (gW_in hm.1) rfl rfl rfl (C.2.2.2.2.1 _ hm.2.2.1) (C.2.2.2.2.1 _ ql) hm.2.2.2 ⟨Nat.le_trans hR.1 C.2.2.2.2.2.2.2.2.2.1, Nat.le_trans hR.2 C.2.2.2.2.2.2.2.2.2.2⟩, C.2.2.2.2.1 _ hm.2.1⟩ ⟨z_blind, fun U hU hW => z_pre C hP hD hS is hnd hC U hU hW⟩ rfl hlen hl.1 hst (zroom hrs) hd hf) C.2.2.2.2.2.1 hM.1 hP hD hS hl is hC kk
/-- a private static method of a nest mate -/
theorem z_callSN {host : String} (C : zC X G nL cc own ret fr lo) (hM : Ct (xL X) G y cy ny ry fy ly av wc Po) (is : List Nat) (hf : k ≤ (xR X).cells ∧ n ≤ (xR X).slots) (hm : Cond.code y cy ny ry ∈ gW ∧ Cond.static y ∈ gW ∧ Cond.initialized y.cls ∈ gW ∧ zOk y m) (ql : Cond.methodLinkNest own idx y host ∈ nW) (hd : decode cc pc = .ok (.invokestatic idx, 3)) (hst : st = av.reverse ++ rest) (hnd : va_nd is = true) (hC : is.map (fun i => ws[i]?) = wc.map some) (hlen : av.length = m) (hrs : (rest.map fun v => v.category).sum ≤ 8) (hR : fy + 1 ≤ fr ∧ 8 + (ny + 11) + ly ≤ lo)
    (kk : ∀ v w, Po v w → Z X G nL k n (zput ws is w) (pc + 3) lv (zpush v rest)) : Z X G nL k n ws pc lv st := fun H locs ls hP hD hS hl =>
  z_after (va_runSN (As := av) (rest := rest) ⟨C.1, C.2.1, C.2.2.1, C.2.2.2.1, C.2.2.2.2.1⟩ (hM.2 H.size) ⟨va_cnB m C.2.2.2.2.1 (gW_in hm.1) rfl rfl rfl (C.2.2.2.2.2.2.1.2.1 _ ql) (C.2.2.2.2.1 _ hm.2.2.1) hm.2.2.2 ⟨Nat.le_trans hR.1 C.2.2.2.2.2.2.2.2.2.1, Nat.le_trans hR.2 C.2.2.2.2.2.2.2.2.2.2⟩, C.2.2.2.2.1 _ hm.2.1, trivial⟩ ⟨z_blind, fun U hU hW => z_pre C hP hD hS is hnd hC U hU hW⟩ rfl hlen hl.1 hst (zroom hrs) hd hf) C.2.2.2.2.2.1 hM.1 hP hD hS hl is hC kk
/-- a method of an object of ours, which stands at place qr of the world -/
theorem z_callV {Cn : String} {T : u_T} {N : Nat} {fs : List Value} (C : zC X G nL cc own ret fr lo) (hM : Ct (xL X) G y cy ny ry fy ly (.ref b :: As) wc Po) (is : List Nat) (hf : k ≤ (xR X).cells ∧ n ≤ (xR X).slots) (hm : Cond.code y cy ny ry ∈ gW ∧ Cond.instanceMethod y ∈ gW ∧ Cond.selects y.cls y y ∈ gW ∧ Cond.initialized y.cls ∈ gW ∧ zOk y m) (ql : Cond.methodLink own idx y ∈ gW) (hd : decode cc pc = .ok (.invokevirtual idx, 3)) (hst : st = As.reverse ++ .ref b :: rest) (hnd : va_nd is = true) (hC : is.map (fun i => ws[i]?) = wc.map some) (qr : Nat) (hre : ws[qr]? = some (b, .inr (ci, fs))) (hrc : vwCl[ci]? = some (Cn, T, N)) (hcn : Cn = y.cls) (hlen : As.length = m) (hrs : (rest.map fun v => v.category).sum ≤ 8) (hR : fy + 1 ≤ fr ∧ 8 + (ny + 11) + ly ≤ lo)
    (kk : ∀ v w, Po v w → Z X G nL k n (zput ws is w) (pc + 3) lv (zpush v rest)) : Z X G nL k n ws pc lv st := fun H locs ls hP hD hS hl =>
  z_after (va_runV (As := As) (rest := rest) (C := y.cls) ⟨C.1, C.2.1, C.2.2.1, C.2.2.2.1, C.2.2.2.2.1⟩ (hM.2 H.size) ⟨callB_of m C.2.2.2.2.1 (gW_in hm.1) rfl rfl rfl (C.2.2.2.2.1 _ hm.2.2.2.1) (C.2.2.2.2.1 _ ql) hm.2.2.2.2 ⟨Nat.le_trans hR.1 C.2.2.2.2.2.2.2.2.2.1, Nat.le_trans hR.2 C.2.2.2.2.2.2.2.2.2.2⟩, C.2.2.2.2.1 _ hm.2.1, C.2.2.2.2.1 _ hm.2.2.1⟩ ⟨z_blind, by subst hcn; exact va_recv C.2.2.2.2.2.2.1.1 hP hrc hre, fun U hU hW => z_pre C hP hD hS is hnd hC U hU hW⟩ rfl hlen hl.1 hst (zroom hrs) hd hf) C.2.2.2.2.2.1 hM.1 hP hD hS hl is hC kk
end ZK
/-- ends of contracts: an int, a long, nothing, a reference; and the world -/
def pI (r : Int32) (w0 : va_W) : Option Value → va_W → Prop := fun v w => v = some (.int r) ∧ w = w0
def pL (r : Int64) (w0 : va_W) : Option Value → va_W → Prop := fun v w => v = some (.long r) ∧ w = w0
def pV (w0 : va_W) : Option Value → va_W → Prop := fun v w => v = none ∧ w = w0
def pR (r : Nat) (w0 : va_W) : Option Value → va_W → Prop := fun v w => v = some (.ref r) ∧ w = w0
theorem pI.ad {r : Int32} {w0 ws : va_W} (h : w0.map (fun q => some q.1) = ws.map (fun q => some q.1)) : ∀ v w, pI r w0 v w → w.map (fun q => some q.1) = ws.map (fun q => some q.1) := fun _ _ q => by rw [q.2]; exact h
theorem pL.ad {r : Int64} {w0 ws : va_W} (h : w0.map (fun q => some q.1) = ws.map (fun q => some q.1)) : ∀ v w, pL r w0 v w → w.map (fun q => some q.1) = ws.map (fun q => some q.1) := fun _ _ q => by rw [q.2]; exact h
theorem pV.ad {w0 ws : va_W} (h : w0.map (fun q => some q.1) = ws.map (fun q => some q.1)) : ∀ v w, pV w0 v w → w.map (fun q => some q.1) = ws.map (fun q => some q.1) := fun _ _ q => by rw [q.2]; exact h
theorem pR.ad {r : Nat} {w0 ws : va_W} (h : w0.map (fun q => some q.1) = ws.map (fun q => some q.1)) : ∀ v w, pR r w0 v w → w.map (fun q => some q.1) = ws.map (fun q => some q.1) := fun _ _ q => by rw [q.2]; exact h
/-- what goes on behind a call whose end is one of those -/
theorem pI.go {r : Int32} {w0 : va_W} {X : zX} {G : zG} {nL k n pc : Nat} {ws ws' : va_W} {is : List Nat} {lv : List (Nat × Value)} {rest : List Value} (hw : zput ws is w0 = ws') (kk : Z X G nL k n ws' pc lv (.int r :: rest)) : ∀ v w, pI r w0 v w → Z X G nL k n (zput ws is w) pc lv (zpush v rest) := by
  rintro _ _ ⟨rfl, rfl⟩
  subst hw
  exact kk
theorem pL.go {r : Int64} {w0 : va_W} {X : zX} {G : zG} {nL k n pc : Nat} {ws ws' : va_W} {is : List Nat} {lv : List (Nat × Value)} {rest : List Value} (hw : zput ws is w0 = ws') (kk : Z X G nL k n ws' pc lv (.long r :: rest)) : ∀ v w, pL r w0 v w → Z X G nL k n (zput ws is w) pc lv (zpush v rest) := by
  rintro _ _ ⟨rfl, rfl⟩
  subst hw
  exact kk
theorem pV.go {w0 : va_W} {X : zX} {G : zG} {nL k n pc : Nat} {ws ws' : va_W} {is : List Nat} {lv : List (Nat × Value)} {rest : List Value} (hw : zput ws is w0 = ws') (kk : Z X G nL k n ws' pc lv rest) : ∀ v w, pV w0 v w → Z X G nL k n (zput ws is w) pc lv (zpush v rest) := by
  rintro _ _ ⟨rfl, rfl⟩
  subst hw
  exact kk
theorem pR.go {r : Nat} {w0 : va_W} {X : zX} {G : zG} {nL k n pc : Nat} {ws ws' : va_W} {is : List Nat} {lv : List (Nat × Value)} {rest : List Value} (hw : zput ws is w0 = ws') (kk : Z X G nL k n ws' pc lv (.ref r :: rest)) : ∀ v w, pR r w0 v w → Z X G nL k n (zput ws is w) pc lv (zpush v rest) := by
  rintro _ _ ⟨rfl, rfl⟩
  subst hw
  exact kk
end
section
theorem mV_X0_measured : Cond.code yX0_measured cX0_measured 3 (Option.some FieldType.int) ∈ gW ∧ Cond.instanceMethod yX0_measured ∈ gW ∧ Cond.selects yX0_measured.cls yX0_measured yX0_measured ∈ gW ∧ Cond.initialized yX0_measured.cls ∈ gW ∧ zOk yX0_measured 2 := ⟨q_663, q_661, q_662, q_70, by unfold zOk; decide +kernel⟩
theorem mV_X0_ones : Cond.code yX0_ones cX0_ones 2 (Option.some FieldType.int) ∈ gW ∧ Cond.instanceMethod yX0_ones ∈ gW ∧ Cond.selects yX0_ones.cls yX0_ones yX0_ones ∈ gW ∧ Cond.initialized yX0_ones.cls ∈ gW ∧ zOk yX0_ones 1 := ⟨q_363, q_361, q_362, q_70, by unfold zOk; decide +kernel⟩
theorem mV_X0_onesWithin : Cond.code yX0_onesWithin cX0_onesWithin 9 (Option.some FieldType.int) ∈ gW ∧ Cond.instanceMethod yX0_onesWithin ∈ gW ∧ Cond.selects yX0_onesWithin.cls yX0_onesWithin yX0_onesWithin ∈ gW ∧ Cond.initialized yX0_onesWithin.cls ∈ gW ∧ zOk yX0_onesWithin 5 := ⟨q_367, q_365, q_366, q_70, by unfold zOk; decide +kernel⟩
theorem mV_X0_unlikeDots : Cond.code yX0_unlikeDots cX0_unlikeDots 5 (Option.some FieldType.int) ∈ gW ∧ Cond.instanceMethod yX0_unlikeDots ∈ gW ∧ Cond.selects yX0_unlikeDots.cls yX0_unlikeDots yX0_unlikeDots ∈ gW ∧ Cond.initialized yX0_unlikeDots.cls ∈ gW ∧ zOk yX0_unlikeDots 2 := ⟨q_714, q_712, q_713, q_70, by unfold zOk; decide +kernel⟩
theorem mV_X0_takesBlock : Cond.code yX0_takesBlock cX0_takesBlock 6 (Option.none : Option Jvm.ClassFile.FieldType) ∈ gW ∧ Cond.instanceMethod yX0_takesBlock ∈ gW ∧ Cond.selects yX0_takesBlock.cls yX0_takesBlock yX0_takesBlock ∈ gW ∧ Cond.initialized yX0_takesBlock.cls ∈ gW ∧ zOk yX0_takesBlock 4 := ⟨q_722, q_720, q_721, q_70, by unfold zOk; decide +kernel⟩
theorem mV_X0_placesOfBlock : Cond.code yX0_placesOfBlock cX0_placesOfBlock 8 (Option.some FieldType.int) ∈ gW ∧ Cond.instanceMethod yX0_placesOfBlock ∈ gW ∧ Cond.selects yX0_placesOfBlock.cls yX0_placesOfBlock yX0_placesOfBlock ∈ gW ∧ Cond.initialized yX0_placesOfBlock.cls ∈ gW ∧ zOk yX0_placesOfBlock 3 := ⟨q_727, q_725, q_726, q_70, by unfold zOk; decide +kernel⟩
theorem mS_X0_alikePlaces : Cond.code yX0_alikePlaces cX0_alikePlaces 6 (Option.some FieldType.int) ∈ gW ∧ Cond.static yX0_alikePlaces ∈ gW ∧ Cond.initialized yX0_alikePlaces.cls ∈ gW ∧ zOk yX0_alikePlaces 3 := ⟨q_730, q_729, q_70, by unfold zOk; decide +kernel⟩
theorem mV_X0_partsOf : Cond.code yX0_partsOf cX0_partsOf 3 (Option.some FieldType.int) ∈ gW ∧ Cond.instanceMethod yX0_partsOf ∈ gW ∧ Cond.selects yX0_partsOf.cls yX0_partsOf yX0_partsOf ∈ gW ∧ Cond.initialized yX0_partsOf.cls ∈ gW ∧ zOk yX0_partsOf 1 := ⟨q_668, q_667, q_15, q_70, by unfold zOk; decide +kernel⟩
theorem mV_X0_columnsOf : Cond.code yX0_columnsOf cX0_columnsOf 4 (Option.some FieldType.int) ∈ gW ∧ Cond.instanceMethod yX0_columnsOf ∈ gW ∧ Cond.selects yX0_columnsOf.cls yX0_columnsOf yX0_columnsOf ∈ gW ∧ Cond.initialized yX0_columnsOf.cls ∈ gW ∧ zOk yX0_columnsOf 1 := ⟨q_681, q_680, q_17, q_70, by unfold zOk; decide +kernel⟩
theorem mV_X0_leastX : Cond.code yX0_leastX cX0_leastX 4 (Option.some FieldType.int) ∈ gW ∧ Cond.instanceMethod yX0_leastX ∈ gW ∧ Cond.selects yX0_leastX.cls yX0_leastX yX0_leastX ∈ gW ∧ Cond.initialized yX0_leastX.cls ∈ gW ∧ zOk yX0_leastX 1 := ⟨q_677, q_676, q_16, q_70, by unfold zOk; decide +kernel⟩
theorem mV_X0_greatestX : Cond.code yX0_greatestX cX0_greatestX 4 (Option.some FieldType.int) ∈ gW ∧ Cond.instanceMethod yX0_greatestX ∈ gW ∧ Cond.selects yX0_greatestX.cls yX0_greatestX yX0_greatestX ∈ gW ∧ Cond.initialized yX0_greatestX.cls ∈ gW ∧ zOk yX0_greatestX 1 := ⟨q_686, q_685, q_18, q_70, by unfold zOk; decide +kernel⟩
theorem mV_X0_leastY : Cond.code yX0_leastY cX0_leastY 3 (Option.some FieldType.int) ∈ gW ∧ Cond.instanceMethod yX0_leastY ∈ gW ∧ Cond.selects yX0_leastY.cls yX0_leastY yX0_leastY ∈ gW ∧ Cond.initialized yX0_leastY.cls ∈ gW ∧ zOk yX0_leastY 1 := ⟨q_690, q_689, q_19, q_70, by unfold zOk; decide +kernel⟩
theorem mV_X0_greatestY : Cond.code yX0_greatestY cX0_greatestY 3 (Option.some FieldType.int) ∈ gW ∧ Cond.instanceMethod yX0_greatestY ∈ gW ∧ Cond.selects yX0_greatestY.cls yX0_greatestY yX0_greatestY ∈ gW ∧ Cond.initialized yX0_greatestY.cls ∈ gW ∧ zOk yX0_greatestY 1 := ⟨q_694, q_693, q_20, q_70, by unfold zOk; decide +kernel⟩
theorem mV_X0_openDots : Cond.code yX0_openDots cX0_openDots 3 (Option.some FieldType.int) ∈ gW ∧ Cond.instanceMethod yX0_openDots ∈ gW ∧ Cond.selects yX0_openDots.cls yX0_openDots yX0_openDots ∈ gW ∧ Cond.initialized yX0_openDots.cls ∈ gW ∧ zOk yX0_openDots 0 := ⟨q_698, q_697, q_21, q_70, by unfold zOk; decide +kernel⟩
theorem mV_X1_begins : Cond.code yX1_begins cX1_begins 2 (Option.none : Option Jvm.ClassFile.FieldType) ∈ gW ∧ Cond.instanceMethod yX1_begins ∈ gW ∧ Cond.selects yX1_begins.cls yX1_begins yX1_begins ∈ gW ∧ Cond.initialized yX1_begins.cls ∈ gW ∧ zOk yX1_begins 1 := ⟨q_389, q_387, q_388, q_71, by unfold zOk; decide +kernel⟩
theorem mV_X1_with : Cond.code yX1_with cX1_with 2 (Option.some (FieldType.object "PictureMoves$Order")) ∈ gW ∧ Cond.instanceMethod yX1_with ∈ gW ∧ Cond.selects yX1_with.cls yX1_with yX1_with ∈ gW ∧ Cond.initialized yX1_with.cls ∈ gW ∧ zOk yX1_with 1 := ⟨q_402, q_400, q_401, q_71, by unfold zOk; decide +kernel⟩
theorem mV_X1_isAsTold : Cond.code yX1_isAsTold cX1_isAsTold 1 (Option.some FieldType.boolean) ∈ gW ∧ Cond.instanceMethod yX1_isAsTold ∈ gW ∧ Cond.selects yX1_isAsTold.cls yX1_isAsTold yX1_isAsTold ∈ gW ∧ Cond.initialized yX1_isAsTold.cls ∈ gW ∧ zOk yX1_isAsTold 0 := ⟨q_465, q_463, q_464, q_71, by unfold zOk; decide +kernel⟩
theorem mV_X1_numberAt : Cond.code yX1_numberAt cX1_numberAt 2 (Option.some FieldType.int) ∈ gW ∧ Cond.instanceMethod yX1_numberAt ∈ gW ∧ Cond.selects yX1_numberAt.cls yX1_numberAt yX1_numberAt ∈ gW ∧ Cond.initialized yX1_numberAt.cls ∈ gW ∧ zOk yX1_numberAt 1 := ⟨q_481, q_479, q_480, q_71, by unfold zOk; decide +kernel⟩
theorem mS_X1_isSign : Cond.code yX1_isSign cX1_isSign 1 (Option.some FieldType.boolean) ∈ gW ∧ Cond.static yX1_isSign ∈ gW ∧ Cond.initialized yX1_isSign.cls ∈ gW ∧ zOk yX1_isSign 1 := ⟨q_778, q_777, q_71, by unfold zOk; decide +kernel⟩
theorem mS_X1_kindsOf : Cond.code yX1_kindsOf cX1_kindsOf 1 (Option.some (FieldType.object "java/lang/String")) ∈ gW ∧ Cond.static yX1_kindsOf ∈ gW ∧ Cond.initialized yX1_kindsOf.cls ∈ gW ∧ zOk yX1_kindsOf 1 := ⟨q_392, q_391, q_71, by unfold zOk; decide +kernel⟩
theorem mS_X1_isOfKind : Cond.code yX1_isOfKind cX1_isOfKind 2 (Option.some FieldType.boolean) ∈ gW ∧ Cond.static yX1_isOfKind ∈ gW ∧ Cond.initialized yX1_isOfKind.cls ∈ gW ∧ zOk yX1_isOfKind 2 := ⟨q_453, q_452, q_71, by unfold zOk; decide +kernel⟩
theorem mV_X2_takes : Cond.code yX2_takes cX2_takes 2 (Option.none : Option Jvm.ClassFile.FieldType) ∈ gW ∧ Cond.instanceMethod yX2_takes ∈ gW ∧ Cond.selects yX2_takes.cls yX2_takes yX2_takes ∈ gW ∧ Cond.initialized yX2_takes.cls ∈ gW ∧ zOk yX2_takes 1 := ⟨q_742, q_740, q_741, q_72, by unfold zOk; decide +kernel⟩
theorem mV_X2_restarts : Cond.code yX2_restarts cX2_restarts 1 (Option.none : Option Jvm.ClassFile.FieldType) ∈ gW ∧ Cond.instanceMethod yX2_restarts ∈ gW ∧ Cond.selects yX2_restarts.cls yX2_restarts yX2_restarts ∈ gW ∧ Cond.initialized yX2_restarts.cls ∈ gW ∧ zOk yX2_restarts 0 := ⟨q_758, q_756, q_757, q_72, by unfold zOk; decide +kernel⟩
theorem mV_X2_isAtEnd : Cond.code yX2_isAtEnd cX2_isAtEnd 1 (Option.some FieldType.boolean) ∈ gW ∧ Cond.instanceMethod yX2_isAtEnd ∈ gW ∧ Cond.selects yX2_isAtEnd.cls yX2_isAtEnd yX2_isAtEnd ∈ gW ∧ Cond.initialized yX2_isAtEnd.cls ∈ gW ∧ zOk yX2_isAtEnd 0 := ⟨q_762, q_760, q_761, q_72, by unfold zOk; decide +kernel⟩
theorem mV_X2_faultIn : Cond.code yX2_faultIn cX2_faultIn 6 (Option.some FieldType.int) ∈ gW ∧ Cond.instanceMethod yX2_faultIn ∈ gW ∧ Cond.selects yX2_faultIn.cls yX2_faultIn yX2_faultIn ∈ gW ∧ Cond.initialized yX2_faultIn.cls ∈ gW ∧ zOk yX2_faultIn 2 := ⟨q_754, q_752, q_753, q_72, by unfold zOk; decide +kernel⟩
theorem mV_X2_reads : Cond.code yX2_reads cX2_reads 5 (Option.some FieldType.int) ∈ gW ∧ Cond.instanceMethod yX2_reads ∈ gW ∧ Cond.selects yX2_reads.cls yX2_reads yX2_reads ∈ gW ∧ Cond.initialized yX2_reads.cls ∈ gW ∧ zOk yX2_reads 1 := ⟨q_775, q_773, q_774, q_72, by unfold zOk; decide +kernel⟩
theorem mV_X2_readsNumber : Cond.code yX2_readsNumber cX2_readsNumber 4 (Option.some FieldType.boolean) ∈ gW ∧ Cond.instanceMethod yX2_readsNumber ∈ gW ∧ Cond.selects yX2_readsNumber.cls yX2_readsNumber yX2_readsNumber ∈ gW ∧ Cond.initialized yX2_readsNumber.cls ∈ gW ∧ zOk yX2_readsNumber 0 := ⟨q_788, q_787, q_24, q_72, by unfold zOk; decide +kernel⟩
theorem mV_X2_skipsBlanks : Cond.code yX2_skipsBlanks cX2_skipsBlanks 1 (Option.none : Option Jvm.ClassFile.FieldType) ∈ gW ∧ Cond.instanceMethod yX2_skipsBlanks ∈ gW ∧ Cond.selects yX2_skipsBlanks.cls yX2_skipsBlanks yX2_skipsBlanks ∈ gW ∧ Cond.initialized yX2_skipsBlanks.cls ∈ gW ∧ zOk yX2_skipsBlanks 0 := ⟨q_766, q_765, q_22, q_72, by unfold zOk; decide +kernel⟩
theorem mV_X2_byteHere : Cond.code yX2_byteHere cX2_byteHere 1 (Option.some FieldType.int) ∈ gW ∧ Cond.instanceMethod yX2_byteHere ∈ gW ∧ Cond.selects yX2_byteHere.cls yX2_byteHere yX2_byteHere ∈ gW ∧ Cond.initialized yX2_byteHere.cls ∈ gW ∧ zOk yX2_byteHere 0 := ⟨q_770, q_769, q_23, q_72, by unfold zOk; decide +kernel⟩
theorem mS_X2_openingsAfter : Cond.code yX2_openingsAfter cX2_openingsAfter 2 (Option.some FieldType.int) ∈ gW ∧ Cond.static yX2_openingsAfter ∈ gW ∧ Cond.initialized yX2_openingsAfter.cls ∈ gW ∧ zOk yX2_openingsAfter 2 := ⟨q_792, q_791, q_72, by unfold zOk; decide +kernel⟩
theorem mV_X3_performs : Cond.code yX3_performs cX3_performs 2 (Option.some FieldType.int) ∈ gW ∧ Cond.instanceMethod yX3_performs ∈ gW ∧ Cond.selects yX3_performs.cls yX3_performs yX3_performs ∈ gW ∧ Cond.initialized yX3_performs.cls ∈ gW ∧ zOk yX3_performs 1 := ⟨q_473, q_471, q_472, q_68, by unfold zOk; decide +kernel⟩
theorem mV_X3_movesBlock : Cond.code yX3_movesBlock cX3_movesBlock 12 (Option.some FieldType.int) ∈ gW ∧ Cond.instanceMethod yX3_movesBlock ∈ gW ∧ Cond.selects yX3_movesBlock.cls yX3_movesBlock yX3_movesBlock ∈ gW ∧ Cond.initialized yX3_movesBlock.cls ∈ gW ∧ zOk yX3_movesBlock 1 := ⟨q_477, q_476, q_2, q_68, by unfold zOk; decide +kernel⟩
theorem mV_X3_keepsSource : Cond.code yX3_keepsSource cX3_keepsSource 3 (Option.none : Option Jvm.ClassFile.FieldType) ∈ gW ∧ Cond.instanceMethod yX3_keepsSource ∈ gW ∧ Cond.selects yX3_keepsSource.cls yX3_keepsSource yX3_keepsSource ∈ gW ∧ Cond.initialized yX3_keepsSource.cls ∈ gW ∧ zOk yX3_keepsSource 1 := ⟨q_485, q_484, q_3, q_68, by unfold zOk; decide +kernel⟩
theorem mV_X3_sourceAt : Cond.code yX3_sourceAt cX3_sourceAt 2 (Option.some FieldType.int) ∈ gW ∧ Cond.instanceMethod yX3_sourceAt ∈ gW ∧ Cond.selects yX3_sourceAt.cls yX3_sourceAt yX3_sourceAt ∈ gW ∧ Cond.initialized yX3_sourceAt.cls ∈ gW ∧ zOk yX3_sourceAt 1 := ⟨q_491, q_490, q_4, q_68, by unfold zOk; decide +kernel⟩
theorem mV_X3_drawsLine : Cond.code yX3_drawsLine cX3_drawsLine 11 (Option.some FieldType.int) ∈ gW ∧ Cond.instanceMethod yX3_drawsLine ∈ gW ∧ Cond.selects yX3_drawsLine.cls yX3_drawsLine yX3_drawsLine ∈ gW ∧ Cond.initialized yX3_drawsLine.cls ∈ gW ∧ zOk yX3_drawsLine 1 := ⟨q_519, q_518, q_5, q_68, by unfold zOk; decide +kernel⟩
theorem mS_X3_between : Cond.code yX3_between cX3_between 4 (Option.some FieldType.int) ∈ gW ∧ Cond.static yX3_between ∈ gW ∧ Cond.initialized yX3_between.cls ∈ gW ∧ zOk yX3_between 4 := ⟨q_526, q_525, q_68, by unfold zOk; decide +kernel⟩
theorem mV_X3_floods : Cond.code yX3_floods cX3_floods 7 (Option.some FieldType.int) ∈ gW ∧ Cond.instanceMethod yX3_floods ∈ gW ∧ Cond.selects yX3_floods.cls yX3_floods yX3_floods ∈ gW ∧ Cond.initialized yX3_floods.cls ∈ gW ∧ zOk yX3_floods 3 := ⟨q_533, q_532, q_6, q_68, by unfold zOk; decide +kernel⟩
theorem mV_X3_fillsRectangle : Cond.code yX3_fillsRectangle cX3_fillsRectangle 8 (Option.some FieldType.int) ∈ gW ∧ Cond.instanceMethod yX3_fillsRectangle ∈ gW ∧ Cond.selects yX3_fillsRectangle.cls yX3_fillsRectangle yX3_fillsRectangle ∈ gW ∧ Cond.initialized yX3_fillsRectangle.cls ∈ gW ∧ zOk yX3_fillsRectangle 1 := ⟨q_557, q_556, q_8, q_68, by unfold zOk; decide +kernel⟩
theorem mV_X3_writesLetter : Cond.code yX3_writesLetter cX3_writesLetter 9 (Option.some FieldType.int) ∈ gW ∧ Cond.instanceMethod yX3_writesLetter ∈ gW ∧ Cond.selects yX3_writesLetter.cls yX3_writesLetter yX3_writesLetter ∈ gW ∧ Cond.initialized yX3_writesLetter.cls ∈ gW ∧ zOk yX3_writesLetter 1 := ⟨q_561, q_560, q_9, q_68, by unfold zOk; decide +kernel⟩
theorem mS_X3_letterRow : Cond.code yX3_letterRow cX3_letterRow 2 (Option.some FieldType.int) ∈ gW ∧ Cond.static yX3_letterRow ∈ gW ∧ Cond.initialized yX3_letterRow.cls ∈ gW ∧ zOk yX3_letterRow 2 := ⟨q_564, q_563, q_68, by unfold zOk; decide +kernel⟩
theorem mV_X4_takesOut : Cond.code yX4_takesOut cX4_takesOut 6 (Option.none : Option Jvm.ClassFile.FieldType) ∈ gW ∧ Cond.instanceMethod yX4_takesOut ∈ gW ∧ Cond.selects yX4_takesOut.cls yX4_takesOut yX4_takesOut ∈ gW ∧ Cond.initialized yX4_takesOut.cls ∈ gW ∧ zOk yX4_takesOut 2 := ⟨q_544, q_542, q_543, q_66, by unfold zOk; decide +kernel⟩
theorem mV_X4_numberOfParts : Cond.code yX4_numberOfParts cX4_numberOfParts 4 (Option.some FieldType.int) ∈ gW ∧ Cond.instanceMethod yX4_numberOfParts ∈ gW ∧ Cond.selects yX4_numberOfParts.cls yX4_numberOfParts yX4_numberOfParts ∈ gW ∧ Cond.initialized yX4_numberOfParts.cls ∈ gW ∧ zOk yX4_numberOfParts 0 := ⟨q_672, q_670, q_671, q_66, by unfold zOk; decide +kernel⟩
theorem mV_X4_reaches : Cond.code yX4_reaches cX4_reaches 4 (Option.none : Option Jvm.ClassFile.FieldType) ∈ gW ∧ Cond.instanceMethod yX4_reaches ∈ gW ∧ Cond.selects yX4_reaches.cls yX4_reaches yX4_reaches ∈ gW ∧ Cond.initialized yX4_reaches.cls ∈ gW ∧ zOk yX4_reaches 2 := ⟨q_548, q_547, q_7, q_66, by unfold zOk; decide +kernel⟩
theorem mS_X4_runsThrough : Cond.code yX4_runsThrough cX4_runsThrough 7 (Option.some FieldType.int) ∈ gW ∧ Cond.static yX4_runsThrough ∈ gW ∧ Cond.initialized yX4_runsThrough.cls ∈ gW ∧ zOk yX4_runsThrough 2 := ⟨q_552, q_551, q_66, by unfold zOk; decide +kernel⟩
theorem mV_X5_keeps : Cond.code yX5_keeps cX5_keeps 2 (Option.none : Option Jvm.ClassFile.FieldType) ∈ gW ∧ Cond.instanceMethod yX5_keeps ∈ gW ∧ Cond.selects yX5_keeps.cls yX5_keeps yX5_keeps ∈ gW ∧ Cond.initialized yX5_keeps.cls ∈ gW ∧ zOk yX5_keeps 1 := ⟨q_303, q_301, q_302, q_67, by unfold zOk; decide +kernel⟩
theorem mV_X5_givesBack : Cond.code yX5_givesBack cX5_givesBack 2 (Option.none : Option Jvm.ClassFile.FieldType) ∈ gW ∧ Cond.instanceMethod yX5_givesBack ∈ gW ∧ Cond.selects yX5_givesBack.cls yX5_givesBack yX5_givesBack ∈ gW ∧ Cond.initialized yX5_givesBack.cls ∈ gW ∧ zOk yX5_givesBack 1 := ⟨q_803, q_801, q_802, q_67, by unfold zOk; decide +kernel⟩
theorem mV_X6_becomes : Cond.code yX6_becomes cX6_becomes 2 (Option.none : Option Jvm.ClassFile.FieldType) ∈ gW ∧ Cond.instanceMethod yX6_becomes ∈ gW ∧ Cond.selects yX6_becomes.cls yX6_becomes yX6_becomes ∈ gW ∧ Cond.initialized yX6_becomes.cls ∈ gW ∧ zOk yX6_becomes 1 := ⟨q_307, q_305, q_306, q_64, by unfold zOk; decide +kernel⟩
theorem mV_X6_rowAt : Cond.code yX6_rowAt cX6_rowAt 3 (Option.some FieldType.int) ∈ gW ∧ Cond.instanceMethod yX6_rowAt ∈ gW ∧ Cond.selects yX6_rowAt.cls yX6_rowAt yX6_rowAt ∈ gW ∧ Cond.initialized yX6_rowAt.cls ∈ gW ∧ zOk yX6_rowAt 2 := ⟨q_322, q_320, q_321, q_64, by unfold zOk; decide +kernel⟩
theorem mV_X6_putRow : Cond.code yX6_putRow cX6_putRow 4 (Option.none : Option Jvm.ClassFile.FieldType) ∈ gW ∧ Cond.instanceMethod yX6_putRow ∈ gW ∧ Cond.selects yX6_putRow.cls yX6_putRow yX6_putRow ∈ gW ∧ Cond.initialized yX6_putRow.cls ∈ gW ∧ zOk yX6_putRow 3 := ⟨q_337, q_335, q_336, q_64, by unfold zOk; decide +kernel⟩
theorem mV_X6_dotAt : Cond.code yX6_dotAt cX6_dotAt 4 (Option.some FieldType.int) ∈ gW ∧ Cond.instanceMethod yX6_dotAt ∈ gW ∧ Cond.selects yX6_dotAt.cls yX6_dotAt yX6_dotAt ∈ gW ∧ Cond.initialized yX6_dotAt.cls ∈ gW ∧ zOk yX6_dotAt 3 := ⟨q_317, q_315, q_316, q_64, by unfold zOk; decide +kernel⟩
theorem mV_X6_patternAt : Cond.code yX6_patternAt cX6_patternAt 2 (Option.some FieldType.int) ∈ gW ∧ Cond.instanceMethod yX6_patternAt ∈ gW ∧ Cond.selects yX6_patternAt.cls yX6_patternAt yX6_patternAt ∈ gW ∧ Cond.initialized yX6_patternAt.cls ∈ gW ∧ zOk yX6_patternAt 1 := ⟨q_506, q_504, q_505, q_64, by unfold zOk; decide +kernel⟩
theorem mV_X6_openAt : Cond.code yX6_openAt cX6_openAt 6 (Option.some FieldType.int) ∈ gW ∧ Cond.instanceMethod yX6_openAt ∈ gW ∧ Cond.selects yX6_openAt.cls yX6_openAt yX6_openAt ∈ gW ∧ Cond.initialized yX6_openAt.cls ∈ gW ∧ zOk yX6_openAt 1 := ⟨q_501, q_499, q_500, q_64, by unfold zOk; decide +kernel⟩
theorem mV_X6_isOpen : Cond.code yX6_isOpen cX6_isOpen 3 (Option.some FieldType.boolean) ∈ gW ∧ Cond.instanceMethod yX6_isOpen ∈ gW ∧ Cond.selects yX6_isOpen.cls yX6_isOpen yX6_isOpen ∈ gW ∧ Cond.initialized yX6_isOpen.cls ∈ gW ∧ zOk yX6_isOpen 2 := ⟨q_537, q_535, q_536, q_64, by unfold zOk; decide +kernel⟩
theorem mV_X6_opens : Cond.code yX6_opens cX6_opens 6 (Option.none : Option Jvm.ClassFile.FieldType) ∈ gW ∧ Cond.instanceMethod yX6_opens ∈ gW ∧ Cond.selects yX6_opens.cls yX6_opens yX6_opens ∈ gW ∧ Cond.initialized yX6_opens.cls ∈ gW ∧ zOk yX6_opens 4 := ⟨q_568, q_566, q_567, q_64, by unfold zOk; decide +kernel⟩
theorem mV_X6_joinsRow : Cond.code yX6_joinsRow cX6_joinsRow 9 (Option.some FieldType.int) ∈ gW ∧ Cond.instanceMethod yX6_joinsRow ∈ gW ∧ Cond.selects yX6_joinsRow.cls yX6_joinsRow yX6_joinsRow ∈ gW ∧ Cond.initialized yX6_joinsRow.cls ∈ gW ∧ zOk yX6_joinsRow 5 := ⟨q_497, q_495, q_496, q_64, by unfold zOk; decide +kernel⟩
theorem mV_X6_turnsDots : Cond.code yX6_turnsDots cX6_turnsDots 4 (Option.some FieldType.int) ∈ gW ∧ Cond.instanceMethod yX6_turnsDots ∈ gW ∧ Cond.selects yX6_turnsDots.cls yX6_turnsDots yX6_turnsDots ∈ gW ∧ Cond.initialized yX6_turnsDots.cls ∈ gW ∧ zOk yX6_turnsDots 3 := ⟨q_514, q_512, q_513, q_64, by unfold zOk; decide +kernel⟩
theorem mV_X6_mixedInto : Cond.code yX6_mixedInto cX6_mixedInto 6 (Option.some FieldType.long) ∈ gW ∧ Cond.instanceMethod yX6_mixedInto ∈ gW ∧ Cond.selects yX6_mixedInto.cls yX6_mixedInto yX6_mixedInto ∈ gW ∧ Cond.initialized yX6_mixedInto.cls ∈ gW ∧ zOk yX6_mixedInto 1 := ⟨q_821, q_819, q_820, q_64, by unfold zOk; decide +kernel⟩
theorem mV_X7_drawn : Cond.code yX7_drawn cX7_drawn 8 (Option.none : Option Jvm.ClassFile.FieldType) ∈ gW ∧ Cond.instanceMethod yX7_drawn ∈ gW ∧ Cond.selects yX7_drawn.cls yX7_drawn yX7_drawn ∈ gW ∧ Cond.initialized yX7_drawn.cls ∈ gW ∧ zOk yX7_drawn 2 := ⟨q_350, q_348, q_349, q_69, by unfold zOk; decide +kernel⟩
theorem mS_X7_numberBehind : Cond.code yX7_numberBehind cX7_numberBehind 2 (Option.some FieldType.long) ∈ gW ∧ Cond.static yX7_numberBehind ∈ gW ∧ Cond.initialized yX7_numberBehind.cls ∈ gW ∧ zOk yX7_numberBehind 1 := ⟨q_353, q_352, q_69, by unfold zOk; decide +kernel⟩
theorem mV_X7_joined : Cond.code yX7_joined cX7_joined 6 (Option.some FieldType.int) ∈ gW ∧ Cond.instanceMethod yX7_joined ∈ gW ∧ Cond.selects yX7_joined.cls yX7_joined yX7_joined ∈ gW ∧ Cond.initialized yX7_joined.cls ∈ gW ∧ zOk yX7_joined 3 := ⟨q_605, q_603, q_604, q_69, by unfold zOk; decide +kernel⟩
theorem mV_X7_changed : Cond.code yX7_changed cX7_changed 4 (Option.some FieldType.int) ∈ gW ∧ Cond.instanceMethod yX7_changed ∈ gW ∧ Cond.selects yX7_changed.cls yX7_changed yX7_changed ∈ gW ∧ Cond.initialized yX7_changed.cls ∈ gW ∧ zOk yX7_changed 2 := ⟨q_615, q_613, q_614, q_69, by unfold zOk; decide +kernel⟩
theorem mV_X7_rolled : Cond.code yX7_rolled cX7_rolled 7 (Option.some FieldType.int) ∈ gW ∧ Cond.instanceMethod yX7_rolled ∈ gW ∧ Cond.selects yX7_rolled.cls yX7_rolled yX7_rolled ∈ gW ∧ Cond.initialized yX7_rolled.cls ∈ gW ∧ zOk yX7_rolled 3 := ⟨q_643, q_641, q_642, q_69, by unfold zOk; decide +kernel⟩
theorem mV_X7_changedRow : Cond.code yX7_changedRow cX7_changedRow 4 (Option.some FieldType.int) ∈ gW ∧ Cond.instanceMethod yX7_changedRow ∈ gW ∧ Cond.selects yX7_changedRow.cls yX7_changedRow yX7_changedRow ∈ gW ∧ Cond.initialized yX7_changedRow.cls ∈ gW ∧ zOk yX7_changedRow 3 := ⟨q_619, q_618, q_11, q_69, by unfold zOk; decide +kernel⟩
theorem mV_X7_grownRow : Cond.code yX7_grownRow cX7_grownRow 4 (Option.some FieldType.int) ∈ gW ∧ Cond.instanceMethod yX7_grownRow ∈ gW ∧ Cond.selects yX7_grownRow.cls yX7_grownRow yX7_grownRow ∈ gW ∧ Cond.initialized yX7_grownRow.cls ∈ gW ∧ zOk yX7_grownRow 2 := ⟨q_626, q_625, q_12, q_69, by unfold zOk; decide +kernel⟩
theorem mV_X7_thinnedRow : Cond.code yX7_thinnedRow cX7_thinnedRow 4 (Option.some FieldType.int) ∈ gW ∧ Cond.instanceMethod yX7_thinnedRow ∈ gW ∧ Cond.selects yX7_thinnedRow.cls yX7_thinnedRow yX7_thinnedRow ∈ gW ∧ Cond.initialized yX7_thinnedRow.cls ∈ gW ∧ zOk yX7_thinnedRow 2 := ⟨q_630, q_629, q_13, q_69, by unfold zOk; decide +kernel⟩
theorem mS_X7_mirroredRow : Cond.code yX7_mirroredRow cX7_mirroredRow 3 (Option.some FieldType.int) ∈ gW ∧ Cond.static yX7_mirroredRow ∈ gW ∧ Cond.initialized yX7_mirroredRow.cls ∈ gW ∧ zOk yX7_mirroredRow 1 := ⟨q_622, q_621, q_69, by unfold zOk; decide +kernel⟩
theorem mV_X7_becomesWhatComes : Cond.code yX7_becomesWhatComes cX7_becomesWhatComes 4 (Option.some FieldType.int) ∈ gW ∧ Cond.instanceMethod yX7_becomesWhatComes ∈ gW ∧ Cond.selects yX7_becomesWhatComes.cls yX7_becomesWhatComes yX7_becomesWhatComes ∈ gW ∧ Cond.initialized yX7_becomesWhatComes.cls ∈ gW ∧ zOk yX7_becomesWhatComes 1 := ⟨q_634, q_633, q_14, q_69, by unfold zOk; decide +kernel⟩
theorem mV_X8_dot : Cond.code yX8_dot cX8_dot 6 (Option.some FieldType.int) ∈ gW ∧ Cond.instanceMethod yX8_dot ∈ gW ∧ Cond.selects yX8_dot.cls yX8_dot yX8_dot ∈ gW ∧ Cond.initialized yX8_dot.cls ∈ gW ∧ zOk yX8_dot 4 := ⟨q_286, q_284, q_285, q_63, by unfold zOk; decide +kernel⟩
theorem mV_X8_pattern : Cond.code yX8_pattern cX8_pattern 4 (Option.some FieldType.int) ∈ gW ∧ Cond.instanceMethod yX8_pattern ∈ gW ∧ Cond.selects yX8_pattern.cls yX8_pattern yX8_pattern ∈ gW ∧ Cond.initialized yX8_pattern.cls ∈ gW ∧ zOk yX8_pattern 2 := ⟨q_341, q_339, q_340, q_63, by unfold zOk; decide +kernel⟩
theorem mV_X8_draw : Cond.code yX8_draw cX8_draw 3 (Option.some FieldType.int) ∈ gW ∧ Cond.instanceMethod yX8_draw ∈ gW ∧ Cond.selects yX8_draw.cls yX8_draw yX8_draw ∈ gW ∧ Cond.initialized yX8_draw.cls ∈ gW ∧ zOk yX8_draw 2 := ⟨q_345, q_343, q_344, q_63, by unfold zOk; decide +kernel⟩
theorem mV_X8_opening : Cond.code yX8_opening cX8_opening 5 (Option.some FieldType.int) ∈ gW ∧ Cond.instanceMethod yX8_opening ∈ gW ∧ Cond.selects yX8_opening.cls yX8_opening yX8_opening ∈ gW ∧ Cond.initialized yX8_opening.cls ∈ gW ∧ zOk yX8_opening 4 := ⟨q_385, q_383, q_384, q_63, by unfold zOk; decide +kernel⟩
theorem mV_X8_closes : Cond.code yX8_closes cX8_closes 2 (Option.some FieldType.int) ∈ gW ∧ Cond.instanceMethod yX8_closes ∈ gW ∧ Cond.selects yX8_closes.cls yX8_closes yX8_closes ∈ gW ∧ Cond.initialized yX8_closes.cls ∈ gW ∧ zOk yX8_closes 0 := ⟨q_572, q_570, q_571, q_63, by unfold zOk; decide +kernel⟩
theorem mV_X8_move : Cond.code yX8_move cX8_move 10 (Option.some FieldType.int) ∈ gW ∧ Cond.instanceMethod yX8_move ∈ gW ∧ Cond.selects yX8_move.cls yX8_move yX8_move ∈ gW ∧ Cond.initialized yX8_move.cls ∈ gW ∧ zOk yX8_move 9 := ⟨q_576, q_574, q_575, q_63, by unfold zOk; decide +kernel⟩
theorem mV_X8_line : Cond.code yX8_line cX8_line 7 (Option.some FieldType.int) ∈ gW ∧ Cond.instanceMethod yX8_line ∈ gW ∧ Cond.selects yX8_line.cls yX8_line yX8_line ∈ gW ∧ Cond.initialized yX8_line.cls ∈ gW ∧ zOk yX8_line 6 := ⟨q_580, q_578, q_579, q_63, by unfold zOk; decide +kernel⟩
theorem mV_X8_flood : Cond.code yX8_flood cX8_flood 4 (Option.some FieldType.int) ∈ gW ∧ Cond.instanceMethod yX8_flood ∈ gW ∧ Cond.selects yX8_flood.cls yX8_flood yX8_flood ∈ gW ∧ Cond.initialized yX8_flood.cls ∈ gW ∧ zOk yX8_flood 3 := ⟨q_584, q_582, q_583, q_63, by unfold zOk; decide +kernel⟩
theorem mV_X8_rectangle : Cond.code yX8_rectangle cX8_rectangle 7 (Option.some FieldType.int) ∈ gW ∧ Cond.instanceMethod yX8_rectangle ∈ gW ∧ Cond.selects yX8_rectangle.cls yX8_rectangle yX8_rectangle ∈ gW ∧ Cond.initialized yX8_rectangle.cls ∈ gW ∧ zOk yX8_rectangle 6 := ⟨q_593, q_591, q_592, q_63, by unfold zOk; decide +kernel⟩
theorem mV_X8_letter : Cond.code yX8_letter cX8_letter 6 (Option.some FieldType.int) ∈ gW ∧ Cond.instanceMethod yX8_letter ∈ gW ∧ Cond.selects yX8_letter.cls yX8_letter yX8_letter ∈ gW ∧ Cond.initialized yX8_letter.cls ∈ gW ∧ zOk yX8_letter 5 := ⟨q_597, q_595, q_596, q_63, by unfold zOk; decide +kernel⟩
theorem mV_X8_joins : Cond.code yX8_joins cX8_joins 4 (Option.some FieldType.int) ∈ gW ∧ Cond.instanceMethod yX8_joins ∈ gW ∧ Cond.selects yX8_joins.cls yX8_joins yX8_joins ∈ gW ∧ Cond.initialized yX8_joins.cls ∈ gW ∧ zOk yX8_joins 3 := ⟨q_601, q_599, q_600, q_63, by unfold zOk; decide +kernel⟩
theorem mV_X8_changes : Cond.code yX8_changes cX8_changes 3 (Option.some FieldType.int) ∈ gW ∧ Cond.instanceMethod yX8_changes ∈ gW ∧ Cond.selects yX8_changes.cls yX8_changes yX8_changes ∈ gW ∧ Cond.initialized yX8_changes.cls ∈ gW ∧ zOk yX8_changes 2 := ⟨q_611, q_609, q_610, q_63, by unfold zOk; decide +kernel⟩
theorem mV_X8_rolls : Cond.code yX8_rolls cX8_rolls 4 (Option.some FieldType.int) ∈ gW ∧ Cond.instanceMethod yX8_rolls ∈ gW ∧ Cond.selects yX8_rolls.cls yX8_rolls yX8_rolls ∈ gW ∧ Cond.initialized yX8_rolls.cls ∈ gW ∧ zOk yX8_rolls 3 := ⟨q_639, q_637, q_638, q_63, by unfold zOk; decide +kernel⟩
theorem mV_X8_at : Cond.code yX8_at cX8_at 4 (Option.some FieldType.int) ∈ gW ∧ Cond.instanceMethod yX8_at ∈ gW ∧ Cond.selects yX8_at.cls yX8_at yX8_at ∈ gW ∧ Cond.initialized yX8_at.cls ∈ gW ∧ zOk yX8_at 3 := ⟨q_651, q_649, q_650, q_63, by unfold zOk; decide +kernel⟩
theorem mV_X8_row : Cond.code yX8_row cX8_row 3 (Option.some FieldType.int) ∈ gW ∧ Cond.instanceMethod yX8_row ∈ gW ∧ Cond.selects yX8_row.cls yX8_row yX8_row ∈ gW ∧ Cond.initialized yX8_row.cls ∈ gW ∧ zOk yX8_row 2 := ⟨q_655, q_653, q_654, q_63, by unfold zOk; decide +kernel⟩
theorem mV_X8_of : Cond.code yX8_of cX8_of 3 (Option.some FieldType.int) ∈ gW ∧ Cond.instanceMethod yX8_of ∈ gW ∧ Cond.selects yX8_of.cls yX8_of yX8_of ∈ gW ∧ Cond.initialized yX8_of.cls ∈ gW ∧ zOk yX8_of 2 := ⟨q_659, q_657, q_658, q_63, by unfold zOk; decide +kernel⟩
theorem mV_X8_count : Cond.code yX8_count cX8_count 6 (Option.some FieldType.int) ∈ gW ∧ Cond.instanceMethod yX8_count ∈ gW ∧ Cond.selects yX8_count.cls yX8_count yX8_count ∈ gW ∧ Cond.initialized yX8_count.cls ∈ gW ∧ zOk yX8_count 5 := ⟨q_703, q_701, q_702, q_63, by unfold zOk; decide +kernel⟩
theorem mV_X8_unlike : Cond.code yX8_unlike cX8_unlike 3 (Option.some FieldType.int) ∈ gW ∧ Cond.instanceMethod yX8_unlike ∈ gW ∧ Cond.selects yX8_unlike.cls yX8_unlike yX8_unlike ∈ gW ∧ Cond.initialized yX8_unlike.cls ∈ gW ∧ zOk yX8_unlike 2 := ⟨q_710, q_708, q_709, q_63, by unfold zOk; decide +kernel⟩
theorem mV_X8_finds : Cond.code yX8_finds cX8_finds 7 (Option.some FieldType.int) ∈ gW ∧ Cond.instanceMethod yX8_finds ∈ gW ∧ Cond.selects yX8_finds.cls yX8_finds yX8_finds ∈ gW ∧ Cond.initialized yX8_finds.cls ∈ gW ∧ zOk yX8_finds 6 := ⟨q_718, q_716, q_717, q_63, by unfold zOk; decide +kernel⟩
theorem mV_X8_open : Cond.code yX8_open cX8_open 3 (Option.some FieldType.int) ∈ gW ∧ Cond.instanceMethod yX8_open ∈ gW ∧ Cond.selects yX8_open.cls yX8_open yX8_open ∈ gW ∧ Cond.initialized yX8_open.cls ∈ gW ∧ zOk yX8_open 2 := ⟨q_734, q_732, q_733, q_63, by unfold zOk; decide +kernel⟩
theorem mV_X8_type : Cond.code yX8_type cX8_type 2 (Option.some FieldType.int) ∈ gW ∧ Cond.instanceMethod yX8_type ∈ gW ∧ Cond.selects yX8_type.cls yX8_type yX8_type ∈ gW ∧ Cond.initialized yX8_type.cls ∈ gW ∧ zOk yX8_type 1 := ⟨q_738, q_736, q_737, q_63, by unfold zOk; decide +kernel⟩
theorem mV_X8_clear : Cond.code yX8_clear cX8_clear 2 (Option.some FieldType.int) ∈ gW ∧ Cond.instanceMethod yX8_clear ∈ gW ∧ Cond.selects yX8_clear.cls yX8_clear yX8_clear ∈ gW ∧ Cond.initialized yX8_clear.cls ∈ gW ∧ zOk yX8_clear 0 := ⟨q_746, q_744, q_745, q_63, by unfold zOk; decide +kernel⟩
theorem mV_X8_does : Cond.code yX8_does cX8_does 4 (Option.some FieldType.int) ∈ gW ∧ Cond.instanceMethod yX8_does ∈ gW ∧ Cond.selects yX8_does.cls yX8_does yX8_does ∈ gW ∧ Cond.initialized yX8_does.cls ∈ gW ∧ zOk yX8_does 0 := ⟨q_750, q_748, q_749, q_63, by unfold zOk; decide +kernel⟩
theorem mV_X8_back : Cond.code yX8_back cX8_back 1 (Option.some FieldType.int) ∈ gW ∧ Cond.instanceMethod yX8_back ∈ gW ∧ Cond.selects yX8_back.cls yX8_back yX8_back ∈ gW ∧ Cond.initialized yX8_back.cls ∈ gW ∧ zOk yX8_back 0 := ⟨q_799, q_797, q_798, q_63, by unfold zOk; decide +kernel⟩
theorem mV_X8_told : Cond.code yX8_told cX8_told 2 (Option.some FieldType.int) ∈ gW ∧ Cond.instanceMethod yX8_told ∈ gW ∧ Cond.selects yX8_told.cls yX8_told yX8_told ∈ gW ∧ Cond.initialized yX8_told.cls ∈ gW ∧ zOk yX8_told 1 := ⟨q_807, q_805, q_806, q_63, by unfold zOk; decide +kernel⟩
theorem mV_X8_digest : Cond.code yX8_digest cX8_digest 4 (Option.some FieldType.long) ∈ gW ∧ Cond.instanceMethod yX8_digest ∈ gW ∧ Cond.selects yX8_digest.cls yX8_digest yX8_digest ∈ gW ∧ Cond.initialized yX8_digest.cls ∈ gW ∧ zOk yX8_digest 0 := ⟨q_815, q_813, q_814, q_63, by unfold zOk; decide +kernel⟩
theorem mV_X8_refusedBad : Cond.code yX8_refusedBad cX8_refusedBad 1 (Option.some FieldType.int) ∈ gW ∧ Cond.instanceMethod yX8_refusedBad ∈ gW ∧ Cond.selects yX8_refusedBad.cls yX8_refusedBad yX8_refusedBad ∈ gW ∧ Cond.initialized yX8_refusedBad.cls ∈ gW ∧ zOk yX8_refusedBad 0 := ⟨q_299, q_298, q_0, q_63, by unfold zOk; decide +kernel⟩
theorem mV_X8_refusedNo : Cond.code yX8_refusedNo cX8_refusedNo 1 (Option.some FieldType.int) ∈ gW ∧ Cond.instanceMethod yX8_refusedNo ∈ gW ∧ Cond.selects yX8_refusedNo.cls yX8_refusedNo yX8_refusedNo ∈ gW ∧ Cond.initialized yX8_refusedNo.cls ∈ gW ∧ zOk yX8_refusedNo 0 := ⟨q_589, q_588, q_10, q_63, by unfold zOk; decide +kernel⟩
theorem mV_X8_refusedFull : Cond.code yX8_refusedFull cX8_refusedFull 1 (Option.some FieldType.int) ∈ gW ∧ Cond.instanceMethod yX8_refusedFull ∈ gW ∧ Cond.selects yX8_refusedFull.cls yX8_refusedFull yX8_refusedFull ∈ gW ∧ Cond.initialized yX8_refusedFull.cls ∈ gW ∧ zOk yX8_refusedFull 0 := ⟨q_469, q_468, q_1, q_63, by unfold zOk; decide +kernel⟩
theorem mV_X8_tally : Cond.code yX8_tally cX8_tally 2 (Option.some FieldType.int) ∈ gW ∧ Cond.instanceMethod yX8_tally ∈ gW ∧ Cond.selects yX8_tally.cls yX8_tally yX8_tally ∈ gW ∧ Cond.initialized yX8_tally.cls ∈ gW ∧ zOk yX8_tally 1 := ⟨q_811, q_810, q_25, q_63, by unfold zOk; decide +kernel⟩
theorem mS_X8_isWithin : Cond.code yX8_isWithin cX8_isWithin 3 (Option.some FieldType.boolean) ∈ gW ∧ Cond.static yX8_isWithin ∈ gW ∧ Cond.initialized yX8_isWithin.cls ∈ gW ∧ zOk yX8_isWithin 3 := ⟨q_292, q_291, q_63, by unfold zOk; decide +kernel⟩
theorem mS_X8_isPicture : Cond.code yX8_isPicture cX8_isPicture 1 (Option.some FieldType.boolean) ∈ gW ∧ Cond.static yX8_isPicture ∈ gW ∧ Cond.initialized yX8_isPicture.cls ∈ gW ∧ zOk yX8_isPicture 1 := ⟨q_289, q_288, q_63, by unfold zOk; decide +kernel⟩
theorem mS_X8_isInPicture : Cond.code yX8_isInPicture cX8_isInPicture 2 (Option.some FieldType.boolean) ∈ gW ∧ Cond.static yX8_isInPicture ∈ gW ∧ Cond.initialized yX8_isInPicture.cls ∈ gW ∧ zOk yX8_isInPicture 2 := ⟨q_295, q_294, q_63, by unfold zOk; decide +kernel⟩
theorem mS_X8_isPlace : Cond.code yX8_isPlace cX8_isPlace 1 (Option.some FieldType.boolean) ∈ gW ∧ Cond.static yX8_isPlace ∈ gW ∧ Cond.initialized yX8_isPlace.cls ∈ gW ∧ zOk yX8_isPlace 1 := ⟨q_457, q_456, q_63, by unfold zOk; decide +kernel⟩
theorem mS_X8_isSize : Cond.code yX8_isSize cX8_isSize 1 (Option.some FieldType.boolean) ∈ gW ∧ Cond.static yX8_isSize ∈ gW ∧ Cond.initialized yX8_isSize.cls ∈ gW ∧ zOk yX8_isSize 1 := ⟨q_460, q_459, q_63, by unfold zOk; decide +kernel⟩
theorem mS_X8_shifted : Cond.code yX8_shifted cX8_shifted 2 (Option.some FieldType.int) ∈ gW ∧ Cond.static yX8_shifted ∈ gW ∧ Cond.initialized yX8_shifted.cls ∈ gW ∧ zOk yX8_shifted 2 := ⟨q_331, q_330, q_63, by unfold zOk; decide +kernel⟩
theorem mS_X8_dotMask : Cond.code yX8_dotMask cX8_dotMask 1 (Option.some FieldType.int) ∈ gW ∧ Cond.static yX8_dotMask ∈ gW ∧ Cond.initialized yX8_dotMask.cls ∈ gW ∧ zOk yX8_dotMask 1 := ⟨q_327, q_326, q_63, by unfold zOk; decide +kernel⟩
theorem mS_X8_spanMask : Cond.code yX8_spanMask cX8_spanMask 4 (Option.some FieldType.int) ∈ gW ∧ Cond.static yX8_spanMask ∈ gW ∧ Cond.initialized yX8_spanMask.cls ∈ gW ∧ zOk yX8_spanMask 2 := ⟨q_370, q_369, q_63, by unfold zOk; decide +kernel⟩
theorem mS_X8_joinedRow : Cond.code yX8_joinedRow cX8_joinedRow 6 (Option.some FieldType.int) ∈ gW ∧ Cond.static yX8_joinedRow ∈ gW ∧ Cond.initialized yX8_joinedRow.cls ∈ gW ∧ zOk yX8_joinedRow 4 := ⟨q_510, q_509, q_63, by unfold zOk; decide +kernel⟩
theorem mS_X9_in : Cond.code yX9_in cX9_in 6 (Option.some FieldType.boolean) ∈ gW ∧ Cond.static yX9_in ∈ gW ∧ Cond.initialized yX9_in.cls ∈ gW ∧ zOk yX9_in 3 := ⟨q_877, q_876, q_73, by unfold zOk; decide +kernel⟩
theorem mV_X9_bad : Cond.code yX9_bad cX9_bad 2 (Option.some FieldType.int) ∈ gW ∧ Cond.instanceMethod yX9_bad ∈ gW ∧ Cond.selects yX9_bad.cls yX9_bad yX9_bad ∈ gW ∧ Cond.initialized yX9_bad.cls ∈ gW ∧ zOk yX9_bad 1 := ⟨q_886, q_885, q_26, q_73, by unfold zOk; decide +kernel⟩
theorem mV_X9_no : Cond.code yX9_no cX9_no 1 (Option.some FieldType.int) ∈ gW ∧ Cond.instanceMethod yX9_no ∈ gW ∧ Cond.selects yX9_no.cls yX9_no yX9_no ∈ gW ∧ Cond.initialized yX9_no.cls ∈ gW ∧ zOk yX9_no 0 := ⟨q_1007, q_1006, q_42, q_73, by unfold zOk; decide +kernel⟩
theorem mV_X9_full : Cond.code yX9_full cX9_full 1 (Option.some FieldType.int) ∈ gW ∧ Cond.instanceMethod yX9_full ∈ gW ∧ Cond.selects yX9_full.cls yX9_full yX9_full ∈ gW ∧ Cond.initialized yX9_full.cls ∈ gW ∧ zOk yX9_full 0 := ⟨q_938, q_937, q_31, q_73, by unfold zOk; decide +kernel⟩
theorem mS_X9_isPicture : Cond.code yX9_isPicture cX9_isPicture 1 (Option.some FieldType.boolean) ∈ gW ∧ Cond.static yX9_isPicture ∈ gW ∧ Cond.initialized yX9_isPicture.cls ∈ gW ∧ zOk yX9_isPicture 1 := ⟨q_873, q_872, q_73, by unfold zOk; decide +kernel⟩
theorem mS_X9_isPlace : Cond.code yX9_isPlace cX9_isPlace 2 (Option.some FieldType.boolean) ∈ gW ∧ Cond.static yX9_isPlace ∈ gW ∧ Cond.initialized yX9_isPlace.cls ∈ gW ∧ zOk yX9_isPlace 2 := ⟨q_928, q_927, q_73, by unfold zOk; decide +kernel⟩
theorem mS_X9_isSize : Cond.code yX9_isSize cX9_isSize 2 (Option.some FieldType.boolean) ∈ gW ∧ Cond.static yX9_isSize ∈ gW ∧ Cond.initialized yX9_isSize.cls ∈ gW ∧ zOk yX9_isSize 2 := ⟨q_933, q_932, q_73, by unfold zOk; decide +kernel⟩
theorem mS_X9_isJoin : Cond.code yX9_isJoin cX9_isJoin 1 (Option.some FieldType.boolean) ∈ gW ∧ Cond.static yX9_isJoin ∈ gW ∧ Cond.initialized yX9_isJoin.cls ∈ gW ∧ zOk yX9_isJoin 1 := ⟨q_957, q_956, q_73, by unfold zOk; decide +kernel⟩
theorem mS_X9_isIn : Cond.code yX9_isIn cX9_isIn 2 (Option.some FieldType.boolean) ∈ gW ∧ Cond.static yX9_isIn ∈ gW ∧ Cond.initialized yX9_isIn.cls ∈ gW ∧ zOk yX9_isIn 2 := ⟨q_880, q_879, q_73, by unfold zOk; decide +kernel⟩
theorem mV_X9_keep : Cond.code yX9_keep cX9_keep 2 (Option.none : Option Jvm.ClassFile.FieldType) ∈ gW ∧ Cond.instanceMethod yX9_keep ∈ gW ∧ Cond.selects yX9_keep.cls yX9_keep yX9_keep ∈ gW ∧ Cond.initialized yX9_keep.cls ∈ gW ∧ zOk yX9_keep 0 := ⟨q_890, q_889, q_27, q_73, by unfold zOk; decide +kernel⟩
theorem mS_X9_bitOf : Cond.code yX9_bitOf cX9_bitOf 2 (Option.some FieldType.int) ∈ gW ∧ Cond.static yX9_bitOf ∈ gW ∧ Cond.initialized yX9_bitOf.cls ∈ gW ∧ zOk yX9_bitOf 2 := ⟨q_901, q_900, q_73, by unfold zOk; decide +kernel⟩
theorem mV_X9_dotOf : Cond.code yX9_dotOf cX9_dotOf 4 (Option.some FieldType.int) ∈ gW ∧ Cond.instanceMethod yX9_dotOf ∈ gW ∧ Cond.selects yX9_dotOf.cls yX9_dotOf yX9_dotOf ∈ gW ∧ Cond.initialized yX9_dotOf.cls ∈ gW ∧ zOk yX9_dotOf 3 := ⟨q_898, q_897, q_29, q_73, by unfold zOk; decide +kernel⟩
theorem mV_X9_sets : Cond.code yX9_sets cX9_sets 6 (Option.some FieldType.int) ∈ gW ∧ Cond.instanceMethod yX9_sets ∈ gW ∧ Cond.selects yX9_sets.cls yX9_sets yX9_sets ∈ gW ∧ Cond.initialized yX9_sets.cls ∈ gW ∧ zOk yX9_sets 4 := ⟨q_894, q_893, q_28, q_73, by unfold zOk; decide +kernel⟩
theorem mV_X9_patternAt : Cond.code yX9_patternAt cX9_patternAt 3 (Option.some FieldType.int) ∈ gW ∧ Cond.instanceMethod yX9_patternAt ∈ gW ∧ Cond.selects yX9_patternAt.cls yX9_patternAt yX9_patternAt ∈ gW ∧ Cond.initialized yX9_patternAt.cls ∈ gW ∧ zOk yX9_patternAt 2 := ⟨q_981, q_980, q_39, q_73, by unfold zOk; decide +kernel⟩
theorem mV_X9_isOpen : Cond.code yX9_isOpen cX9_isOpen 6 (Option.some FieldType.boolean) ∈ gW ∧ Cond.instanceMethod yX9_isOpen ∈ gW ∧ Cond.selects yX9_isOpen.cls yX9_isOpen yX9_isOpen ∈ gW ∧ Cond.initialized yX9_isOpen.cls ∈ gW ∧ zOk yX9_isOpen 2 := ⟨q_977, q_976, q_38, q_73, by unfold zOk; decide +kernel⟩
theorem mV_X9_joinsAt : Cond.code yX9_joinsAt cX9_joinsAt 7 (Option.some FieldType.int) ∈ gW ∧ Cond.instanceMethod yX9_joinsAt ∈ gW ∧ Cond.selects yX9_joinsAt.cls yX9_joinsAt yX9_joinsAt ∈ gW ∧ Cond.initialized yX9_joinsAt.cls ∈ gW ∧ zOk yX9_joinsAt 5 := ⟨q_973, q_972, q_37, q_73, by unfold zOk; decide +kernel⟩
theorem mV_X9_dot : Cond.code yX9_dot cX9_dot 6 (Option.some FieldType.int) ∈ gW ∧ Cond.instanceMethod yX9_dot ∈ gW ∧ Cond.selects yX9_dot.cls yX9_dot yX9_dot ∈ gW ∧ Cond.initialized yX9_dot.cls ∈ gW ∧ zOk yX9_dot 4 := ⟨q_870, q_868, q_869, q_73, by unfold zOk; decide +kernel⟩
theorem mV_X9_pattern : Cond.code yX9_pattern cX9_pattern 4 (Option.some FieldType.int) ∈ gW ∧ Cond.instanceMethod yX9_pattern ∈ gW ∧ Cond.selects yX9_pattern.cls yX9_pattern yX9_pattern ∈ gW ∧ Cond.initialized yX9_pattern.cls ∈ gW ∧ zOk yX9_pattern 2 := ⟨q_905, q_903, q_904, q_73, by unfold zOk; decide +kernel⟩
theorem mV_X9_dots : Cond.code yX9_dots cX9_dots 5 (Option.some FieldType.int) ∈ gW ∧ Cond.instanceMethod yX9_dots ∈ gW ∧ Cond.selects yX9_dots.cls yX9_dots yX9_dots ∈ gW ∧ Cond.initialized yX9_dots.cls ∈ gW ∧ zOk yX9_dots 1 := ⟨q_921, q_920, q_30, q_73, by unfold zOk; decide +kernel⟩
theorem mV_X9_draw : Cond.code yX9_draw cX9_draw 9 (Option.some FieldType.int) ∈ gW ∧ Cond.instanceMethod yX9_draw ∈ gW ∧ Cond.selects yX9_draw.cls yX9_draw yX9_draw ∈ gW ∧ Cond.initialized yX9_draw.cls ∈ gW ∧ zOk yX9_draw 2 := ⟨q_911, q_909, q_910, q_73, by unfold zOk; decide +kernel⟩
theorem mV_X9_opens : Cond.code yX9_opens cX9_opens 6 (Option.none : Option Jvm.ClassFile.FieldType) ∈ gW ∧ Cond.instanceMethod yX9_opens ∈ gW ∧ Cond.selects yX9_opens.cls yX9_opens yX9_opens ∈ gW ∧ Cond.initialized yX9_opens.cls ∈ gW ∧ zOk yX9_opens 4 := ⟨q_942, q_941, q_32, q_73, by unfold zOk; decide +kernel⟩
theorem mV_X9_opening : Cond.code yX9_opening cX9_opening 5 (Option.some FieldType.int) ∈ gW ∧ Cond.instanceMethod yX9_opening ∈ gW ∧ Cond.selects yX9_opening.cls yX9_opening yX9_opening ∈ gW ∧ Cond.initialized yX9_opening.cls ∈ gW ∧ zOk yX9_opening 4 := ⟨q_925, q_923, q_924, q_73, by unfold zOk; decide +kernel⟩
theorem mV_X9_shuts : Cond.code yX9_shuts cX9_shuts 3 (Option.some FieldType.int) ∈ gW ∧ Cond.instanceMethod yX9_shuts ∈ gW ∧ Cond.selects yX9_shuts.cls yX9_shuts yX9_shuts ∈ gW ∧ Cond.initialized yX9_shuts.cls ∈ gW ∧ zOk yX9_shuts 0 := ⟨q_950, q_949, q_33, q_73, by unfold zOk; decide +kernel⟩
theorem mV_X9_closes : Cond.code yX9_closes cX9_closes 1 (Option.some FieldType.int) ∈ gW ∧ Cond.instanceMethod yX9_closes ∈ gW ∧ Cond.selects yX9_closes.cls yX9_closes yX9_closes ∈ gW ∧ Cond.initialized yX9_closes.cls ∈ gW ∧ zOk yX9_closes 0 := ⟨q_946, q_944, q_945, q_73, by unfold zOk; decide +kernel⟩
theorem mV_X9_copies : Cond.code yX9_copies cX9_copies 3 (Option.none : Option Jvm.ClassFile.FieldType) ∈ gW ∧ Cond.instanceMethod yX9_copies ∈ gW ∧ Cond.selects yX9_copies.cls yX9_copies yX9_copies ∈ gW ∧ Cond.initialized yX9_copies.cls ∈ gW ∧ zOk yX9_copies 1 := ⟨q_965, q_964, q_35, q_73, by unfold zOk; decide +kernel⟩
theorem mV_X9_asideAt : Cond.code yX9_asideAt cX9_asideAt 4 (Option.some FieldType.int) ∈ gW ∧ Cond.instanceMethod yX9_asideAt ∈ gW ∧ Cond.selects yX9_asideAt.cls yX9_asideAt yX9_asideAt ∈ gW ∧ Cond.initialized yX9_asideAt.cls ∈ gW ∧ zOk yX9_asideAt 3 := ⟨q_969, q_968, q_36, q_73, by unfold zOk; decide +kernel⟩
theorem mV_X9_moves : Cond.code yX9_moves cX9_moves 13 (Option.some FieldType.int) ∈ gW ∧ Cond.instanceMethod yX9_moves ∈ gW ∧ Cond.selects yX9_moves.cls yX9_moves yX9_moves ∈ gW ∧ Cond.initialized yX9_moves.cls ∈ gW ∧ zOk yX9_moves 9 := ⟨q_961, q_960, q_34, q_73, by unfold zOk; decide +kernel⟩
theorem mV_X9_move : Cond.code yX9_move cX9_move 10 (Option.some FieldType.int) ∈ gW ∧ Cond.instanceMethod yX9_move ∈ gW ∧ Cond.selects yX9_move.cls yX9_move yX9_move ∈ gW ∧ Cond.initialized yX9_move.cls ∈ gW ∧ zOk yX9_move 9 := ⟨q_954, q_952, q_953, q_73, by unfold zOk; decide +kernel⟩
theorem mS_X9_size : Cond.code yX9_size cX9_size 1 (Option.some FieldType.int) ∈ gW ∧ Cond.static yX9_size ∈ gW ∧ Cond.initialized yX9_size.cls ∈ gW ∧ zOk yX9_size 1 := ⟨q_992, q_991, q_73, by unfold zOk; decide +kernel⟩
theorem mS_X9_by : Cond.code yX9_by cX9_by 3 (Option.some FieldType.int) ∈ gW ∧ Cond.static yX9_by ∈ gW ∧ Cond.initialized yX9_by.cls ∈ gW ∧ zOk yX9_by 2 := ⟨q_995, q_994, q_73, by unfold zOk; decide +kernel⟩
theorem mV_X9_lines : Cond.code yX9_lines cX9_lines 15 (Option.some FieldType.int) ∈ gW ∧ Cond.instanceMethod yX9_lines ∈ gW ∧ Cond.selects yX9_lines.cls yX9_lines yX9_lines ∈ gW ∧ Cond.initialized yX9_lines.cls ∈ gW ∧ zOk yX9_lines 6 := ⟨q_989, q_988, q_40, q_73, by unfold zOk; decide +kernel⟩
theorem mV_X9_line : Cond.code yX9_line cX9_line 7 (Option.some FieldType.int) ∈ gW ∧ Cond.instanceMethod yX9_line ∈ gW ∧ Cond.selects yX9_line.cls yX9_line yX9_line ∈ gW ∧ Cond.initialized yX9_line.cls ∈ gW ∧ zOk yX9_line 6 := ⟨q_985, q_983, q_984, q_73, by unfold zOk; decide +kernel⟩
theorem mV_X9_comes : Cond.code yX9_comes cX9_comes 3 (Option.none : Option Jvm.ClassFile.FieldType) ∈ gW ∧ Cond.instanceMethod yX9_comes ∈ gW ∧ Cond.selects yX9_comes.cls yX9_comes yX9_comes ∈ gW ∧ Cond.initialized yX9_comes.cls ∈ gW ∧ zOk yX9_comes 2 := ⟨q_1023, q_1022, q_46, q_73, by unfold zOk; decide +kernel⟩
theorem mV_X9_spreads : Cond.code yX9_spreads cX9_spreads 13 (Option.some FieldType.int) ∈ gW ∧ Cond.instanceMethod yX9_spreads ∈ gW ∧ Cond.selects yX9_spreads.cls yX9_spreads yX9_spreads ∈ gW ∧ Cond.initialized yX9_spreads.cls ∈ gW ∧ zOk yX9_spreads 4 := ⟨q_1019, q_1018, q_45, q_73, by unfold zOk; decide +kernel⟩
theorem mV_X9_noneCame : Cond.code yX9_noneCame cX9_noneCame 2 (Option.none : Option Jvm.ClassFile.FieldType) ∈ gW ∧ Cond.instanceMethod yX9_noneCame ∈ gW ∧ Cond.selects yX9_noneCame.cls yX9_noneCame yX9_noneCame ∈ gW ∧ Cond.initialized yX9_noneCame.cls ∈ gW ∧ zOk yX9_noneCame 0 := ⟨q_1015, q_1014, q_44, q_73, by unfold zOk; decide +kernel⟩
theorem mV_X9_mayFlood : Cond.code yX9_mayFlood cX9_mayFlood 3 (Option.some FieldType.boolean) ∈ gW ∧ Cond.instanceMethod yX9_mayFlood ∈ gW ∧ Cond.selects yX9_mayFlood.cls yX9_mayFlood yX9_mayFlood ∈ gW ∧ Cond.initialized yX9_mayFlood.cls ∈ gW ∧ zOk yX9_mayFlood 2 := ⟨q_1003, q_1002, q_41, q_73, by unfold zOk; decide +kernel⟩
theorem mV_X9_floods : Cond.code yX9_floods cX9_floods 8 (Option.some FieldType.int) ∈ gW ∧ Cond.instanceMethod yX9_floods ∈ gW ∧ Cond.selects yX9_floods.cls yX9_floods yX9_floods ∈ gW ∧ Cond.initialized yX9_floods.cls ∈ gW ∧ zOk yX9_floods 3 := ⟨q_1011, q_1010, q_43, q_73, by unfold zOk; decide +kernel⟩
theorem mV_X9_flood : Cond.code yX9_flood cX9_flood 4 (Option.some FieldType.int) ∈ gW ∧ Cond.instanceMethod yX9_flood ∈ gW ∧ Cond.selects yX9_flood.cls yX9_flood yX9_flood ∈ gW ∧ Cond.initialized yX9_flood.cls ∈ gW ∧ zOk yX9_flood 3 := ⟨q_999, q_997, q_998, q_73, by unfold zOk; decide +kernel⟩
theorem mV_X9_rectangles : Cond.code yX9_rectangles cX9_rectangles 10 (Option.some FieldType.int) ∈ gW ∧ Cond.instanceMethod yX9_rectangles ∈ gW ∧ Cond.selects yX9_rectangles.cls yX9_rectangles yX9_rectangles ∈ gW ∧ Cond.initialized yX9_rectangles.cls ∈ gW ∧ zOk yX9_rectangles 6 := ⟨q_1031, q_1030, q_47, q_73, by unfold zOk; decide +kernel⟩
theorem mV_X9_rectangle : Cond.code yX9_rectangle cX9_rectangle 7 (Option.some FieldType.int) ∈ gW ∧ Cond.instanceMethod yX9_rectangle ∈ gW ∧ Cond.selects yX9_rectangle.cls yX9_rectangle yX9_rectangle ∈ gW ∧ Cond.initialized yX9_rectangle.cls ∈ gW ∧ zOk yX9_rectangle 6 := ⟨q_1027, q_1025, q_1026, q_73, by unfold zOk; decide +kernel⟩
theorem mV_X9_letters : Cond.code yX9_letters cX9_letters 10 (Option.some FieldType.int) ∈ gW ∧ Cond.instanceMethod yX9_letters ∈ gW ∧ Cond.selects yX9_letters.cls yX9_letters yX9_letters ∈ gW ∧ Cond.initialized yX9_letters.cls ∈ gW ∧ zOk yX9_letters 5 := ⟨q_1040, q_1039, q_48, q_73, by unfold zOk; decide +kernel⟩
theorem mV_X9_letter : Cond.code yX9_letter cX9_letter 6 (Option.some FieldType.int) ∈ gW ∧ Cond.instanceMethod yX9_letter ∈ gW ∧ Cond.selects yX9_letter.cls yX9_letter yX9_letter ∈ gW ∧ Cond.initialized yX9_letter.cls ∈ gW ∧ zOk yX9_letter 5 := ⟨q_1035, q_1033, q_1034, q_73, by unfold zOk; decide +kernel⟩
theorem mV_X9_joins : Cond.code yX9_joins cX9_joins 4 (Option.some FieldType.int) ∈ gW ∧ Cond.instanceMethod yX9_joins ∈ gW ∧ Cond.selects yX9_joins.cls yX9_joins yX9_joins ∈ gW ∧ Cond.initialized yX9_joins.cls ∈ gW ∧ zOk yX9_joins 3 := ⟨q_1044, q_1042, q_1043, q_73, by unfold zOk; decide +kernel⟩
theorem mV_X9_sides : Cond.code yX9_sides cX9_sides 4 (Option.some FieldType.int) ∈ gW ∧ Cond.instanceMethod yX9_sides ∈ gW ∧ Cond.selects yX9_sides.cls yX9_sides yX9_sides ∈ gW ∧ Cond.initialized yX9_sides.cls ∈ gW ∧ zOk yX9_sides 3 := ⟨q_1057, q_1056, q_50, q_73, by unfold zOk; decide +kernel⟩
theorem mV_X9_changed : Cond.code yX9_changed cX9_changed 7 (Option.some FieldType.int) ∈ gW ∧ Cond.instanceMethod yX9_changed ∈ gW ∧ Cond.selects yX9_changed.cls yX9_changed yX9_changed ∈ gW ∧ Cond.initialized yX9_changed.cls ∈ gW ∧ zOk yX9_changed 4 := ⟨q_1053, q_1052, q_49, q_73, by unfold zOk; decide +kernel⟩
theorem mV_X9_changes : Cond.code yX9_changes cX9_changes 6 (Option.some FieldType.int) ∈ gW ∧ Cond.instanceMethod yX9_changes ∈ gW ∧ Cond.selects yX9_changes.cls yX9_changes yX9_changes ∈ gW ∧ Cond.initialized yX9_changes.cls ∈ gW ∧ zOk yX9_changes 2 := ⟨q_1048, q_1046, q_1047, q_73, by unfold zOk; decide +kernel⟩
theorem mV_X9_rolls : Cond.code yX9_rolls cX9_rolls 7 (Option.some FieldType.int) ∈ gW ∧ Cond.instanceMethod yX9_rolls ∈ gW ∧ Cond.selects yX9_rolls.cls yX9_rolls yX9_rolls ∈ gW ∧ Cond.initialized yX9_rolls.cls ∈ gW ∧ zOk yX9_rolls 3 := ⟨q_1061, q_1059, q_1060, q_73, by unfold zOk; decide +kernel⟩
theorem mV_X9_at : Cond.code yX9_at cX9_at 4 (Option.some FieldType.int) ∈ gW ∧ Cond.instanceMethod yX9_at ∈ gW ∧ Cond.selects yX9_at.cls yX9_at yX9_at ∈ gW ∧ Cond.initialized yX9_at.cls ∈ gW ∧ zOk yX9_at 3 := ⟨q_1066, q_1064, q_1065, q_73, by unfold zOk; decide +kernel⟩
theorem mV_X9_row : Cond.code yX9_row cX9_row 3 (Option.some FieldType.int) ∈ gW ∧ Cond.instanceMethod yX9_row ∈ gW ∧ Cond.selects yX9_row.cls yX9_row yX9_row ∈ gW ∧ Cond.initialized yX9_row.cls ∈ gW ∧ zOk yX9_row 2 := ⟨q_1070, q_1068, q_1069, q_73, by unfold zOk; decide +kernel⟩
theorem mV_X9_partsOf : Cond.code yX9_partsOf cX9_partsOf 5 (Option.some FieldType.int) ∈ gW ∧ Cond.instanceMethod yX9_partsOf ∈ gW ∧ Cond.selects yX9_partsOf.cls yX9_partsOf yX9_partsOf ∈ gW ∧ Cond.initialized yX9_partsOf.cls ∈ gW ∧ zOk yX9_partsOf 1 := ⟨q_1079, q_1078, q_51, q_73, by unfold zOk; decide +kernel⟩
theorem mV_X9_edge : Cond.code yX9_edge cX9_edge 8 (Option.some FieldType.int) ∈ gW ∧ Cond.instanceMethod yX9_edge ∈ gW ∧ Cond.selects yX9_edge.cls yX9_edge yX9_edge ∈ gW ∧ Cond.initialized yX9_edge.cls ∈ gW ∧ zOk yX9_edge 3 := ⟨q_1087, q_1086, q_53, q_73, by unfold zOk; decide +kernel⟩
theorem mV_X9_openDots : Cond.code yX9_openDots cX9_openDots 3 (Option.some FieldType.int) ∈ gW ∧ Cond.instanceMethod yX9_openDots ∈ gW ∧ Cond.selects yX9_openDots.cls yX9_openDots yX9_openDots ∈ gW ∧ Cond.initialized yX9_openDots.cls ∈ gW ∧ zOk yX9_openDots 0 := ⟨q_1083, q_1082, q_52, q_73, by unfold zOk; decide +kernel⟩
theorem mV_X9_of : Cond.code yX9_of cX9_of 3 (Option.some FieldType.int) ∈ gW ∧ Cond.instanceMethod yX9_of ∈ gW ∧ Cond.selects yX9_of.cls yX9_of yX9_of ∈ gW ∧ Cond.initialized yX9_of.cls ∈ gW ∧ zOk yX9_of 2 := ⟨q_1074, q_1072, q_1073, q_73, by unfold zOk; decide +kernel⟩
theorem mV_X9_count : Cond.code yX9_count cX9_count 9 (Option.some FieldType.int) ∈ gW ∧ Cond.instanceMethod yX9_count ∈ gW ∧ Cond.selects yX9_count.cls yX9_count yX9_count ∈ gW ∧ Cond.initialized yX9_count.cls ∈ gW ∧ zOk yX9_count 5 := ⟨q_1091, q_1089, q_1090, q_73, by unfold zOk; decide +kernel⟩
theorem mV_X9_unlike : Cond.code yX9_unlike cX9_unlike 5 (Option.some FieldType.int) ∈ gW ∧ Cond.instanceMethod yX9_unlike ∈ gW ∧ Cond.selects yX9_unlike.cls yX9_unlike yX9_unlike ∈ gW ∧ Cond.initialized yX9_unlike.cls ∈ gW ∧ zOk yX9_unlike 2 := ⟨q_1095, q_1093, q_1094, q_73, by unfold zOk; decide +kernel⟩
theorem mV_X9_isLike : Cond.code yX9_isLike cX9_isLike 12 (Option.some FieldType.boolean) ∈ gW ∧ Cond.instanceMethod yX9_isLike ∈ gW ∧ Cond.selects yX9_isLike.cls yX9_isLike yX9_isLike ∈ gW ∧ Cond.initialized yX9_isLike.cls ∈ gW ∧ zOk yX9_isLike 8 := ⟨q_1104, q_1103, q_54, q_73, by unfold zOk; decide +kernel⟩
theorem mV_X9_finds : Cond.code yX9_finds cX9_finds 10 (Option.some FieldType.int) ∈ gW ∧ Cond.instanceMethod yX9_finds ∈ gW ∧ Cond.selects yX9_finds.cls yX9_finds yX9_finds ∈ gW ∧ Cond.initialized yX9_finds.cls ∈ gW ∧ zOk yX9_finds 6 := ⟨q_1099, q_1097, q_1098, q_73, by unfold zOk; decide +kernel⟩
theorem mV_X9_open : Cond.code yX9_open cX9_open 3 (Option.some FieldType.int) ∈ gW ∧ Cond.instanceMethod yX9_open ∈ gW ∧ Cond.selects yX9_open.cls yX9_open yX9_open ∈ gW ∧ Cond.initialized yX9_open.cls ∈ gW ∧ zOk yX9_open 2 := ⟨q_1108, q_1106, q_1107, q_73, by unfold zOk; decide +kernel⟩
theorem mV_X9_type : Cond.code yX9_type cX9_type 2 (Option.some FieldType.int) ∈ gW ∧ Cond.instanceMethod yX9_type ∈ gW ∧ Cond.selects yX9_type.cls yX9_type yX9_type ∈ gW ∧ Cond.initialized yX9_type.cls ∈ gW ∧ zOk yX9_type 1 := ⟨q_1112, q_1110, q_1111, q_73, by unfold zOk; decide +kernel⟩
theorem mV_X9_clear : Cond.code yX9_clear cX9_clear 2 (Option.some FieldType.int) ∈ gW ∧ Cond.instanceMethod yX9_clear ∈ gW ∧ Cond.selects yX9_clear.cls yX9_clear yX9_clear ∈ gW ∧ Cond.initialized yX9_clear.cls ∈ gW ∧ zOk yX9_clear 0 := ⟨q_1117, q_1115, q_1116, q_73, by unfold zOk; decide +kernel⟩
theorem mV_X9_skip : Cond.code yX9_skip cX9_skip 1 (Option.none : Option Jvm.ClassFile.FieldType) ∈ gW ∧ Cond.instanceMethod yX9_skip ∈ gW ∧ Cond.selects yX9_skip.cls yX9_skip yX9_skip ∈ gW ∧ Cond.initialized yX9_skip.cls ∈ gW ∧ zOk yX9_skip 0 := ⟨q_1133, q_1132, q_57, q_73, by unfold zOk; decide +kernel⟩
theorem mV_X9_isByte : Cond.code yX9_isByte cX9_isByte 4 (Option.some FieldType.boolean) ∈ gW ∧ Cond.instanceMethod yX9_isByte ∈ gW ∧ Cond.selects yX9_isByte.cls yX9_isByte yX9_isByte ∈ gW ∧ Cond.initialized yX9_isByte.cls ∈ gW ∧ zOk yX9_isByte 3 := ⟨q_1150, q_1149, q_59, q_73, by unfold zOk; decide +kernel⟩
theorem mS_X9_sortsOf : Cond.code yX9_sortsOf cX9_sortsOf 1 (Option.some FieldType.int) ∈ gW ∧ Cond.static yX9_sortsOf ∈ gW ∧ Cond.initialized yX9_sortsOf.cls ∈ gW ∧ zOk yX9_sortsOf 1 := ⟨q_1139, q_1138, q_73, by unfold zOk; decide +kernel⟩
theorem mS_X9_manyOf : Cond.code yX9_manyOf cX9_manyOf 1 (Option.some FieldType.int) ∈ gW ∧ Cond.static yX9_manyOf ∈ gW ∧ Cond.initialized yX9_manyOf.cls ∈ gW ∧ zOk yX9_manyOf 1 := ⟨q_1136, q_1135, q_73, by unfold zOk; decide +kernel⟩
theorem mS_X9_isAs : Cond.code yX9_isAs cX9_isAs 2 (Option.some FieldType.boolean) ∈ gW ∧ Cond.static yX9_isAs ∈ gW ∧ Cond.initialized yX9_isAs.cls ∈ gW ∧ zOk yX9_isAs 2 := ⟨q_1154, q_1153, q_73, by unfold zOk; decide +kernel⟩
theorem mV_X9_takes : Cond.code yX9_takes cX9_takes 11 (Option.some FieldType.boolean) ∈ gW ∧ Cond.instanceMethod yX9_takes ∈ gW ∧ Cond.selects yX9_takes.cls yX9_takes yX9_takes ∈ gW ∧ Cond.initialized yX9_takes.cls ∈ gW ∧ zOk yX9_takes 2 := ⟨q_1146, q_1145, q_58, q_73, by unfold zOk; decide +kernel⟩
theorem mV_X9_reads : Cond.code yX9_reads cX9_reads 7 (Option.some FieldType.int) ∈ gW ∧ Cond.instanceMethod yX9_reads ∈ gW ∧ Cond.selects yX9_reads.cls yX9_reads yX9_reads ∈ gW ∧ Cond.initialized yX9_reads.cls ∈ gW ∧ zOk yX9_reads 1 := ⟨q_1129, q_1128, q_56, q_73, by unfold zOk; decide +kernel⟩
theorem mV_X9_doesOne : Cond.code yX9_doesOne cX9_doesOne 3 (Option.some FieldType.int) ∈ gW ∧ Cond.instanceMethod yX9_doesOne ∈ gW ∧ Cond.selects yX9_doesOne.cls yX9_doesOne yX9_doesOne ∈ gW ∧ Cond.initialized yX9_doesOne.cls ∈ gW ∧ zOk yX9_doesOne 1 := ⟨q_1158, q_1157, q_60, q_73, by unfold zOk; decide +kernel⟩
theorem mV_X9_goesThrough : Cond.code yX9_goesThrough cX9_goesThrough 6 (Option.some FieldType.int) ∈ gW ∧ Cond.instanceMethod yX9_goesThrough ∈ gW ∧ Cond.selects yX9_goesThrough.cls yX9_goesThrough yX9_goesThrough ∈ gW ∧ Cond.initialized yX9_goesThrough.cls ∈ gW ∧ zOk yX9_goesThrough 1 := ⟨q_1125, q_1124, q_55, q_73, by unfold zOk; decide +kernel⟩
theorem mV_X9_does : Cond.code yX9_does cX9_does 1 (Option.some FieldType.int) ∈ gW ∧ Cond.instanceMethod yX9_does ∈ gW ∧ Cond.selects yX9_does.cls yX9_does yX9_does ∈ gW ∧ Cond.initialized yX9_does.cls ∈ gW ∧ zOk yX9_does 0 := ⟨q_1121, q_1119, q_1120, q_73, by unfold zOk; decide +kernel⟩
theorem mV_X9_back : Cond.code yX9_back cX9_back 2 (Option.some FieldType.int) ∈ gW ∧ Cond.instanceMethod yX9_back ∈ gW ∧ Cond.selects yX9_back.cls yX9_back yX9_back ∈ gW ∧ Cond.initialized yX9_back.cls ∈ gW ∧ zOk yX9_back 0 := ⟨q_1162, q_1160, q_1161, q_73, by unfold zOk; decide +kernel⟩
theorem mV_X9_toldOf : Cond.code yX9_toldOf cX9_toldOf 2 (Option.some FieldType.int) ∈ gW ∧ Cond.instanceMethod yX9_toldOf ∈ gW ∧ Cond.selects yX9_toldOf.cls yX9_toldOf yX9_toldOf ∈ gW ∧ Cond.initialized yX9_toldOf.cls ∈ gW ∧ zOk yX9_toldOf 1 := ⟨q_1171, q_1170, q_61, q_73, by unfold zOk; decide +kernel⟩
theorem mV_X9_told : Cond.code yX9_told cX9_told 2 (Option.some FieldType.int) ∈ gW ∧ Cond.instanceMethod yX9_told ∈ gW ∧ Cond.selects yX9_told.cls yX9_told yX9_told ∈ gW ∧ Cond.initialized yX9_told.cls ∈ gW ∧ zOk yX9_told 1 := ⟨q_1166, q_1164, q_1165, q_73, by unfold zOk; decide +kernel⟩
theorem mV_X9_digest : Cond.code yX9_digest cX9_digest 4 (Option.some FieldType.long) ∈ gW ∧ Cond.instanceMethod yX9_digest ∈ gW ∧ Cond.selects yX9_digest.cls yX9_digest yX9_digest ∈ gW ∧ Cond.initialized yX9_digest.cls ∈ gW ∧ zOk yX9_digest 0 := ⟨q_1175, q_1173, q_1174, q_73, by unfold zOk; decide +kernel⟩
theorem mS_J6_bitCount_0f7a4 : Cond.code yJ6_bitCount_0f7a4 cJ6_bitCount_0f7a4 1 (Option.some FieldType.int) ∈ gW ∧ Cond.static yJ6_bitCount_0f7a4 ∈ gW ∧ Cond.initialized yJ6_bitCount_0f7a4.cls ∈ gW ∧ zOk yJ6_bitCount_0f7a4 1 := ⟨q_378, q_377, q_76, by unfold zOk; decide +kernel⟩
theorem mS_J9_floorDiv_7cf53 : Cond.code yJ9_floorDiv_7cf53 cJ9_floorDiv_7cf53 3 (Option.some FieldType.int) ∈ gW ∧ Cond.static yJ9_floorDiv_7cf53 ∈ gW ∧ Cond.initialized yJ9_floorDiv_7cf53.cls ∈ gW ∧ zOk yJ9_floorDiv_7cf53 2 := ⟨q_529, q_528, q_75, by unfold zOk; decide +kernel⟩
theorem mS_J9_floorMod_7cf53 : Cond.code yJ9_floorMod_7cf53 cJ9_floorMod_7cf53 3 (Option.some FieldType.int) ∈ gW ∧ Cond.static yJ9_floorMod_7cf53 ∈ gW ∧ Cond.initialized yJ9_floorMod_7cf53.cls ∈ gW ∧ zOk yJ9_floorMod_7cf53 2 := ⟨q_646, q_645, q_75, by unfold zOk; decide +kernel⟩
theorem mS_J9_abs_0f7a4 : Cond.code yJ9_abs_0f7a4 cJ9_abs_0f7a4 1 (Option.some FieldType.int) ∈ gW ∧ Cond.static yJ9_abs_0f7a4 ∈ gW ∧ Cond.initialized yJ9_abs_0f7a4.cls ∈ gW ∧ zOk yJ9_abs_0f7a4 1 := ⟨q_522, q_521, q_75, by unfold zOk; decide +kernel⟩
theorem mS_J9_max_7cf53 : Cond.code yJ9_max_7cf53 cJ9_max_7cf53 2 (Option.some FieldType.int) ∈ gW ∧ Cond.static yJ9_max_7cf53 ∈ gW ∧ Cond.initialized yJ9_max_7cf53.cls ∈ gW ∧ zOk yJ9_max_7cf53 2 := ⟨q_373, q_372, q_75, by unfold zOk; decide +kernel⟩
theorem mS_J9_min_7cf53 : Cond.code yJ9_min_7cf53 cJ9_min_7cf53 2 (Option.some FieldType.int) ∈ gW ∧ Cond.static yJ9_min_7cf53 ∈ gW ∧ Cond.initialized yJ9_min_7cf53.cls ∈ gW ∧ zOk yJ9_min_7cf53 2 := ⟨q_313, q_312, q_75, by unfold zOk; decide +kernel⟩
theorem mV_J0_length_8abf5 : Cond.code yJ0_length_8abf5 cJ0_length_8abf5 1 (Option.some FieldType.int) ∈ gW ∧ Cond.instanceMethod yJ0_length_8abf5 ∈ gW ∧ Cond.selects yJ0_length_8abf5.cls yJ0_length_8abf5 yJ0_length_8abf5 ∈ gW ∧ Cond.initialized yJ0_length_8abf5.cls ∈ gW ∧ zOk yJ0_length_8abf5 0 := ⟨q_406, q_404, q_405, q_77, by unfold zOk; decide +kernel⟩
theorem mV_J0_isEmpty_aae02 : Cond.code yJ0_isEmpty_aae02 cJ0_isEmpty_aae02 1 (Option.some FieldType.boolean) ∈ gW ∧ Cond.instanceMethod yJ0_isEmpty_aae02 ∈ gW ∧ Cond.selects yJ0_isEmpty_aae02.cls yJ0_isEmpty_aae02 yJ0_isEmpty_aae02 ∈ gW ∧ Cond.initialized yJ0_isEmpty_aae02.cls ∈ gW ∧ zOk yJ0_isEmpty_aae02 0 := ⟨q_782, q_780, q_781, q_77, by unfold zOk; decide +kernel⟩
theorem mV_J0_charAt_5068e : Cond.code yJ0_charAt_5068e cJ0_charAt_5068e 2 (Option.some FieldType.char) ∈ gW ∧ Cond.instanceMethod yJ0_charAt_5068e ∈ gW ∧ Cond.selects yJ0_charAt_5068e.cls yJ0_charAt_5068e yJ0_charAt_5068e ∈ gW ∧ Cond.initialized yJ0_charAt_5068e.cls ∈ gW ∧ zOk yJ0_charAt_5068e 1 := ⟨q_416, q_414, q_415, q_77, by unfold zOk; decide +kernel⟩
theorem mV_J0_coder_7d493 : Cond.code yJ0_coder_7d493 cJ0_coder_7d493 1 (Option.some FieldType.byte) ∈ gW ∧ Cond.instanceMethod yJ0_coder_7d493 ∈ gW ∧ Cond.selects yJ0_coder_7d493.cls yJ0_coder_7d493 yJ0_coder_7d493 ∈ gW ∧ Cond.initialized yJ0_coder_7d493.cls ∈ gW ∧ zOk yJ0_coder_7d493 0 := ⟨q_410, q_408, q_409, q_77, by unfold zOk; decide +kernel⟩
theorem mV_J0_isLatin1_aae02 : Cond.code yJ0_isLatin1_aae02 cJ0_isLatin1_aae02 1 (Option.some FieldType.boolean) ∈ gW ∧ Cond.instanceMethod yJ0_isLatin1_aae02 ∈ gW ∧ Cond.selects yJ0_isLatin1_aae02.cls yJ0_isLatin1_aae02 yJ0_isLatin1_aae02 ∈ gW ∧ Cond.initialized yJ0_isLatin1_aae02.cls ∈ gW ∧ zOk yJ0_isLatin1_aae02 0 := ⟨q_420, q_418, q_419, q_77, by unfold zOk; decide +kernel⟩
theorem mS_J0_checkIndex_df160 : Cond.code yJ0_checkIndex_df160 cJ0_checkIndex_df160 2 (Option.none : Option Jvm.ClassFile.FieldType) ∈ gW ∧ Cond.static yJ0_checkIndex_df160 ∈ gW ∧ Cond.initialized yJ0_checkIndex_df160.cls ∈ gW ∧ zOk yJ0_checkIndex_df160 2 := ⟨q_426, q_425, q_77, by unfold zOk; decide +kernel⟩
theorem mS_J1_charAt_3b067 : Cond.code yJ1_charAt_3b067 cJ1_charAt_3b067 2 (Option.some FieldType.char) ∈ gW ∧ Cond.static yJ1_charAt_3b067 ∈ gW ∧ Cond.initialized yJ1_charAt_3b067.cls ∈ gW ∧ zOk yJ1_charAt_3b067 2 := ⟨q_423, q_422, q_78, by unfold zOk; decide +kernel⟩
theorem mS_J2_getChar_3b067 : Cond.code yJ2_getChar_3b067 cJ2_getChar_3b067 2 (Option.some FieldType.char) ∈ gW ∧ Cond.static yJ2_getChar_3b067 ∈ gW ∧ Cond.initialized yJ2_getChar_3b067.cls ∈ gW ∧ zOk yJ2_getChar_3b067 2 := ⟨q_444, q_443, q_80, by unfold zOk; decide +kernel⟩
theorem mS_J2_length_9d52b : Cond.code yJ2_length_9d52b cJ2_length_9d52b 1 (Option.some FieldType.int) ∈ gW ∧ Cond.static yJ2_length_9d52b ∈ gW ∧ Cond.initialized yJ2_length_9d52b.cls ∈ gW ∧ zOk yJ2_length_9d52b 1 := ⟨q_440, q_439, q_80, by unfold zOk; decide +kernel⟩
theorem mS_J2_charAt_3b067 : Cond.code yJ2_charAt_3b067 cJ2_charAt_3b067 2 (Option.some FieldType.char) ∈ gW ∧ Cond.static yJ2_charAt_3b067 ∈ gW ∧ Cond.initialized yJ2_charAt_3b067.cls ∈ gW ∧ zOk yJ2_charAt_3b067 2 := ⟨q_434, q_433, q_80, by unfold zOk; decide +kernel⟩
theorem mS_J2_checkIndex_2214a : Cond.code yJ2_checkIndex_2214a cJ2_checkIndex_2214a 2 (Option.none : Option Jvm.ClassFile.FieldType) ∈ gW ∧ Cond.static yJ2_checkIndex_2214a ∈ gW ∧ Cond.initialized yJ2_checkIndex_2214a.cls ∈ gW ∧ zOk yJ2_checkIndex_2214a 2 := ⟨q_437, q_436, q_80, by unfold zOk; decide +kernel⟩
theorem mS_J7_fill_53178 : Cond.code yJ7_fill_53178 cJ7_fill_53178 4 (Option.none : Option Jvm.ClassFile.FieldType) ∈ gW ∧ Cond.static yJ7_fill_53178 ∈ gW ∧ Cond.initialized yJ7_fill_53178.cls ∈ gW ∧ zOk yJ7_fill_53178 2 := ⟨q_97, q_96, q_65, by unfold zOk; decide +kernel⟩
theorem mS_J3_checkIndex_8e157 : Cond.code yJ3_checkIndex_8e157 cJ3_checkIndex_8e157 3 (Option.some FieldType.int) ∈ gW ∧ Cond.static yJ3_checkIndex_8e157 ∈ gW ∧ Cond.initialized yJ3_checkIndex_8e157.cls ∈ gW ∧ zOk yJ3_checkIndex_8e157 3 := ⟨q_431, q_430, q_79, by unfold zOk; decide +kernel⟩
theorem z00 {X : zX} : 0 ≤ (xR X).cells ∧ 0 ≤ (xR X).slots := ⟨Nat.zero_le _, Nat.zero_le _⟩
theorem pI.mk {r r0 : Int32} {ws w0 : va_W} (h : r = r0) (hw : ws = w0) : pI r0 w0 (some (.int r)) ws := ⟨by rw [h], hw⟩
theorem pL.mk {r r0 : Int64} {ws w0 : va_W} (h : r = r0) (hw : ws = w0) : pL r0 w0 (some (.long r)) ws := ⟨by rw [h], hw⟩
theorem pV.mk {ws w0 : va_W} (hw : ws = w0) : pV w0 none ws := ⟨rfl, hw⟩
theorem pR.mk {r r0 : Nat} {ws w0 : va_W} (h : r = r0) (hw : ws = w0) : pR r0 w0 (some (.ref r)) ws := ⟨by rw [h], hw⟩
theorem zput_id : ∀ (is : List Nat) (ws wc : va_W), is.map (fun i => ws[i]?) = wc.map some → zput ws is wc = ws
  | [], ws, wc, _ => by cases wc <;> rfl
  | _ :: _, ws, [], _ => rfl
  | i :: is, ws, q :: wc, h => by
    simp only [List.map_cons, List.cons.injEq] at h
    have e : ws.set i q = ws := by
      apply List.ext_getElem?
      intro j
      by_cases hj : i = j
      · subst hj
        rw [List.getElem?_set]
        have hlt : i < ws.length := by
          rcases Nat.lt_or_ge i ws.length with z | z
          · exact z
          · rw [List.getElem?_eq_none z] at h; cases h.1
        simp [hlt] at h ⊢
        rw [← h.1]
      · rw [List.getElem?_set_ne hj]
    show zput (ws.set i q) is wc = ws
    rw [e]
    exact zput_id is ws wc h.2
theorem pI.stay {r : Int32} {w0 : va_W} {X : zX} {G : zG} {nL k n pc : Nat} {ws : va_W} {is : List Nat} {lv : List (Nat × Value)} {rest : List Value} (hC : is.map (fun i => ws[i]?) = w0.map some) (kk : Z X G nL k n ws pc lv (.int r :: rest)) : ∀ v w, pI r w0 v w → Z X G nL k n (zput ws is w) pc lv (zpush v rest) := pI.go (zput_id is ws w0 hC) kk
theorem pL.stay {r : Int64} {w0 : va_W} {X : zX} {G : zG} {nL k n pc : Nat} {ws : va_W} {is : List Nat} {lv : List (Nat × Value)} {rest : List Value} (hC : is.map (fun i => ws[i]?) = w0.map some) (kk : Z X G nL k n ws pc lv (.long r :: rest)) : ∀ v w, pL r w0 v w → Z X G nL k n (zput ws is w) pc lv (zpush v rest) := pL.go (zput_id is ws w0 hC) kk
theorem pR.stay {r : Nat} {w0 : va_W} {X : zX} {G : zG} {nL k n pc : Nat} {ws : va_W} {is : List Nat} {lv : List (Nat × Value)} {rest : List Value} (hC : is.map (fun i => ws[i]?) = w0.map some) (kk : Z X G nL k n ws pc lv (.ref r :: rest)) : ∀ v w, pR r w0 v w → Z X G nL k n (zput ws is w) pc lv (zpush v rest) := pR.go (zput_id is ws w0 hC) kk
theorem pV.stay {w0 : va_W} {X : zX} {G : zG} {nL k n pc : Nat} {ws : va_W} {is : List Nat} {lv : List (Nat × Value)} {rest : List Value} (hC : is.map (fun i => ws[i]?) = w0.map some) (kk : Z X G nL k n ws pc lv rest) : ∀ v w, pV w0 v w → Z X G nL k n (zput ws is w) pc lv (zpush v rest) := pV.go (zput_id is ws w0 hC) kk

def wSc (G : zG) (so sr sp sq : Nat) (rows pat ops : Nat → Int32) (cnt : Int32) : va_W := [(so, .inr (6, [.ref sr, .ref sp, .ref sq, .int cnt])), (sr, .inl (cI G, 72, .inl rows)), (sp, .inl (cI G, 8, .inl pat)), (sq, .inl (cI G, 16, .inl ops))]
def wPa (G : zG) (po pl pr pd : Nat) (left srow sdot : Nat → Int32) (steps : Int32) : va_W := [(po, .inr (4, [.ref pl, .ref pr, .ref pd, .int steps])), (pl, .inl (cI G, 24, .inl left)), (pr, .inl (cI G, 384, .inl srow)), (pd, .inl (cI G, 384, .inl sdot))]
def wOr (G : zG) (oo on : Nat) (nums : Nat → Int32) (sign : Int32) (kix : Nat) (osz aw : Int32) : va_W := [(oo, .inr (1, [.ref on, .int sign, .ref (aK G kix), .int osz, .int aw])), (on, .inl (cI G, 9, .inl nums))]
def wTx (G : zG) (xo xb : Nat) (bytes : Nat → Int32) (len place num : Int32) : va_W := [(xo, .inr (2, [.ref xb, .int len, .int place, .int num])), (xb, .inl (cB G, 120, .inl bytes))]
def wPt (G : zG) (to ts tl so po : Nat) (source like : Nat → Int32) : va_W := [(to, .inr (3, [.ref so, .ref po, .ref ts, .ref tl])), (ts, .inl (cI G, 24, .inl source)), (tl, .inl (cI G, 24, .inl like))]
def wWh (G : zG) (ho hc so : Nat) (comes : Nat → Int32) : va_W := [(ho, .inr (7, [.ref so, .ref hc])), (hc, .inl (cI G, 24, .inl comes))]
def wMe (G : zG) (mo mb so po : Nat) (block : Nat → Int32) : va_W := [(mo, .inr (0, [.ref so, .ref po, .ref mb])), (mb, .inl (cI G, 8, .inl block))]
def wMd (G : zG) (da dn dp dr ds dl dc dt dg : Nat) (now past : Nat → Int32) (states : Int32) (refused aside pile came : Nat → Int32) (pileL : Int32) (text : Nat → Int32) (textL place : Int32) (nargs : Nat → Int32) : va_W := [(da, .inr (9, [.ref dn, .ref dp, .int states, .ref dr, .ref ds, .ref dl, .ref dc, .int pileL, .ref dt, .int textL, .int place, .ref dg])), (dn, .inl (cI G, 97, .inl now)), (dp, .inl (cI G, 582, .inl past)), (dr, .inl (cI G, 3, .inl refused)), (ds, .inl (cI G, 72, .inl aside)), (dl, .inl (cI G, 768, .inl pile)), (dc, .inl (cZ G, 768, .inl came)), (dt, .inl (cI G, 120, .inl text)), (dg, .inl (cI G, 9, .inl nargs))]
end
section
def f_J9_max_7cf53 (a : Int32) (b : Int32) : Int32 := if a < b then b else a
set_option maxRecDepth 100000 in
theorem c_J9_max_7cf53 {l : Launch} {G : zG} {a : Int32} {b : Int32} : Ct l G yJ9_max_7cf53 cJ9_max_7cf53 2 (Option.some FieldType.int) 0 0 [.int a, .int b] ([]) (pI (f_J9_max_7cf53 a b) ([])) := by
  refine Ct.of (by decide +kernel) (Nat.le_of_ble_eq_true rfl) (pI.ad rfl) (fun X C E => ?_)
  show Z X G 2 0 0 _ 0 [(0, .int a), (1, .int b)] []
  refine z_iload_n (pc := 0) C 0 dJ9_max_7cf53_0 rfl ?_
  refine z_iload_n (pc := 1) C 1 dJ9_max_7cf53_1 rfl ?_
  refine z_icmp_lt (pc := 2) 9 C dJ9_max_7cf53_2 (by decide) (fun c_2 => ?_) (fun c_2 => ?_)
  · skip
    refine z_iload_n (pc := 9) C 1 dJ9_max_7cf53_9 rfl ?_
    exact z_iret (pc := 10) C E dJ9_max_7cf53_10 (pI.mk (by simp only [f_J9_max_7cf53, if_pos c_2]) rfl)
  · skip
    refine z_iload_n (pc := 5) C 0 dJ9_max_7cf53_5 rfl ?_
    refine z_goto (pc := 6) 10 C dJ9_max_7cf53_6 (by decide) ?_
    exact z_iret (pc := 10) C E dJ9_max_7cf53_10 (pI.mk (by simp only [f_J9_max_7cf53, if_neg c_2]) rfl)

def f_J9_min_7cf53 (a : Int32) (b : Int32) : Int32 := if b < a then b else a
set_option maxRecDepth 100000 in
theorem c_J9_min_7cf53 {l : Launch} {G : zG} {a : Int32} {b : Int32} : Ct l G yJ9_min_7cf53 cJ9_min_7cf53 2 (Option.some FieldType.int) 0 0 [.int a, .int b] ([]) (pI (f_J9_min_7cf53 a b) ([])) := by
  refine Ct.of (by decide +kernel) (Nat.le_of_ble_eq_true rfl) (pI.ad rfl) (fun X C E => ?_)
  show Z X G 2 0 0 _ 0 [(0, .int a), (1, .int b)] []
  refine z_iload_n (pc := 0) C 0 dJ9_min_7cf53_0 rfl ?_
  refine z_iload_n (pc := 1) C 1 dJ9_min_7cf53_1 rfl ?_
  refine z_icmp_gt (pc := 2) 9 C dJ9_min_7cf53_2 (by decide) (fun c_2 => ?_) (fun c_2 => ?_)
  · skip
    refine z_iload_n (pc := 9) C 1 dJ9_min_7cf53_9 rfl ?_
    exact z_iret (pc := 10) C E dJ9_min_7cf53_10 (pI.mk (by simp only [f_J9_min_7cf53, if_pos c_2]) rfl)
  · skip
    refine z_iload_n (pc := 5) C 0 dJ9_min_7cf53_5 rfl ?_
    refine z_goto (pc := 6) 10 C dJ9_min_7cf53_6 (by decide) ?_
    exact z_iret (pc := 10) C E dJ9_min_7cf53_10 (pI.mk (by simp only [f_J9_min_7cf53, if_neg c_2]) rfl)

def f_J9_abs_0f7a4 (a : Int32) : Int32 := if 0 ≤ a then a else -a
set_option maxRecDepth 100000 in
theorem c_J9_abs_0f7a4 {l : Launch} {G : zG} {a : Int32} : Ct l G yJ9_abs_0f7a4 cJ9_abs_0f7a4 1 (Option.some FieldType.int) 0 0 [.int a] ([]) (pI (f_J9_abs_0f7a4 a) ([])) := by
  refine Ct.of (by decide +kernel) (Nat.le_of_ble_eq_true rfl) (pI.ad rfl) (fun X C E => ?_)
  show Z X G 1 0 0 _ 0 [(0, .int a)] []
  refine z_iload_n (pc := 0) C 0 dJ9_abs_0f7a4_0 rfl ?_
  refine z_if_ge (pc := 1) 9 C dJ9_abs_0f7a4_1 (by decide) (fun c_1 => ?_) (fun c_1 => ?_)
  · skip
    refine z_iload_n (pc := 9) C 0 dJ9_abs_0f7a4_9 rfl ?_
    exact z_iret (pc := 10) C E dJ9_abs_0f7a4_10 (pI.mk (by simp only [f_J9_abs_0f7a4, if_pos c_1]) rfl)
  · skip
    refine z_iload_n (pc := 4) C 0 dJ9_abs_0f7a4_4 rfl ?_
    refine z_ineg (pc := 5) C dJ9_abs_0f7a4_5 ?_
    refine z_goto (pc := 6) 10 C dJ9_abs_0f7a4_6 (by decide) ?_
    exact z_iret (pc := 10) C E dJ9_abs_0f7a4_10 (pI.mk (by simp only [f_J9_abs_0f7a4, if_neg c_1]) rfl)

def f_J6_bitCount_0f7a4 (i : Int32) : Int32 := (((((((i - ((uShr i 1) &&& 1431655765)) &&& 858993459) + ((uShr (i - ((uShr i 1) &&& 1431655765)) 2) &&& 858993459)) + (uShr (((i - ((uShr i 1) &&& 1431655765)) &&& 858993459) + ((uShr (i - ((uShr i 1) &&& 1431655765)) 2) &&& 858993459)) 4)) &&& 252645135) + (uShr (((((i - ((uShr i 1) &&& 1431655765)) &&& 858993459) + ((uShr (i - ((uShr i 1) &&& 1431655765)) 2) &&& 858993459)) + (uShr (((i - ((uShr i 1) &&& 1431655765)) &&& 858993459) + ((uShr (i - ((uShr i 1) &&& 1431655765)) 2) &&& 858993459)) 4)) &&& 252645135) 8)) + (uShr ((((((i - ((uShr i 1) &&& 1431655765)) &&& 858993459) + ((uShr (i - ((uShr i 1) &&& 1431655765)) 2) &&& 858993459)) + (uShr (((i - ((uShr i 1) &&& 1431655765)) &&& 858993459) + ((uShr (i - ((uShr i 1) &&& 1431655765)) 2) &&& 858993459)) 4)) &&& 252645135) + (uShr (((((i - ((uShr i 1) &&& 1431655765)) &&& 858993459) + ((uShr (i - ((uShr i 1) &&& 1431655765)) 2) &&& 858993459)) + (uShr (((i - ((uShr i 1) &&& 1431655765)) &&& 858993459) + ((uShr (i - ((uShr i 1) &&& 1431655765)) 2) &&& 858993459)) 4)) &&& 252645135) 8)) 16)) &&& 63
set_option maxRecDepth 100000 in
theorem c_J6_bitCount_0f7a4 {l : Launch} {G : zG} {i : Int32} : Ct l G yJ6_bitCount_0f7a4 cJ6_bitCount_0f7a4 1 (Option.some FieldType.int) 0 0 [.int i] ([]) (pI (f_J6_bitCount_0f7a4 i) ([])) := by
  refine Ct.of (plainFor_of_name (by decide)) (Nat.le_of_ble_eq_true rfl) (pI.ad rfl) (fun X C E => ?_)
  show Z X G 1 0 0 _ 0 [(0, .int i)] []
  refine z_iload_n (pc := 0) C 0 dJ6_bitCount_0f7a4_0 rfl ?_
  refine z_iload_n (pc := 1) C 0 dJ6_bitCount_0f7a4_1 rfl ?_
  refine z_iconst (pc := 2) (v := 1) C dJ6_bitCount_0f7a4_2 (by decide) ?_
  refine z_iushr (pc := 3) C dJ6_bitCount_0f7a4_3 ?_
  refine z_ldc_w (pc := 4) C q_379 dJ6_bitCount_0f7a4_4 ?_
  refine z_iand (pc := 7) C dJ6_bitCount_0f7a4_7 ?_
  refine z_isub (pc := 8) C dJ6_bitCount_0f7a4_8 ?_
  refine z_istore_n (pc := 9) [(0, _)] C dJ6_bitCount_0f7a4_9 rfl (by decide) rfl ?_
  refine z_iload_n (pc := 10) C 0 dJ6_bitCount_0f7a4_10 rfl ?_
  refine z_ldc_w (pc := 11) C q_380 dJ6_bitCount_0f7a4_11 ?_
  refine z_iand (pc := 14) C dJ6_bitCount_0f7a4_14 ?_
  refine z_iload_n (pc := 15) C 0 dJ6_bitCount_0f7a4_15 rfl ?_
  refine z_iconst (pc := 16) (v := 2) C dJ6_bitCount_0f7a4_16 (by decide) ?_
  refine z_iushr (pc := 17) C dJ6_bitCount_0f7a4_17 ?_
  refine z_ldc_w (pc := 18) C q_380 dJ6_bitCount_0f7a4_18 ?_
  refine z_iand (pc := 21) C dJ6_bitCount_0f7a4_21 ?_
  refine z_iadd (pc := 22) C dJ6_bitCount_0f7a4_22 ?_
  refine z_istore_n (pc := 23) [(0, _)] C dJ6_bitCount_0f7a4_23 rfl (by decide) rfl ?_
  refine z_iload_n (pc := 24) C 0 dJ6_bitCount_0f7a4_24 rfl ?_
  refine z_iload_n (pc := 25) C 0 dJ6_bitCount_0f7a4_25 rfl ?_
  refine z_iconst (pc := 26) (v := 4) C dJ6_bitCount_0f7a4_26 (by decide) ?_
  refine z_iushr (pc := 27) C dJ6_bitCount_0f7a4_27 ?_
  refine z_iadd (pc := 28) C dJ6_bitCount_0f7a4_28 ?_
  refine z_ldc_w (pc := 29) C q_381 dJ6_bitCount_0f7a4_29 ?_
  refine z_iand (pc := 32) C dJ6_bitCount_0f7a4_32 ?_
  refine z_istore_n (pc := 33) [(0, _)] C dJ6_bitCount_0f7a4_33 rfl (by decide) rfl ?_
  refine z_iload_n (pc := 34) C 0 dJ6_bitCount_0f7a4_34 rfl ?_
  refine z_iload_n (pc := 35) C 0 dJ6_bitCount_0f7a4_35 rfl ?_
  refine z_bipush (pc := 36) (v := 8) C dJ6_bitCount_0f7a4_36 (by decide) ?_
  refine z_iushr (pc := 38) C dJ6_bitCount_0f7a4_38 ?_
  refine z_iadd (pc := 39) C dJ6_bitCount_0f7a4_39 ?_
  refine z_istore_n (pc := 40) [(0, _)] C dJ6_bitCount_0f7a4_40 rfl (by decide) rfl ?_
  refine z_iload_n (pc := 41) C 0 dJ6_bitCount_0f7a4_41 rfl ?_
  refine z_iload_n (pc := 42) C 0 dJ6_bitCount_0f7a4_42 rfl ?_
  refine z_bipush (pc := 43) (v := 16) C dJ6_bitCount_0f7a4_43 (by decide) ?_
  refine z_iushr (pc := 45) C dJ6_bitCount_0f7a4_45 ?_
  refine z_iadd (pc := 46) C dJ6_bitCount_0f7a4_46 ?_
  refine z_istore_n (pc := 47) [(0, _)] C dJ6_bitCount_0f7a4_47 rfl (by decide) rfl ?_
  refine z_iload_n (pc := 48) C 0 dJ6_bitCount_0f7a4_48 rfl ?_
  refine z_bipush (pc := 49) (v := 63) C dJ6_bitCount_0f7a4_49 (by decide) ?_
  refine z_iand (pc := 51) C dJ6_bitCount_0f7a4_51 ?_
  exact z_iret (pc := 52) C E dJ6_bitCount_0f7a4_52 (pI.mk rfl rfl)

def f_X8_isWithin (number : Int32) (least : Int32) (greatest : Int32) : Int32 := if number < least then 0 else if greatest < number then 0 else 1
set_option maxRecDepth 100000 in
theorem c_X8_isWithin {l : Launch} {G : zG} {number : Int32} {least : Int32} {greatest : Int32} : Ct l G yX8_isWithin cX8_isWithin 3 (Option.some FieldType.boolean) 0 0 [.int number, .int least, .int greatest] ([]) (pI (f_X8_isWithin number least greatest) ([])) := by
  refine Ct.of (plainFor_of_name (by decide)) (Nat.le_of_ble_eq_true rfl) (pI.ad rfl) (fun X C E => ?_)
  show Z X G 3 0 0 _ 0 [(0, .int number), (1, .int least), (2, .int greatest)] []
  refine z_iload_n (pc := 0) C 0 dX8_isWithin_0 rfl ?_
  refine z_iload_n (pc := 1) C 1 dX8_isWithin_1 rfl ?_
  refine z_icmp_lt (pc := 2) 14 C dX8_isWithin_2 (by decide) (fun c_2 => ?_) (fun c_2 => ?_)
  · skip
    refine z_iconst (pc := 14) (v := 0) C dX8_isWithin_14 (by decide) ?_
    exact z_zret (pc := 15) C E dX8_isWithin_15 (by first | rfl | assumption) (pI.mk (by simp only [f_X8_isWithin, if_pos c_2]) rfl)
  · skip
    refine z_iload_n (pc := 5) C 0 dX8_isWithin_5 rfl ?_
    refine z_iload_n (pc := 6) C 2 dX8_isWithin_6 rfl ?_
    refine z_icmp_gt (pc := 7) 14 C dX8_isWithin_7 (by decide) (fun c_7 => ?_) (fun c_7 => ?_)
    · skip
      refine z_iconst (pc := 14) (v := 0) C dX8_isWithin_14 (by decide) ?_
      exact z_zret (pc := 15) C E dX8_isWithin_15 (by first | rfl | assumption) (pI.mk (by simp only [f_X8_isWithin, if_neg c_2, if_pos c_7]) rfl)
    · skip
      refine z_iconst (pc := 10) (v := 1) C dX8_isWithin_10 (by decide) ?_
      refine z_goto (pc := 11) 15 C dX8_isWithin_11 (by decide) ?_
      exact z_zret (pc := 15) C E dX8_isWithin_15 (by first | rfl | assumption) (pI.mk (by simp only [f_X8_isWithin, if_neg c_2, if_neg c_7]) rfl)
theorem nb_X8_isWithin {number least greatest : Int32} : narrow .boolean (.int (f_X8_isWithin number least greatest)) = .int (f_X8_isWithin number least greatest) := by unfold f_X8_isWithin; (repeat' split) <;> first | rfl

def f_X8_isPicture (t : Int32) : Int32 := f_X8_isWithin t 0 2
set_option maxRecDepth 100000 in
theorem c_X8_isPicture {l : Launch} {G : zG} {t : Int32} : Ct l G yX8_isPicture cX8_isPicture 1 (Option.some FieldType.boolean) 1 22 [.int t] ([]) (pI (f_X8_isPicture t) ([])) := by
  refine Ct.of (plainFor_of_name (by decide)) (Nat.le_of_ble_eq_true rfl) (pI.ad rfl) (fun X C E => ?_)
  show Z X G 1 0 0 _ 0 [(0, .int t)] []
  refine z_iload_n (pc := 0) C 0 dX8_isPicture_0 rfl ?_
  refine z_iconst (pc := 1) (v := 0) C dX8_isPicture_1 (by decide) ?_
  refine z_iconst (pc := 2) (v := 2) C dX8_isPicture_2 (by decide) ?_
  refine z_callS (pc := 3) C (c_X8_isWithin) [] z00 mS_X8_isWithin q_290 dX8_isPicture_3 rfl rfl rfl rfl (Nat.le_of_ble_eq_true rfl) (by decide) (pI.stay rfl ?_)
  exact z_zret (pc := 6) C E dX8_isPicture_6 (by first | rfl | assumption | exact nb_X8_isWithin) (pI.mk rfl rfl)
theorem nb_X8_isPicture {t : Int32} : narrow .boolean (.int (f_X8_isPicture t)) = .int (f_X8_isPicture t) := by unfold f_X8_isPicture; (repeat' split) <;> first | rfl | exact nb_X8_isWithin

def f_X8_isInPicture (x : Int32) (y : Int32) : Int32 := if (f_X8_isWithin x 0 31) = 0 then 0 else if (f_X8_isWithin y 0 23) = 0 then 0 else 1
set_option maxRecDepth 100000 in
theorem c_X8_isInPicture {l : Launch} {G : zG} {x : Int32} {y : Int32} : Ct l G yX8_isInPicture cX8_isInPicture 2 (Option.some FieldType.boolean) 1 22 [.int x, .int y] ([]) (pI (f_X8_isInPicture x y) ([])) := by
  refine Ct.of (plainFor_of_name (by decide)) (Nat.le_of_ble_eq_true rfl) (pI.ad rfl) (fun X C E => ?_)
  show Z X G 2 0 0 _ 0 [(0, .int x), (1, .int y)] []
  refine z_iload_n (pc := 0) C 0 dX8_isInPicture_0 rfl ?_
  refine z_iconst (pc := 1) (v := 0) C dX8_isInPicture_1 (by decide) ?_
  refine z_bipush (pc := 2) (v := 31) C dX8_isInPicture_2 (by decide) ?_
  refine z_callS (pc := 4) C (c_X8_isWithin) [] z00 mS_X8_isWithin q_290 dX8_isInPicture_4 rfl rfl rfl rfl (Nat.le_of_ble_eq_true rfl) (by decide) (pI.stay rfl ?_)
  refine z_if_eq (pc := 7) 24 C dX8_isInPicture_7 (by decide) (fun c_7 => ?_) (fun c_7 => ?_)
  · skip
    refine z_iconst (pc := 24) (v := 0) C dX8_isInPicture_24 (by decide) ?_
    exact z_zret (pc := 25) C E dX8_isInPicture_25 (by first | rfl | assumption | exact nb_X8_isWithin | exact nb_X8_isPicture) (pI.mk (by simp only [f_X8_isInPicture, if_pos c_7]) rfl)
  · skip
    refine z_iload_n (pc := 10) C 1 dX8_isInPicture_10 rfl ?_
    refine z_iconst (pc := 11) (v := 0) C dX8_isInPicture_11 (by decide) ?_
    refine z_bipush (pc := 12) (v := 23) C dX8_isInPicture_12 (by decide) ?_
    refine z_callS (pc := 14) C (c_X8_isWithin) [] z00 mS_X8_isWithin q_290 dX8_isInPicture_14 rfl rfl rfl rfl (Nat.le_of_ble_eq_true rfl) (by decide) (pI.stay rfl ?_)
    refine z_if_eq (pc := 17) 24 C dX8_isInPicture_17 (by decide) (fun c_17 => ?_) (fun c_17 => ?_)
    · skip
      refine z_iconst (pc := 24) (v := 0) C dX8_isInPicture_24 (by decide) ?_
      exact z_zret (pc := 25) C E dX8_isInPicture_25 (by first | rfl | assumption | exact nb_X8_isWithin | exact nb_X8_isPicture) (pI.mk (by simp only [f_X8_isInPicture, if_neg c_7, if_pos c_17]) rfl)
    · skip
      refine z_iconst (pc := 20) (v := 1) C dX8_isInPicture_20 (by decide) ?_
      refine z_goto (pc := 21) 25 C dX8_isInPicture_21 (by decide) ?_
      exact z_zret (pc := 25) C E dX8_isInPicture_25 (by first | rfl | assumption | exact nb_X8_isWithin | exact nb_X8_isPicture) (pI.mk (by simp only [f_X8_isInPicture, if_neg c_7, if_neg c_17]) rfl)
theorem nb_X8_isInPicture {x y : Int32} : narrow .boolean (.int (f_X8_isInPicture x y)) = .int (f_X8_isInPicture x y) := by unfold f_X8_isInPicture; (repeat' split) <;> first | rfl | exact nb_X8_isWithin | exact nb_X8_isPicture

def f_X8_isPlace (number : Int32) : Int32 := f_X8_isWithin number (-64) 63
set_option maxRecDepth 100000 in
theorem c_X8_isPlace {l : Launch} {G : zG} {number : Int32} : Ct l G yX8_isPlace cX8_isPlace 1 (Option.some FieldType.boolean) 1 22 [.int number] ([]) (pI (f_X8_isPlace number) ([])) := by
  refine Ct.of (plainFor_of_name (by decide)) (Nat.le_of_ble_eq_true rfl) (pI.ad rfl) (fun X C E => ?_)
  show Z X G 1 0 0 _ 0 [(0, .int number)] []
  refine z_iload_n (pc := 0) C 0 dX8_isPlace_0 rfl ?_
  refine z_bipush (pc := 1) (v := (-64)) C dX8_isPlace_1 (by decide) ?_
  refine z_bipush (pc := 3) (v := 63) C dX8_isPlace_3 (by decide) ?_
  refine z_callS (pc := 5) C (c_X8_isWithin) [] z00 mS_X8_isWithin q_290 dX8_isPlace_5 rfl rfl rfl rfl (Nat.le_of_ble_eq_true rfl) (by decide) (pI.stay rfl ?_)
  exact z_zret (pc := 8) C E dX8_isPlace_8 (by first | rfl | assumption | exact nb_X8_isWithin | exact nb_X8_isPicture | exact nb_X8_isInPicture) (pI.mk rfl rfl)
theorem nb_X8_isPlace {number : Int32} : narrow .boolean (.int (f_X8_isPlace number)) = .int (f_X8_isPlace number) := by unfold f_X8_isPlace; (repeat' split) <;> first | rfl | exact nb_X8_isWithin | exact nb_X8_isPicture | exact nb_X8_isInPicture

def f_X8_isSize (number : Int32) : Int32 := f_X8_isWithin number 1 64
set_option maxRecDepth 100000 in
theorem c_X8_isSize {l : Launch} {G : zG} {number : Int32} : Ct l G yX8_isSize cX8_isSize 1 (Option.some FieldType.boolean) 1 22 [.int number] ([]) (pI (f_X8_isSize number) ([])) := by
  refine Ct.of (plainFor_of_name (by decide)) (Nat.le_of_ble_eq_true rfl) (pI.ad rfl) (fun X C E => ?_)
  show Z X G 1 0 0 _ 0 [(0, .int number)] []
  refine z_iload_n (pc := 0) C 0 dX8_isSize_0 rfl ?_
  refine z_iconst (pc := 1) (v := 1) C dX8_isSize_1 (by decide) ?_
  refine z_bipush (pc := 2) (v := 64) C dX8_isSize_2 (by decide) ?_
  refine z_callS (pc := 4) C (c_X8_isWithin) [] z00 mS_X8_isWithin q_290 dX8_isSize_4 rfl rfl rfl rfl (Nat.le_of_ble_eq_true rfl) (by decide) (pI.stay rfl ?_)
  exact z_zret (pc := 7) C E dX8_isSize_7 (by first | rfl | assumption | exact nb_X8_isWithin | exact nb_X8_isPicture | exact nb_X8_isInPicture | exact nb_X8_isPlace) (pI.mk rfl rfl)
theorem nb_X8_isSize {number : Int32} : narrow .boolean (.int (f_X8_isSize number)) = .int (f_X8_isSize number) := by unfold f_X8_isSize; (repeat' split) <;> first | rfl | exact nb_X8_isWithin | exact nb_X8_isPicture | exact nb_X8_isInPicture | exact nb_X8_isPlace

def f_X8_shifted (row : Int32) (tr : Int32) : Int32 := if tr ≤ (-32) then 0 else if tr < 32 then if tr < 0 then row <<< ((-tr) &&& 31) else uShr row tr else 0
set_option maxRecDepth 100000 in
theorem c_X8_shifted {l : Launch} {G : zG} {row : Int32} {tr : Int32} : Ct l G yX8_shifted cX8_shifted 2 (Option.some FieldType.int) 0 0 [.int row, .int tr] ([]) (pI (f_X8_shifted row tr) ([])) := by
  refine Ct.of (plainFor_of_name (by decide)) (Nat.le_of_ble_eq_true rfl) (pI.ad rfl) (fun X C E => ?_)
  show Z X G 2 0 0 _ 0 [(0, .int row), (1, .int tr)] []
  refine z_iload_n (pc := 0) C 1 dX8_shifted_0 rfl ?_
  refine z_bipush (pc := 1) (v := (-32)) C dX8_shifted_1 (by decide) ?_
  refine z_icmp_le (pc := 3) 12 C dX8_shifted_3 (by decide) (fun c_3 => ?_) (fun c_3 => ?_)
  · skip
    refine z_iconst (pc := 12) (v := 0) C dX8_shifted_12 (by decide) ?_
    exact z_iret (pc := 13) C E dX8_shifted_13 (pI.mk (by simp only [f_X8_shifted, if_pos c_3]) rfl)
  · skip
    refine z_iload_n (pc := 6) C 1 dX8_shifted_6 rfl ?_
    refine z_bipush (pc := 7) (v := 32) C dX8_shifted_7 (by decide) ?_
    refine z_icmp_lt (pc := 9) 14 C dX8_shifted_9 (by decide) (fun c_9 => ?_) (fun c_9 => ?_)
    · skip
      refine z_iload_n (pc := 14) C 1 dX8_shifted_14 rfl ?_
      refine z_if_lt (pc := 15) 24 C dX8_shifted_15 (by decide) (fun c_15 => ?_) (fun c_15 => ?_)
      · skip
        refine z_iload_n (pc := 24) C 0 dX8_shifted_24 rfl ?_
        refine z_iload_n (pc := 25) C 1 dX8_shifted_25 rfl ?_
        refine z_ineg (pc := 26) C dX8_shifted_26 ?_
        refine z_ishl (pc := 27) C dX8_shifted_27 ?_
        exact z_iret (pc := 28) C E dX8_shifted_28 (pI.mk (by simp only [f_X8_shifted, if_neg c_3, if_pos c_9, if_pos c_15]) rfl)
      · skip
        refine z_iload_n (pc := 18) C 0 dX8_shifted_18 rfl ?_
        refine z_iload_n (pc := 19) C 1 dX8_shifted_19 rfl ?_
        refine z_iushr (pc := 20) C dX8_shifted_20 ?_
        refine z_goto (pc := 21) 28 C dX8_shifted_21 (by decide) ?_
        exact z_iret (pc := 28) C E dX8_shifted_28 (pI.mk (by simp only [f_X8_shifted, if_neg c_3, if_pos c_9, if_neg c_15]) rfl)
    · skip
      refine z_iconst (pc := 12) (v := 0) C dX8_shifted_12 (by decide) ?_
      exact z_iret (pc := 13) C E dX8_shifted_13 (pI.mk (by simp only [f_X8_shifted, if_neg c_3, if_neg c_9]) rfl)

def f_X8_dotMask (x : Int32) : Int32 := f_X8_shifted (-2147483648) x
set_option maxRecDepth 100000 in
theorem c_X8_dotMask {l : Launch} {G : zG} {x : Int32} : Ct l G yX8_dotMask cX8_dotMask 1 (Option.some FieldType.int) 1 21 [.int x] ([]) (pI (f_X8_dotMask x) ([])) := by
  refine Ct.of (plainFor_of_name (by decide)) (Nat.le_of_ble_eq_true rfl) (pI.ad rfl) (fun X C E => ?_)
  show Z X G 1 0 0 _ 0 [(0, .int x)] []
  refine z_ldc (pc := 0) C q_328 dX8_dotMask_0 ?_
  refine z_iload_n (pc := 2) C 0 dX8_dotMask_2 rfl ?_
  refine z_callS (pc := 3) C (c_X8_shifted) [] z00 mS_X8_shifted q_329 dX8_dotMask_3 rfl rfl rfl rfl (Nat.le_of_ble_eq_true rfl) (by decide) (pI.stay rfl ?_)
  exact z_iret (pc := 6) C E dX8_dotMask_6 (pI.mk rfl rfl)

def f_X8_spanMask (x : Int32) (w : Int32) : Int32 := if (f_J9_min_7cf53 (x + w) 32) ≤ (f_J9_max_7cf53 x 0) then 0 else (f_X8_shifted (-1) (f_J9_max_7cf53 x 0)) &&& ((f_X8_shifted (-1) (f_J9_min_7cf53 (x + w) 32)) ^^^ (-1))
set_option maxRecDepth 100000 in
theorem c_X8_spanMask {l : Launch} {G : zG} {x : Int32} {w : Int32} : Ct l G yX8_spanMask cX8_spanMask 4 (Option.some FieldType.int) 1 21 [.int x, .int w] ([]) (pI (f_X8_spanMask x w) ([])) := by
  refine Ct.of (plainFor_of_name (by decide)) (Nat.le_of_ble_eq_true rfl) (pI.ad rfl) (fun X C E => ?_)
  show Z X G 4 0 0 _ 0 [(0, .int x), (1, .int w)] []
  refine z_iload_n (pc := 0) C 0 dX8_spanMask_0 rfl ?_
  refine z_iconst (pc := 1) (v := 0) C dX8_spanMask_1 (by decide) ?_
  refine z_callS (pc := 2) C (c_J9_max_7cf53) [] z00 mS_J9_max_7cf53 q_371 dX8_spanMask_2 rfl rfl rfl rfl (Nat.le_of_ble_eq_true rfl) (by decide) (pI.stay rfl ?_)
  refine z_istore_n (pc := 5) [(2, _), (0, _), (1, _)] C dX8_spanMask_5 rfl (by decide) rfl ?_
  refine z_iload_n (pc := 6) C 1 dX8_spanMask_6 rfl ?_
  refine z_iload_n (pc := 7) C 2 dX8_spanMask_7 rfl ?_
  refine z_iadd (pc := 8) C dX8_spanMask_8 ?_
  refine z_bipush (pc := 9) (v := 32) C dX8_spanMask_9 (by decide) ?_
  refine z_callS (pc := 11) C (c_J9_min_7cf53) [] z00 mS_J9_min_7cf53 q_374 dX8_spanMask_11 rfl rfl rfl rfl (Nat.le_of_ble_eq_true rfl) (by decide) (pI.stay rfl ?_)
  refine z_istore_n (pc := 14) [(3, _), (2, _), (0, _), (1, _)] C dX8_spanMask_14 rfl (by decide) rfl ?_
  refine z_iload_n (pc := 15) C 1 dX8_spanMask_15 rfl ?_
  refine z_iload_n (pc := 16) C 0 dX8_spanMask_16 rfl ?_
  refine z_icmp_ge (pc := 17) 36 C dX8_spanMask_17 (by decide) (fun c_17 => ?_) (fun c_17 => ?_)
  · skip
    refine z_iconst (pc := 36) (v := 0) C dX8_spanMask_36 (by decide) ?_
    exact z_iret (pc := 37) C E dX8_spanMask_37 (pI.mk (by simp only [f_X8_spanMask, if_pos c_17]) rfl)
  · skip
    refine z_iconst (pc := 20) (v := (-1)) C dX8_spanMask_20 (by decide) ?_
    refine z_iload_n (pc := 21) C 1 dX8_spanMask_21 rfl ?_
    refine z_callS (pc := 22) C (c_X8_shifted) [] z00 mS_X8_shifted q_329 dX8_spanMask_22 rfl rfl rfl rfl (Nat.le_of_ble_eq_true rfl) (by decide) (pI.stay rfl ?_)
    refine z_iconst (pc := 25) (v := (-1)) C dX8_spanMask_25 (by decide) ?_
    refine z_iload_n (pc := 26) C 0 dX8_spanMask_26 rfl ?_
    refine z_callS (pc := 27) C (c_X8_shifted) [] z00 mS_X8_shifted q_329 dX8_spanMask_27 rfl rfl rfl rfl (Nat.le_of_ble_eq_true rfl) (by decide) (pI.stay rfl ?_)
    refine z_iconst (pc := 30) (v := (-1)) C dX8_spanMask_30 (by decide) ?_
    refine z_ixor (pc := 31) C dX8_spanMask_31 ?_
    refine z_iand (pc := 32) C dX8_spanMask_32 ?_
    refine z_goto (pc := 33) 37 C dX8_spanMask_33 (by decide) ?_
    exact z_iret (pc := 37) C E dX8_spanMask_37 (pI.mk (by simp only [f_X8_spanMask, if_neg c_17]) rfl)
end
section
theorem isW_ne {n a b : Int32} (h : ¬ f_X8_isWithin n a b = 0) : a.toInt ≤ n.toInt ∧ n.toInt ≤ b.toInt := by
  unfold f_X8_isWithin at h
  by_cases h1 : n < a
  · rw [if_pos h1] at h; exact absurd rfl h
  · rw [if_neg h1] at h
    by_cases h2 : b < n
    · rw [if_pos h2] at h; exact absurd rfl h
    · rw [Int32.lt_iff_toInt_lt] at h1 h2
      omega
theorem isW_eq {n a b : Int32} (h1 : a.toInt ≤ n.toInt) (h2 : n.toInt ≤ b.toInt) : f_X8_isWithin n a b = 1 := by
  unfold f_X8_isWithin
  rw [if_neg (by rw [Int32.lt_iff_toInt_lt]; omega), if_neg (by rw [Int32.lt_iff_toInt_lt]; omega)]
theorem isP_ne {t : Int32} (h : ¬ f_X8_isPicture t = 0) : 0 ≤ t.toInt ∧ t.toInt ≤ 2 := isW_ne h
theorem tI_add {a b : Int32} (h1 : -2147483648 ≤ a.toInt + b.toInt) (h2 : a.toInt + b.toInt < 2147483648) : (a + b).toInt = a.toInt + b.toInt := by
  rw [Int32.toInt_add]; exact Int.bmod_eq_of_le (by omega) (by omega)
theorem tI_sub {a b : Int32} (h1 : -2147483648 ≤ a.toInt - b.toInt) (h2 : a.toInt - b.toInt < 2147483648) : (a - b).toInt = a.toInt - b.toInt := by
  rw [Int32.toInt_sub]; exact Int.bmod_eq_of_le (by omega) (by omega)
theorem tI_mul {a b : Int32} {n : Int} (hn : a.toInt * b.toInt = n) (h1 : -2147483648 ≤ n) (h2 : n < 2147483648) : (a * b).toInt = n := by
  rw [Int32.toInt_mul, hn]; exact Int.bmod_eq_of_le (by omega) (by omega)
theorem ix_rt {t y : Int32} (h1 : ¬ f_X8_isPicture t = 0) (h2 : ¬ f_X8_isWithin y 0 23 = 0) : vp_in (t * 24 + y) 72 := by
  have a := isP_ne h1
  have b := isW_ne h2
  have e0 : (0 : Int32).toInt = 0 := rfl
  have e1 : (23 : Int32).toInt = 23 := rfl
  have e2 : (t * 24).toInt = t.toInt * 24 := tI_mul rfl (by omega) (by omega)
  rw [vp_in_iff, tI_add (by omega) (by omega), e2]
  omega
theorem ix_7 (y : Int32) : vp_in (y &&& 7) 8 := pk_andIn y 3 (by decide) (by decide)
/-- how many openings there may be -/
def cOk (cnt : Int32) : Prop := 0 ≤ cnt.toInt ∧ cnt.toInt ≤ 4
theorem cOk.nI {cnt : Int32} (h : cOk cnt) : cnt = nI cnt.toNatClampNeg ∧ cnt.toNatClampNeg ≤ 4 := by
  have e : (cnt.toNatClampNeg : Int) = cnt.toInt := Int.toNat_of_nonneg h.1
  refine ⟨?_, by have := h.2; omega⟩
  rw [← Int32.toInt_inj, nI_toInt (by have := h.2; omega)]
  exact e.symm
theorem ix_op {i c : Nat} {k : Int32} (hi : i < c) (hc : c ≤ 4) (j : Nat) (hk : k = nI j) (hj : j < 4) : vp_in (nI i * 4 + k) 16 := by
  subst hk
  rw [show (4 : Int32) = nI 4 from rfl, pk_mul, nI_add]
  exact vp_in_nI (by omega) (by decide)
theorem ix_op0 {i c : Nat} (hi : i < c) (hc : c ≤ 4) : vp_in (nI i * 4) 16 := by
  rw [show (4 : Int32) = nI 4 from rfl, pk_mul]
  exact vp_in_nI (by omega) (by decide)

def f_X6_rowAt (rows : Nat → Int32) (t : Int32) (y : Int32) : Int32 := if (f_X8_isPicture t) = 0 then 0 else if (f_X8_isWithin y 0 23) = 0 then 0 else rows ((t * 24) + y).toNatClampNeg
set_option maxRecDepth 100000 in
theorem c_X6_rowAt {l : Launch} {G : zG} {so sr sp sq : Nat} {rows : Nat → Int32} {pat : Nat → Int32} {ops : Nat → Int32} {cnt : Int32} {t : Int32} {y : Int32} : Ct l G yX6_rowAt cX6_rowAt 3 (Option.some FieldType.int) 2 42 [.ref so, .int t, .int y] (wSc G so sr sp sq rows pat ops cnt) (pI (f_X6_rowAt rows t y) (wSc G so sr sp sq rows pat ops cnt)) := by
  refine Ct.of (plainFor_of_name (by decide)) (Nat.le_of_ble_eq_true rfl) (pI.ad rfl) (fun X C E => ?_)
  show Z X G 3 0 0 _ 0 [(0, .ref so), (1, .int t), (2, .int y)] []
  refine z_iload_n (pc := 0) C 1 dX6_rowAt_0 rfl ?_
  refine z_callSN (pc := 1) C (c_X8_isPicture) [] z00 mS_X8_isPicture q_323 dX6_rowAt_1 rfl rfl rfl rfl (Nat.le_of_ble_eq_true rfl) (by decide) (pI.stay rfl ?_)
  refine z_if_eq (pc := 4) 31 C dX6_rowAt_4 (by decide) (fun c_4 => ?_) (fun c_4 => ?_)
  · skip
    refine z_iconst (pc := 31) (v := 0) C dX6_rowAt_31 (by decide) ?_
    exact z_iret (pc := 32) C E dX6_rowAt_32 (pI.mk (by simp only [f_X6_rowAt, if_pos c_4]) rfl)
  · skip
    refine z_iload_n (pc := 7) C 2 dX6_rowAt_7 rfl ?_
    refine z_iconst (pc := 8) (v := 0) C dX6_rowAt_8 (by decide) ?_
    refine z_bipush (pc := 9) (v := 23) C dX6_rowAt_9 (by decide) ?_
    refine z_callSN (pc := 11) C (c_X8_isWithin) [] z00 mS_X8_isWithin q_324 dX6_rowAt_11 rfl rfl rfl rfl (Nat.le_of_ble_eq_true rfl) (by decide) (pI.stay rfl ?_)
    refine z_if_eq (pc := 14) 31 C dX6_rowAt_14 (by decide) (fun c_14 => ?_) (fun c_14 => ?_)
    · skip
      refine z_iconst (pc := 31) (v := 0) C dX6_rowAt_31 (by decide) ?_
      exact z_iret (pc := 32) C E dX6_rowAt_32 (pI.mk (by simp only [f_X6_rowAt, if_neg c_4, if_pos c_14]) rfl)
    · skip
      refine z_aload_n (pc := 17) C 0 dX6_rowAt_17 rfl ?_
      refine z_get (pc := 18) C 0 0 dX6_rowAt_18 rfl rfl i_X6 (by decide) q_98 rfl ?_
      refine z_iload_n (pc := 21) C 1 dX6_rowAt_21 rfl ?_
      refine z_bipush (pc := 22) (v := 24) C dX6_rowAt_22 (by decide) ?_
      refine z_imul (pc := 24) C dX6_rowAt_24 ?_
      refine z_iload_n (pc := 25) C 2 dX6_rowAt_25 rfl ?_
      refine z_iadd (pc := 26) C dX6_rowAt_26 ?_
      refine z_iald (pc := 27) C 1 dX6_rowAt_27 rfl (ix_rt c_4 c_14) ?_
      refine z_goto (pc := 28) 32 C dX6_rowAt_28 (by decide) ?_
      exact z_iret (pc := 32) C E dX6_rowAt_32 (pI.mk (by simp only [f_X6_rowAt, if_neg c_4, if_neg c_14]) rfl)

def g_X6_putRow_rows (rows : Nat → Int32) (t : Int32) (y : Int32) (row : Int32) : Nat → Int32 := if (f_X8_isPicture t) = 0 then rows else if (f_X8_isWithin y 0 23) = 0 then rows else upd rows ((t * 24) + y).toNatClampNeg row
set_option maxRecDepth 100000 in
theorem c_X6_putRow {l : Launch} {G : zG} {so sr sp sq : Nat} {rows : Nat → Int32} {pat : Nat → Int32} {ops : Nat → Int32} {cnt : Int32} {t : Int32} {y : Int32} {row : Int32} : Ct l G yX6_putRow cX6_putRow 4 (Option.none : Option Jvm.ClassFile.FieldType) 2 42 [.ref so, .int t, .int y, .int row] (wSc G so sr sp sq rows pat ops cnt) (pV (wSc G so sr sp sq (g_X6_putRow_rows rows t y row) pat ops cnt)) := by
  refine Ct.of (plainFor_of_name (by decide)) (Nat.le_of_ble_eq_true rfl) (pV.ad rfl) (fun X C E => ?_)
  show Z X G 4 0 0 _ 0 [(0, .ref so), (1, .int t), (2, .int y), (3, .int row)] []
  refine z_iload_n (pc := 0) C 1 dX6_putRow_0 rfl ?_
  refine z_callSN (pc := 1) C (c_X8_isPicture) [] z00 mS_X8_isPicture q_323 dX6_putRow_1 rfl rfl rfl rfl (Nat.le_of_ble_eq_true rfl) (by decide) (pI.stay rfl ?_)
  refine z_if_eq (pc := 4) 29 C dX6_putRow_4 (by decide) (fun c_4 => ?_) (fun c_4 => ?_)
  · skip
    exact z_vret (pc := 29) C E dX6_putRow_29 (pV.mk (by simp only [g_X6_putRow_rows, if_pos c_4]))
  · skip
    refine z_iload_n (pc := 7) C 2 dX6_putRow_7 rfl ?_
    refine z_iconst (pc := 8) (v := 0) C dX6_putRow_8 (by decide) ?_
    refine z_bipush (pc := 9) (v := 23) C dX6_putRow_9 (by decide) ?_
    refine z_callSN (pc := 11) C (c_X8_isWithin) [] z00 mS_X8_isWithin q_324 dX6_putRow_11 rfl rfl rfl rfl (Nat.le_of_ble_eq_true rfl) (by decide) (pI.stay rfl ?_)
    refine z_if_eq (pc := 14) 29 C dX6_putRow_14 (by decide) (fun c_14 => ?_) (fun c_14 => ?_)
    · skip
      exact z_vret (pc := 29) C E dX6_putRow_29 (pV.mk (by simp only [g_X6_putRow_rows, if_neg c_4, if_pos c_14]))
    · skip
      refine z_aload_n (pc := 17) C 0 dX6_putRow_17 rfl ?_
      refine z_get (pc := 18) C 0 0 dX6_putRow_18 rfl rfl i_X6 (by decide) q_98 rfl ?_
      refine z_iload_n (pc := 21) C 1 dX6_putRow_21 rfl ?_
      refine z_bipush (pc := 22) (v := 24) C dX6_putRow_22 (by decide) ?_
      refine z_imul (pc := 24) C dX6_putRow_24 ?_
      refine z_iload_n (pc := 25) C 2 dX6_putRow_25 rfl ?_
      refine z_iadd (pc := 26) C dX6_putRow_26 ?_
      refine z_iload_n (pc := 27) C 3 dX6_putRow_27 rfl ?_
      refine z_iast (pc := 28) (wSc G so sr sp sq _ pat ops cnt) C 1 dX6_putRow_28 rfl (ix_rt c_4 c_14) rfl ?_
      exact z_vret (pc := 29) C E dX6_putRow_29 (pV.mk (by simp only [g_X6_putRow_rows, if_neg c_4, if_neg c_14]))

def f_X6_dotAt (rows : Nat → Int32) (t : Int32) (x : Int32) (y : Int32) : Int32 := if (f_X8_isInPicture x y) = 0 then 0 else if ((f_X6_rowAt rows t y) &&& (f_X8_dotMask x)) = 0 then 0 else 1
set_option maxRecDepth 100000 in
theorem c_X6_dotAt {l : Launch} {G : zG} {so sr sp sq : Nat} {rows : Nat → Int32} {pat : Nat → Int32} {ops : Nat → Int32} {cnt : Int32} {t : Int32} {x : Int32} {y : Int32} : Ct l G yX6_dotAt cX6_dotAt 4 (Option.some FieldType.int) 3 64 [.ref so, .int t, .int x, .int y] (wSc G so sr sp sq rows pat ops cnt) (pI (f_X6_dotAt rows t x y) (wSc G so sr sp sq rows pat ops cnt)) := by
  refine Ct.of (plainFor_of_name (by decide)) (Nat.le_of_ble_eq_true rfl) (pI.ad rfl) (fun X C E => ?_)
  show Z X G 4 0 0 _ 0 [(0, .ref so), (1, .int t), (2, .int x), (3, .int y)] []
  refine z_iload_n (pc := 0) C 2 dX6_dotAt_0 rfl ?_
  refine z_iload_n (pc := 1) C 3 dX6_dotAt_1 rfl ?_
  refine z_callSN (pc := 2) C (c_X8_isInPicture) [] z00 mS_X8_isInPicture q_318 dX6_dotAt_2 rfl rfl rfl rfl (Nat.le_of_ble_eq_true rfl) (by decide) (pI.stay rfl ?_)
  refine z_if_eq (pc := 5) 26 C dX6_dotAt_5 (by decide) (fun c_5 => ?_) (fun c_5 => ?_)
  · skip
    refine z_iconst (pc := 26) (v := 0) C dX6_dotAt_26 (by decide) ?_
    exact z_iret (pc := 27) C E dX6_dotAt_27 (pI.mk (by simp only [f_X6_dotAt, if_pos c_5]) rfl)
  · skip
    refine z_aload_n (pc := 8) C 0 dX6_dotAt_8 rfl ?_
    refine z_iload_n (pc := 9) C 1 dX6_dotAt_9 rfl ?_
    refine z_iload_n (pc := 10) C 3 dX6_dotAt_10 rfl ?_
    refine z_callV (pc := 11) C (c_X6_rowAt) [0, 1, 2, 3] z00 mV_X6_rowAt q_319 dX6_dotAt_11 rfl rfl rfl 0 rfl rfl rfl rfl (Nat.le_of_ble_eq_true rfl) (by decide) (pI.stay rfl ?_)
    refine z_iload_n (pc := 14) C 2 dX6_dotAt_14 rfl ?_
    refine z_callSN (pc := 15) C (c_X8_dotMask) [] z00 mS_X8_dotMask q_325 dX6_dotAt_15 rfl rfl rfl rfl (Nat.le_of_ble_eq_true rfl) (by decide) (pI.stay rfl ?_)
    refine z_iand (pc := 18) C dX6_dotAt_18 ?_
    refine z_if_eq (pc := 19) 26 C dX6_dotAt_19 (by decide) (fun c_19 => ?_) (fun c_19 => ?_)
    · skip
      refine z_iconst (pc := 26) (v := 0) C dX6_dotAt_26 (by decide) ?_
      exact z_iret (pc := 27) C E dX6_dotAt_27 (pI.mk (by simp only [f_X6_dotAt, if_neg c_5, if_pos c_19]) rfl)
    · skip
      refine z_iconst (pc := 22) (v := 1) C dX6_dotAt_22 (by decide) ?_
      refine z_goto (pc := 23) 27 C dX6_dotAt_23 (by decide) ?_
      exact z_iret (pc := 27) C E dX6_dotAt_27 (pI.mk (by simp only [f_X6_dotAt, if_neg c_5, if_neg c_19]) rfl)

def f_X6_patternAt (pat : Nat → Int32) (y : Int32) : Int32 := (pat (y &&& 7).toNatClampNeg) * 16843009
set_option maxRecDepth 100000 in
theorem c_X6_patternAt {l : Launch} {G : zG} {so sr sp sq : Nat} {rows : Nat → Int32} {pat : Nat → Int32} {ops : Nat → Int32} {cnt : Int32} {y : Int32} : Ct l G yX6_patternAt cX6_patternAt 2 (Option.some FieldType.int) 0 0 [.ref so, .int y] (wSc G so sr sp sq rows pat ops cnt) (pI (f_X6_patternAt pat y) (wSc G so sr sp sq rows pat ops cnt)) := by
  refine Ct.of (plainFor_of_name (by decide)) (Nat.le_of_ble_eq_true rfl) (pI.ad rfl) (fun X C E => ?_)
  show Z X G 2 0 0 _ 0 [(0, .ref so), (1, .int y)] []
  refine z_aload_n (pc := 0) C 0 dX6_patternAt_0 rfl ?_
  refine z_get (pc := 1) C 0 1 dX6_patternAt_1 rfl rfl i_X6 (by decide) q_99 rfl ?_
  refine z_iload_n (pc := 4) C 1 dX6_patternAt_4 rfl ?_
  refine z_bipush (pc := 5) (v := 7) C dX6_patternAt_5 (by decide) ?_
  refine z_iand (pc := 7) C dX6_patternAt_7 ?_
  refine z_iald (pc := 8) C 2 dX6_patternAt_8 rfl (ix_7 _) ?_
  refine z_ldc (pc := 9) C q_507 dX6_patternAt_9 ?_
  refine z_imul (pc := 11) C dX6_patternAt_11 ?_
  exact z_iret (pc := 12) C E dX6_patternAt_12 (pI.mk rfl rfl)

def b_X6_openAt_13 (ops : Nat → Int32) (y : Int32) (i_13 : Nat) (z_13 : Int32) : Int32 := if y < (ops (((nI i_13) * 4) + 1).toNatClampNeg) then z_13 else if ((ops (((nI i_13) * 4) + 1).toNatClampNeg) + (ops (((nI i_13) * 4) + 3).toNatClampNeg)) ≤ y then z_13 else z_13 ||| (f_X8_spanMask (ops ((nI i_13) * 4).toNatClampNeg) (ops (((nI i_13) * 4) + 2).toNatClampNeg))
def s_X6_openAt_13 (ops : Nat → Int32) (y : Int32) : Nat → Int32
  | 0 => 0
  | i_13 + 1 => b_X6_openAt_13 ops y i_13 (s_X6_openAt_13 ops y i_13)
def f_X6_openAt (ops : Nat → Int32) (cnt : Int32) (y : Int32) : Int32 := if cnt = 0 then (-1) else (s_X6_openAt_13 ops y cnt.toNatClampNeg)
set_option maxRecDepth 100000 in
theorem c_X6_openAt {l : Launch} {G : zG} {so sr sp sq : Nat} {rows : Nat → Int32} {pat : Nat → Int32} {ops : Nat → Int32} {cnt : Int32} {y : Int32} (hc : cOk cnt) : Ct l G yX6_openAt cX6_openAt 6 (Option.some FieldType.int) 2 44 [.ref so, .int y] (wSc G so sr sp sq rows pat ops cnt) (pI (f_X6_openAt ops cnt y) (wSc G so sr sp sq rows pat ops cnt)) := by
  refine Ct.of (plainFor_of_name (by decide)) (Nat.le_of_ble_eq_true rfl) (pI.ad rfl) (fun X C E => ?_)
  show Z X G 6 0 0 _ 0 [(0, .ref so), (1, .int y)] []
  have hk := hc.nI
  refine z_aload_n (pc := 0) C 0 dX6_openAt_0 rfl ?_
  refine z_get (pc := 1) C 0 3 dX6_openAt_1 rfl rfl i_X6 (by decide) q_102 rfl ?_
  refine z_if_ne (pc := 4) 9 C dX6_openAt_4 (by decide) (fun c_4 => ?_) (fun c_4 => ?_)
  · skip
    refine z_iconst (pc := 9) (v := 0) C dX6_openAt_9 (by decide) ?_
    refine z_istore_n (pc := 10) [(2, _), (0, _), (1, _)] C dX6_openAt_10 rfl (by decide) rfl ?_
    refine z_iconst (pc := 11) (v := 0) C dX6_openAt_11 (by decide) ?_
    refine z_istore_n (pc := 12) [(3, _), (2, _), (0, _), (1, _)] C dX6_openAt_12 rfl (by decide) rfl ?_
    refine z_lv (lv' := [(0, _), (1, _), (2, _), (3, _)]) [2, 3, 1, 0] rfl ?_
    refine z_loop (pc := 13) (e := cnt.toNatClampNeg) (fun i_13 => wSc G so sr sp sq rows pat ops cnt) (fun i_13 => [(0, .ref so), (1, .int y), (2, .int (s_X6_openAt_13 ops y i_13)), (3, .int (nI i_13))]) [] (fun i_13 hi_13 ih_13 => ?_) ?_ 0 (Nat.zero_le _)
    · show Z X G 6 0 0 (wSc G so sr sp sq rows pat ops cnt) 13 [(0, .ref so), (1, .int y), (2, .int (s_X6_openAt_13 ops y i_13)), (3, .int (nI i_13))] []
      generalize hz_13 : s_X6_openAt_13 ops y i_13 = z_13
      refine z_iload_n (pc := 13) C 3 dX6_openAt_13 rfl ?_
      refine z_aload_n (pc := 14) C 0 dX6_openAt_14 rfl ?_
      refine z_get (pc := 15) C 0 3 dX6_openAt_15 rfl rfl i_X6 (by decide) q_102 rfl ?_
      refine z_icmp_ge (pc := 18) 92 C dX6_openAt_18 (by decide) (fun c_18 => ?_) (fun c_18 => ?_)
      · skip
        exact absurd (hk.1 ▸ c_18) (nI_ge (by omega) (by omega))
      · skip
        refine z_iload_n (pc := 21) C 3 dX6_openAt_21 rfl ?_
        refine z_iconst (pc := 22) (v := 4) C dX6_openAt_22 (by decide) ?_
        refine z_icmp_ge (pc := 23) 92 C dX6_openAt_23 (by decide) (fun c_23 => ?_) (fun c_23 => ?_)
        · skip
          exact absurd c_23 (nI_ge (b := 4) (by omega) (by decide))
        · skip
          refine z_iload_n (pc := 26) C 3 dX6_openAt_26 rfl ?_
          refine z_iconst (pc := 27) (v := 4) C dX6_openAt_27 (by decide) ?_
          refine z_imul (pc := 28) C dX6_openAt_28 ?_
          refine z_istore (pc := 29) [(4, _), (0, _), (1, _), (2, _), (3, _)] C dX6_openAt_29 (by decide) rfl ?_
          refine z_aload_n (pc := 31) C 1 dX6_openAt_31 rfl ?_
          refine z_get (pc := 32) C 0 2 dX6_openAt_32 rfl rfl i_X6 (by decide) q_101 rfl ?_
          refine z_iload (pc := 35) C 0 dX6_openAt_35 rfl ?_
          refine z_iconst (pc := 37) (v := 1) C dX6_openAt_37 (by decide) ?_
          refine z_iadd (pc := 38) C dX6_openAt_38 ?_
          refine z_iald (pc := 39) C 3 dX6_openAt_39 rfl (ix_op hi_13 hk.2 1 rfl (by decide)) ?_
          refine z_istore (pc := 40) [(5, _), (4, _), (0, _), (1, _), (2, _), (3, _)] C dX6_openAt_40 (by decide) rfl ?_
          refine z_iload_n (pc := 42) C 3 dX6_openAt_42 rfl ?_
          refine z_iload (pc := 43) C 0 dX6_openAt_43 rfl ?_
          refine z_icmp_lt (pc := 45) 86 C dX6_openAt_45 (by decide) (fun c_45 => ?_) (fun c_45 => ?_)
          · skip
            refine z_iinc (pc := 86) (v := nI (i_13 + 1)) [(3, _), (5, _), (4, _), (0, _), (1, _), (2, _)] C 5 dX6_openAt_86 rfl ((nI_succ _).symm) (by decide) rfl ?_
            refine z_goto (pc := 89) 13 C dX6_openAt_89 (by decide) ?_
            refine z_lv (lv' := [(0, _), (1, _), (2, _), (3, _)]) [3, 4, 5, 0] rfl ?_
            exact z_eq rfl (by simp only [s_X6_openAt_13, hz_13, b_X6_openAt_13, if_neg c_18, if_neg c_23, if_pos c_45]) rfl ih_13
          · skip
            refine z_iload_n (pc := 48) C 3 dX6_openAt_48 rfl ?_
            refine z_iload (pc := 49) C 0 dX6_openAt_49 rfl ?_
            refine z_aload_n (pc := 51) C 2 dX6_openAt_51 rfl ?_
            refine z_get (pc := 52) C 0 2 dX6_openAt_52 rfl rfl i_X6 (by decide) q_101 rfl ?_
            refine z_iload (pc := 55) C 1 dX6_openAt_55 rfl ?_
            refine z_iconst (pc := 57) (v := 3) C dX6_openAt_57 (by decide) ?_
            refine z_iadd (pc := 58) C dX6_openAt_58 ?_
            refine z_iald (pc := 59) C 3 dX6_openAt_59 rfl (ix_op hi_13 hk.2 3 rfl (by decide)) ?_
            refine z_iadd (pc := 60) C dX6_openAt_60 ?_
            refine z_icmp_ge (pc := 61) 86 C dX6_openAt_61 (by decide) (fun c_61 => ?_) (fun c_61 => ?_)
            · skip
              refine z_iinc (pc := 86) (v := nI (i_13 + 1)) [(3, _), (5, _), (4, _), (0, _), (1, _), (2, _)] C 5 dX6_openAt_86 rfl ((nI_succ _).symm) (by decide) rfl ?_
              refine z_goto (pc := 89) 13 C dX6_openAt_89 (by decide) ?_
              refine z_lv (lv' := [(0, _), (1, _), (2, _), (3, _)]) [3, 4, 5, 0] rfl ?_
              exact z_eq rfl (by simp only [s_X6_openAt_13, hz_13, b_X6_openAt_13, if_neg c_18, if_neg c_23, if_neg c_45, if_pos c_61]) rfl ih_13
            · skip
              refine z_iload_n (pc := 64) C 4 dX6_openAt_64 rfl ?_
              refine z_aload_n (pc := 65) C 2 dX6_openAt_65 rfl ?_
              refine z_get (pc := 66) C 0 2 dX6_openAt_66 rfl rfl i_X6 (by decide) q_101 rfl ?_
              refine z_iload (pc := 69) C 1 dX6_openAt_69 rfl ?_
              refine z_iald (pc := 71) C 3 dX6_openAt_71 rfl (ix_op0 hi_13 hk.2) ?_
              refine z_aload_n (pc := 72) C 2 dX6_openAt_72 rfl ?_
              refine z_get (pc := 73) C 0 2 dX6_openAt_73 rfl rfl i_X6 (by decide) q_101 rfl ?_
              refine z_iload (pc := 76) C 1 dX6_openAt_76 rfl ?_
              refine z_iconst (pc := 78) (v := 2) C dX6_openAt_78 (by decide) ?_
              refine z_iadd (pc := 79) C dX6_openAt_79 ?_
              refine z_iald (pc := 80) C 3 dX6_openAt_80 rfl (ix_op hi_13 hk.2 2 rfl (by decide)) ?_
              refine z_callSN (pc := 81) C (c_X8_spanMask) [] z00 mS_X8_spanMask q_502 dX6_openAt_81 rfl rfl rfl rfl (Nat.le_of_ble_eq_true rfl) (by decide) (pI.stay rfl ?_)
              refine z_ior (pc := 84) C dX6_openAt_84 ?_
              refine z_istore_n (pc := 85) [(2, _), (5, _), (4, _), (0, _), (1, _), (3, _)] C dX6_openAt_85 rfl (by decide) rfl ?_
              refine z_iinc (pc := 86) (v := nI (i_13 + 1)) [(3, _), (2, _), (5, _), (4, _), (0, _), (1, _)] C 5 dX6_openAt_86 rfl ((nI_succ _).symm) (by decide) rfl ?_
              refine z_goto (pc := 89) 13 C dX6_openAt_89 (by decide) ?_
              refine z_lv (lv' := [(0, _), (1, _), (2, _), (3, _)]) [4, 5, 1, 0] rfl ?_
              exact z_eq rfl (by simp only [s_X6_openAt_13, hz_13, b_X6_openAt_13, if_neg c_18, if_neg c_23, if_neg c_45, if_neg c_61]) rfl ih_13
    · show Z X G 6 0 0 (wSc G so sr sp sq rows pat ops cnt) 13 [(0, .ref so), (1, .int y), (2, .int (s_X6_openAt_13 ops y cnt.toNatClampNeg)), (3, .int (nI cnt.toNatClampNeg))] []
      refine z_iload_n (pc := 13) C 3 dX6_openAt_13 rfl ?_
      refine z_aload_n (pc := 14) C 0 dX6_openAt_14 rfl ?_
      refine z_get (pc := 15) C 0 3 dX6_openAt_15 rfl rfl i_X6 (by decide) q_102 rfl ?_
      refine z_icmp_ge (pc := 18) 92 C dX6_openAt_18 (by decide) (fun c_18 => ?_) (fun c_18 => ?_)
      · skip
        refine z_iload_n (pc := 92) C 2 dX6_openAt_92 rfl ?_
        exact z_iret (pc := 93) C E dX6_openAt_93 (pI.mk (by simp only [f_X6_openAt, if_neg c_4, if_pos c_18]) rfl)
      · skip
        exact absurd (hk.1 ▸ nI_le (Nat.le_refl _) (by omega)) c_18
  · skip
    refine z_iconst (pc := 7) (v := (-1)) C dX6_openAt_7 (by decide) ?_
    exact z_iret (pc := 8) C E dX6_openAt_8 (pI.mk (by simp only [f_X6_openAt, if_pos c_4]) rfl)

def f_X6_isOpen (ops : Nat → Int32) (cnt : Int32) (x : Int32) (y : Int32) : Int32 := if (f_X8_isInPicture x y) = 0 then 0 else if ((f_X6_openAt ops cnt y) &&& (f_X8_dotMask x)) = 0 then 0 else 1
set_option maxRecDepth 100000 in
theorem c_X6_isOpen {l : Launch} {G : zG} {so sr sp sq : Nat} {rows : Nat → Int32} {pat : Nat → Int32} {ops : Nat → Int32} {cnt : Int32} {x : Int32} {y : Int32} (hc : cOk cnt) : Ct l G yX6_isOpen cX6_isOpen 3 (Option.some FieldType.boolean) 3 69 [.ref so, .int x, .int y] (wSc G so sr sp sq rows pat ops cnt) (pI (f_X6_isOpen ops cnt x y) (wSc G so sr sp sq rows pat ops cnt)) := by
  refine Ct.of (plainFor_of_name (by decide)) (Nat.le_of_ble_eq_true rfl) (pI.ad rfl) (fun X C E => ?_)
  show Z X G 3 0 0 _ 0 [(0, .ref so), (1, .int x), (2, .int y)] []
  refine z_iload_n (pc := 0) C 1 dX6_isOpen_0 rfl ?_
  refine z_iload_n (pc := 1) C 2 dX6_isOpen_1 rfl ?_
  refine z_callSN (pc := 2) C (c_X8_isInPicture) [] z00 mS_X8_isInPicture q_318 dX6_isOpen_2 rfl rfl rfl rfl (Nat.le_of_ble_eq_true rfl) (by decide) (pI.stay rfl ?_)
  refine z_if_eq (pc := 5) 25 C dX6_isOpen_5 (by decide) (fun c_5 => ?_) (fun c_5 => ?_)
  · skip
    refine z_iconst (pc := 25) (v := 0) C dX6_isOpen_25 (by decide) ?_
    exact z_zret (pc := 26) C E dX6_isOpen_26 (by first | rfl | assumption | exact nb_X8_isWithin | exact nb_X8_isPicture | exact nb_X8_isInPicture | exact nb_X8_isPlace | exact nb_X8_isSize) (pI.mk (by simp only [f_X6_isOpen, if_pos c_5]) rfl)
  · skip
    refine z_aload_n (pc := 8) C 0 dX6_isOpen_8 rfl ?_
    refine z_iload_n (pc := 9) C 2 dX6_isOpen_9 rfl ?_
    refine z_callV (pc := 10) C (c_X6_openAt (by assumption)) [0, 1, 2, 3] z00 mV_X6_openAt q_498 dX6_isOpen_10 rfl rfl rfl 0 rfl rfl rfl rfl (Nat.le_of_ble_eq_true rfl) (by decide) (pI.stay rfl ?_)
    refine z_iload_n (pc := 13) C 1 dX6_isOpen_13 rfl ?_
    refine z_callSN (pc := 14) C (c_X8_dotMask) [] z00 mS_X8_dotMask q_325 dX6_isOpen_14 rfl rfl rfl rfl (Nat.le_of_ble_eq_true rfl) (by decide) (pI.stay rfl ?_)
    refine z_iand (pc := 17) C dX6_isOpen_17 ?_
    refine z_if_eq (pc := 18) 25 C dX6_isOpen_18 (by decide) (fun c_18 => ?_) (fun c_18 => ?_)
    · skip
      refine z_iconst (pc := 25) (v := 0) C dX6_isOpen_25 (by decide) ?_
      exact z_zret (pc := 26) C E dX6_isOpen_26 (by first | rfl | assumption | exact nb_X8_isWithin | exact nb_X8_isPicture | exact nb_X8_isInPicture | exact nb_X8_isPlace | exact nb_X8_isSize) (pI.mk (by simp only [f_X6_isOpen, if_neg c_5, if_pos c_18]) rfl)
    · skip
      refine z_iconst (pc := 21) (v := 1) C dX6_isOpen_21 (by decide) ?_
      refine z_goto (pc := 22) 26 C dX6_isOpen_22 (by decide) ?_
      exact z_zret (pc := 26) C E dX6_isOpen_26 (by first | rfl | assumption | exact nb_X8_isWithin | exact nb_X8_isPicture | exact nb_X8_isInPicture | exact nb_X8_isPlace | exact nb_X8_isSize) (pI.mk (by simp only [f_X6_isOpen, if_neg c_5, if_neg c_18]) rfl)


def b_X8_joinedRow_6 (s : Int32) (p : Int32) (d : Int32) (join : Int32) (i_6 : Nat) (z_6 : Int32) : Int32 := if ((join >>> ((nI i_6) &&& 31)) &&& 1) = 1 then if ((nI i_6) &&& 4) = 0 then if ((nI i_6) &&& 2) = 0 then if ((nI i_6) &&& 1) = 0 then z_6 ||| (((s ^^^ (-1)) &&& (p ^^^ (-1))) &&& (d ^^^ (-1))) else z_6 ||| (((s ^^^ (-1)) &&& (p ^^^ (-1))) &&& d) else if ((nI i_6) &&& 1) = 0 then z_6 ||| (((s ^^^ (-1)) &&& p) &&& (d ^^^ (-1))) else z_6 ||| (((s ^^^ (-1)) &&& p) &&& d) else if ((nI i_6) &&& 2) = 0 then if ((nI i_6) &&& 1) = 0 then z_6 ||| ((s &&& (p ^^^ (-1))) &&& (d ^^^ (-1))) else z_6 ||| ((s &&& (p ^^^ (-1))) &&& d) else if ((nI i_6) &&& 1) = 0 then z_6 ||| ((s &&& p) &&& (d ^^^ (-1))) else z_6 ||| ((s &&& p) &&& d) else z_6
def s_X8_joinedRow_6 (s : Int32) (p : Int32) (d : Int32) (join : Int32) : Nat → Int32
  | 0 => 0
  | i_6 + 1 => b_X8_joinedRow_6 s p d join i_6 (s_X8_joinedRow_6 s p d join i_6)
def f_X8_joinedRow (s : Int32) (p : Int32) (d : Int32) (join : Int32) : Int32 := (s_X8_joinedRow_6 s p d join 8)
set_option maxRecDepth 100000 in
theorem c_X8_joinedRow {l : Launch} {G : zG} {s : Int32} {p : Int32} {d : Int32} {join : Int32} : Ct l G yX8_joinedRow cX8_joinedRow 6 (Option.some FieldType.int) 0 0 [.int s, .int p, .int d, .int join] ([]) (pI (f_X8_joinedRow s p d join) ([])) := by
  refine Ct.of (plainFor_of_name (by decide)) (Nat.le_of_ble_eq_true rfl) (pI.ad rfl) (fun X C E => ?_)
  show Z X G 6 0 0 _ 0 [(0, .int s), (1, .int p), (2, .int d), (3, .int join)] []
  refine z_iconst (pc := 0) (v := 0) C dX8_joinedRow_0 (by decide) ?_
  refine z_istore (pc := 1) [(4, _), (0, _), (1, _), (2, _), (3, _)] C dX8_joinedRow_1 (by decide) rfl ?_
  refine z_iconst (pc := 3) (v := 0) C dX8_joinedRow_3 (by decide) ?_
  refine z_istore (pc := 4) [(5, _), (4, _), (0, _), (1, _), (2, _), (3, _)] C dX8_joinedRow_4 (by decide) rfl ?_
  refine z_lv (lv' := [(0, _), (1, _), (2, _), (3, _), (4, _), (5, _)]) [2, 3, 4, 5, 1, 0] rfl ?_
  refine z_loop (pc := 6) (e := 8) (fun i_6 => []) (fun i_6 => [(0, .int s), (1, .int p), (2, .int d), (3, .int join), (4, .int (s_X8_joinedRow_6 s p d join i_6)), (5, .int (nI i_6))]) [] (fun i_6 hi_6 ih_6 => ?_) ?_ 0 (Nat.zero_le _)
  · show Z X G 6 0 0 ([]) 6 [(0, .int s), (1, .int p), (2, .int d), (3, .int join), (4, .int (s_X8_joinedRow_6 s p d join i_6)), (5, .int (nI i_6))] []
    generalize hz_6 : s_X8_joinedRow_6 s p d join i_6 = z_6
    refine z_iload (pc := 6) C 5 dX8_joinedRow_6 rfl ?_
    refine z_bipush (pc := 8) (v := 8) C dX8_joinedRow_8 (by decide) ?_
    refine z_icmp_ge (pc := 10) 78 C dX8_joinedRow_10 (by decide) (fun c_10 => ?_) (fun c_10 => ?_)
    · skip
      exact absurd c_10 (nI_ge (b := 8) (by omega) (by decide))
    · skip
      refine z_iload_n (pc := 13) C 3 dX8_joinedRow_13 rfl ?_
      refine z_iload (pc := 14) C 5 dX8_joinedRow_14 rfl ?_
      refine z_ishr (pc := 16) C dX8_joinedRow_16 ?_
      refine z_iconst (pc := 17) (v := 1) C dX8_joinedRow_17 (by decide) ?_
      refine z_iand (pc := 18) C dX8_joinedRow_18 ?_
      refine z_iconst (pc := 19) (v := 1) C dX8_joinedRow_19 (by decide) ?_
      refine z_icmp_ne (pc := 20) 72 C dX8_joinedRow_20 (by decide) (fun c_20 => ?_) (fun c_20 => ?_)
      · skip
        refine z_iinc (pc := 72) (v := nI (i_6 + 1)) [(5, _), (0, _), (1, _), (2, _), (3, _), (4, _)] C 5 dX8_joinedRow_72 rfl ((nI_succ _).symm) (by decide) rfl ?_
        refine z_goto (pc := 75) 6 C dX8_joinedRow_75 (by decide) ?_
        refine z_lv (lv' := [(0, _), (1, _), (2, _), (3, _), (4, _), (5, _)]) [1, 2, 3, 4, 5, 0] rfl ?_
        exact z_eq rfl (by simp only [s_X8_joinedRow_6, hz_6, b_X8_joinedRow_6, if_neg c_10, if_neg c_20]) rfl ih_6
      · skip
        refine z_iload (pc := 23) C 4 dX8_joinedRow_23 rfl ?_
        refine z_iload (pc := 25) C 5 dX8_joinedRow_25 rfl ?_
        refine z_iconst (pc := 27) (v := 4) C dX8_joinedRow_27 (by decide) ?_
        refine z_iand (pc := 28) C dX8_joinedRow_28 ?_
        refine z_if_eq (pc := 29) 36 C dX8_joinedRow_29 (by decide) (fun c_29 => ?_) (fun c_29 => ?_)
        · skip
          refine z_iload_n (pc := 36) C 0 dX8_joinedRow_36 rfl ?_
          refine z_iconst (pc := 37) (v := (-1)) C dX8_joinedRow_37 (by decide) ?_
          refine z_ixor (pc := 38) C dX8_joinedRow_38 ?_
          refine z_iload (pc := 39) C 5 dX8_joinedRow_39 rfl ?_
          refine z_iconst (pc := 41) (v := 2) C dX8_joinedRow_41 (by decide) ?_
          refine z_iand (pc := 42) C dX8_joinedRow_42 ?_
          refine z_if_eq (pc := 43) 50 C dX8_joinedRow_43 (by decide) (fun c_43 => ?_) (fun c_43 => ?_)
          · skip
            refine z_iload_n (pc := 50) C 1 dX8_joinedRow_50 rfl ?_
            refine z_iconst (pc := 51) (v := (-1)) C dX8_joinedRow_51 (by decide) ?_
            refine z_ixor (pc := 52) C dX8_joinedRow_52 ?_
            refine z_iand (pc := 53) C dX8_joinedRow_53 ?_
            refine z_iload (pc := 54) C 5 dX8_joinedRow_54 rfl ?_
            refine z_iconst (pc := 56) (v := 1) C dX8_joinedRow_56 (by decide) ?_
            refine z_iand (pc := 57) C dX8_joinedRow_57 ?_
            refine z_if_eq (pc := 58) 65 C dX8_joinedRow_58 (by decide) (fun c_58 => ?_) (fun c_58 => ?_)
            · skip
              refine z_iload_n (pc := 65) C 2 dX8_joinedRow_65 rfl ?_
              refine z_iconst (pc := 66) (v := (-1)) C dX8_joinedRow_66 (by decide) ?_
              refine z_ixor (pc := 67) C dX8_joinedRow_67 ?_
              refine z_iand (pc := 68) C dX8_joinedRow_68 ?_
              refine z_ior (pc := 69) C dX8_joinedRow_69 ?_
              refine z_istore (pc := 70) [(4, _), (0, _), (1, _), (2, _), (3, _), (5, _)] C dX8_joinedRow_70 (by decide) rfl ?_
              refine z_iinc (pc := 72) (v := nI (i_6 + 1)) [(5, _), (4, _), (0, _), (1, _), (2, _), (3, _)] C 5 dX8_joinedRow_72 rfl ((nI_succ _).symm) (by decide) rfl ?_
              refine z_goto (pc := 75) 6 C dX8_joinedRow_75 (by decide) ?_
              refine z_lv (lv' := [(0, _), (1, _), (2, _), (3, _), (4, _), (5, _)]) [2, 3, 4, 5, 1, 0] rfl ?_
              exact z_eq rfl (by simp only [s_X8_joinedRow_6, hz_6, b_X8_joinedRow_6, if_neg c_10, if_pos c_20, if_pos c_29, if_pos c_43, if_pos c_58]) rfl ih_6
            · skip
              refine z_iload_n (pc := 61) C 2 dX8_joinedRow_61 rfl ?_
              refine z_goto (pc := 62) 68 C dX8_joinedRow_62 (by decide) ?_
              refine z_iand (pc := 68) C dX8_joinedRow_68 ?_
              refine z_ior (pc := 69) C dX8_joinedRow_69 ?_
              refine z_istore (pc := 70) [(4, _), (0, _), (1, _), (2, _), (3, _), (5, _)] C dX8_joinedRow_70 (by decide) rfl ?_
              refine z_iinc (pc := 72) (v := nI (i_6 + 1)) [(5, _), (4, _), (0, _), (1, _), (2, _), (3, _)] C 5 dX8_joinedRow_72 rfl ((nI_succ _).symm) (by decide) rfl ?_
              refine z_goto (pc := 75) 6 C dX8_joinedRow_75 (by decide) ?_
              refine z_lv (lv' := [(0, _), (1, _), (2, _), (3, _), (4, _), (5, _)]) [2, 3, 4, 5, 1, 0] rfl ?_
              exact z_eq rfl (by simp only [s_X8_joinedRow_6, hz_6, b_X8_joinedRow_6, if_neg c_10, if_pos c_20, if_pos c_29, if_pos c_43, if_neg c_58]) rfl ih_6
          · skip
            refine z_iload_n (pc := 46) C 1 dX8_joinedRow_46 rfl ?_
            refine z_goto (pc := 47) 53 C dX8_joinedRow_47 (by decide) ?_
            refine z_iand (pc := 53) C dX8_joinedRow_53 ?_
            refine z_iload (pc := 54) C 5 dX8_joinedRow_54 rfl ?_
            refine z_iconst (pc := 56) (v := 1) C dX8_joinedRow_56 (by decide) ?_
            refine z_iand (pc := 57) C dX8_joinedRow_57 ?_
            refine z_if_eq (pc := 58) 65 C dX8_joinedRow_58 (by decide) (fun c_58 => ?_) (fun c_58 => ?_)
            · skip
              refine z_iload_n (pc := 65) C 2 dX8_joinedRow_65 rfl ?_
              refine z_iconst (pc := 66) (v := (-1)) C dX8_joinedRow_66 (by decide) ?_
              refine z_ixor (pc := 67) C dX8_joinedRow_67 ?_
              refine z_iand (pc := 68) C dX8_joinedRow_68 ?_
              refine z_ior (pc := 69) C dX8_joinedRow_69 ?_
              refine z_istore (pc := 70) [(4, _), (0, _), (1, _), (2, _), (3, _), (5, _)] C dX8_joinedRow_70 (by decide) rfl ?_
              refine z_iinc (pc := 72) (v := nI (i_6 + 1)) [(5, _), (4, _), (0, _), (1, _), (2, _), (3, _)] C 5 dX8_joinedRow_72 rfl ((nI_succ _).symm) (by decide) rfl ?_
              refine z_goto (pc := 75) 6 C dX8_joinedRow_75 (by decide) ?_
              refine z_lv (lv' := [(0, _), (1, _), (2, _), (3, _), (4, _), (5, _)]) [2, 3, 4, 5, 1, 0] rfl ?_
              exact z_eq rfl (by simp only [s_X8_joinedRow_6, hz_6, b_X8_joinedRow_6, if_neg c_10, if_pos c_20, if_pos c_29, if_neg c_43, if_pos c_58]) rfl ih_6
            · skip
              refine z_iload_n (pc := 61) C 2 dX8_joinedRow_61 rfl ?_
              refine z_goto (pc := 62) 68 C dX8_joinedRow_62 (by decide) ?_
              refine z_iand (pc := 68) C dX8_joinedRow_68 ?_
              refine z_ior (pc := 69) C dX8_joinedRow_69 ?_
              refine z_istore (pc := 70) [(4, _), (0, _), (1, _), (2, _), (3, _), (5, _)] C dX8_joinedRow_70 (by decide) rfl ?_
              refine z_iinc (pc := 72) (v := nI (i_6 + 1)) [(5, _), (4, _), (0, _), (1, _), (2, _), (3, _)] C 5 dX8_joinedRow_72 rfl ((nI_succ _).symm) (by decide) rfl ?_
              refine z_goto (pc := 75) 6 C dX8_joinedRow_75 (by decide) ?_
              refine z_lv (lv' := [(0, _), (1, _), (2, _), (3, _), (4, _), (5, _)]) [2, 3, 4, 5, 1, 0] rfl ?_
              exact z_eq rfl (by simp only [s_X8_joinedRow_6, hz_6, b_X8_joinedRow_6, if_neg c_10, if_pos c_20, if_pos c_29, if_neg c_43, if_neg c_58]) rfl ih_6
        · skip
          refine z_iload_n (pc := 32) C 0 dX8_joinedRow_32 rfl ?_
          refine z_goto (pc := 33) 39 C dX8_joinedRow_33 (by decide) ?_
          refine z_iload (pc := 39) C 5 dX8_joinedRow_39 rfl ?_
          refine z_iconst (pc := 41) (v := 2) C dX8_joinedRow_41 (by decide) ?_
          refine z_iand (pc := 42) C dX8_joinedRow_42 ?_
          refine z_if_eq (pc := 43) 50 C dX8_joinedRow_43 (by decide) (fun c_43 => ?_) (fun c_43 => ?_)
          · skip
            refine z_iload_n (pc := 50) C 1 dX8_joinedRow_50 rfl ?_
            refine z_iconst (pc := 51) (v := (-1)) C dX8_joinedRow_51 (by decide) ?_
            refine z_ixor (pc := 52) C dX8_joinedRow_52 ?_
            refine z_iand (pc := 53) C dX8_joinedRow_53 ?_
            refine z_iload (pc := 54) C 5 dX8_joinedRow_54 rfl ?_
            refine z_iconst (pc := 56) (v := 1) C dX8_joinedRow_56 (by decide) ?_
            refine z_iand (pc := 57) C dX8_joinedRow_57 ?_
            refine z_if_eq (pc := 58) 65 C dX8_joinedRow_58 (by decide) (fun c_58 => ?_) (fun c_58 => ?_)
            · skip
              refine z_iload_n (pc := 65) C 2 dX8_joinedRow_65 rfl ?_
              refine z_iconst (pc := 66) (v := (-1)) C dX8_joinedRow_66 (by decide) ?_
              refine z_ixor (pc := 67) C dX8_joinedRow_67 ?_
              refine z_iand (pc := 68) C dX8_joinedRow_68 ?_
              refine z_ior (pc := 69) C dX8_joinedRow_69 ?_
              refine z_istore (pc := 70) [(4, _), (0, _), (1, _), (2, _), (3, _), (5, _)] C dX8_joinedRow_70 (by decide) rfl ?_
              refine z_iinc (pc := 72) (v := nI (i_6 + 1)) [(5, _), (4, _), (0, _), (1, _), (2, _), (3, _)] C 5 dX8_joinedRow_72 rfl ((nI_succ _).symm) (by decide) rfl ?_
              refine z_goto (pc := 75) 6 C dX8_joinedRow_75 (by decide) ?_
              refine z_lv (lv' := [(0, _), (1, _), (2, _), (3, _), (4, _), (5, _)]) [2, 3, 4, 5, 1, 0] rfl ?_
              exact z_eq rfl (by simp only [s_X8_joinedRow_6, hz_6, b_X8_joinedRow_6, if_neg c_10, if_pos c_20, if_neg c_29, if_pos c_43, if_pos c_58]) rfl ih_6
            · skip
              refine z_iload_n (pc := 61) C 2 dX8_joinedRow_61 rfl ?_
              refine z_goto (pc := 62) 68 C dX8_joinedRow_62 (by decide) ?_
              refine z_iand (pc := 68) C dX8_joinedRow_68 ?_
              refine z_ior (pc := 69) C dX8_joinedRow_69 ?_
              refine z_istore (pc := 70) [(4, _), (0, _), (1, _), (2, _), (3, _), (5, _)] C dX8_joinedRow_70 (by decide) rfl ?_
              refine z_iinc (pc := 72) (v := nI (i_6 + 1)) [(5, _), (4, _), (0, _), (1, _), (2, _), (3, _)] C 5 dX8_joinedRow_72 rfl ((nI_succ _).symm) (by decide) rfl ?_
              refine z_goto (pc := 75) 6 C dX8_joinedRow_75 (by decide) ?_
              refine z_lv (lv' := [(0, _), (1, _), (2, _), (3, _), (4, _), (5, _)]) [2, 3, 4, 5, 1, 0] rfl ?_
              exact z_eq rfl (by simp only [s_X8_joinedRow_6, hz_6, b_X8_joinedRow_6, if_neg c_10, if_pos c_20, if_neg c_29, if_pos c_43, if_neg c_58]) rfl ih_6
          · skip
            refine z_iload_n (pc := 46) C 1 dX8_joinedRow_46 rfl ?_
            refine z_goto (pc := 47) 53 C dX8_joinedRow_47 (by decide) ?_
            refine z_iand (pc := 53) C dX8_joinedRow_53 ?_
            refine z_iload (pc := 54) C 5 dX8_joinedRow_54 rfl ?_
            refine z_iconst (pc := 56) (v := 1) C dX8_joinedRow_56 (by decide) ?_
            refine z_iand (pc := 57) C dX8_joinedRow_57 ?_
            refine z_if_eq (pc := 58) 65 C dX8_joinedRow_58 (by decide) (fun c_58 => ?_) (fun c_58 => ?_)
            · skip
              refine z_iload_n (pc := 65) C 2 dX8_joinedRow_65 rfl ?_
              refine z_iconst (pc := 66) (v := (-1)) C dX8_joinedRow_66 (by decide) ?_
              refine z_ixor (pc := 67) C dX8_joinedRow_67 ?_
              refine z_iand (pc := 68) C dX8_joinedRow_68 ?_
              refine z_ior (pc := 69) C dX8_joinedRow_69 ?_
              refine z_istore (pc := 70) [(4, _), (0, _), (1, _), (2, _), (3, _), (5, _)] C dX8_joinedRow_70 (by decide) rfl ?_
              refine z_iinc (pc := 72) (v := nI (i_6 + 1)) [(5, _), (4, _), (0, _), (1, _), (2, _), (3, _)] C 5 dX8_joinedRow_72 rfl ((nI_succ _).symm) (by decide) rfl ?_
              refine z_goto (pc := 75) 6 C dX8_joinedRow_75 (by decide) ?_
              refine z_lv (lv' := [(0, _), (1, _), (2, _), (3, _), (4, _), (5, _)]) [2, 3, 4, 5, 1, 0] rfl ?_
              exact z_eq rfl (by simp only [s_X8_joinedRow_6, hz_6, b_X8_joinedRow_6, if_neg c_10, if_pos c_20, if_neg c_29, if_neg c_43, if_pos c_58]) rfl ih_6
            · skip
              refine z_iload_n (pc := 61) C 2 dX8_joinedRow_61 rfl ?_
              refine z_goto (pc := 62) 68 C dX8_joinedRow_62 (by decide) ?_
              refine z_iand (pc := 68) C dX8_joinedRow_68 ?_
              refine z_ior (pc := 69) C dX8_joinedRow_69 ?_
              refine z_istore (pc := 70) [(4, _), (0, _), (1, _), (2, _), (3, _), (5, _)] C dX8_joinedRow_70 (by decide) rfl ?_
              refine z_iinc (pc := 72) (v := nI (i_6 + 1)) [(5, _), (4, _), (0, _), (1, _), (2, _), (3, _)] C 5 dX8_joinedRow_72 rfl ((nI_succ _).symm) (by decide) rfl ?_
              refine z_goto (pc := 75) 6 C dX8_joinedRow_75 (by decide) ?_
              refine z_lv (lv' := [(0, _), (1, _), (2, _), (3, _), (4, _), (5, _)]) [2, 3, 4, 5, 1, 0] rfl ?_
              exact z_eq rfl (by simp only [s_X8_joinedRow_6, hz_6, b_X8_joinedRow_6, if_neg c_10, if_pos c_20, if_neg c_29, if_neg c_43, if_neg c_58]) rfl ih_6
  · show Z X G 6 0 0 ([]) 6 [(0, .int s), (1, .int p), (2, .int d), (3, .int join), (4, .int (s_X8_joinedRow_6 s p d join 8)), (5, .int (nI 8))] []
    refine z_iload (pc := 6) C 5 dX8_joinedRow_6 rfl ?_
    refine z_bipush (pc := 8) (v := 8) C dX8_joinedRow_8 (by decide) ?_
    refine z_icmp_ge (pc := 10) 78 C dX8_joinedRow_10 (by decide) (fun c_10 => ?_) (fun c_10 => ?_)
    · skip
      refine z_iload (pc := 78) C 4 dX8_joinedRow_78 rfl ?_
      exact z_iret (pc := 80) C E dX8_joinedRow_80 (pI.mk (by simp only [f_X8_joinedRow, if_pos c_10]) rfl)
    · skip
      exact absurd (nI_le (Nat.le_refl 8) (by decide)) c_10

def f_X6_turnsDots (t : Int32) (y : Int32) (mask : Int32) : Int32 := if (f_X8_isPicture t) = 0 then 0 else if (f_X8_isWithin y 0 23) = 0 then 0 else f_J6_bitCount_0f7a4 mask
def g_X6_turnsDots_rows (rows : Nat → Int32) (t : Int32) (y : Int32) (mask : Int32) : Nat → Int32 := if (f_X8_isPicture t) = 0 then rows else if (f_X8_isWithin y 0 23) = 0 then rows else upd rows ((t * 24) + y).toNatClampNeg ((rows ((t * 24) + y).toNatClampNeg) ^^^ mask)
set_option maxRecDepth 100000 in
theorem c_X6_turnsDots {l : Launch} {G : zG} {so sr sp sq : Nat} {rows : Nat → Int32} {pat : Nat → Int32} {ops : Nat → Int32} {cnt : Int32} {t : Int32} {y : Int32} {mask : Int32} : Ct l G yX6_turnsDots cX6_turnsDots 4 (Option.some FieldType.int) 2 42 [.ref so, .int t, .int y, .int mask] (wSc G so sr sp sq rows pat ops cnt) (pI (f_X6_turnsDots t y mask) (wSc G so sr sp sq (g_X6_turnsDots_rows rows t y mask) pat ops cnt)) := by
  refine Ct.of (plainFor_of_name (by decide)) (Nat.le_of_ble_eq_true rfl) (pI.ad rfl) (fun X C E => ?_)
  show Z X G 4 0 0 _ 0 [(0, .ref so), (1, .int t), (2, .int y), (3, .int mask)] []
  refine z_iload_n (pc := 0) C 1 dX6_turnsDots_0 rfl ?_
  refine z_callSN (pc := 1) C (c_X8_isPicture) [] z00 mS_X8_isPicture q_323 dX6_turnsDots_1 rfl rfl rfl rfl (Nat.le_of_ble_eq_true rfl) (by decide) (pI.stay rfl ?_)
  refine z_if_eq (pc := 4) 17 C dX6_turnsDots_4 (by decide) (fun c_4 => ?_) (fun c_4 => ?_)
  · skip
    refine z_iconst (pc := 17) (v := 0) C dX6_turnsDots_17 (by decide) ?_
    exact z_iret (pc := 18) C E dX6_turnsDots_18 (pI.mk (by simp only [f_X6_turnsDots, if_pos c_4]) (by simp only [g_X6_turnsDots_rows, if_pos c_4]))
  · skip
    refine z_iload_n (pc := 7) C 2 dX6_turnsDots_7 rfl ?_
    refine z_iconst (pc := 8) (v := 0) C dX6_turnsDots_8 (by decide) ?_
    refine z_bipush (pc := 9) (v := 23) C dX6_turnsDots_9 (by decide) ?_
    refine z_callSN (pc := 11) C (c_X8_isWithin) [] z00 mS_X8_isWithin q_324 dX6_turnsDots_11 rfl rfl rfl rfl (Nat.le_of_ble_eq_true rfl) (by decide) (pI.stay rfl ?_)
    refine z_if_ne (pc := 14) 19 C dX6_turnsDots_14 (by decide) (fun c_14 => ?_) (fun c_14 => ?_)
    · skip
      refine z_aload_n (pc := 19) C 0 dX6_turnsDots_19 rfl ?_
      refine z_get (pc := 20) C 0 0 dX6_turnsDots_20 rfl rfl i_X6 (by decide) q_98 rfl ?_
      refine z_iload_n (pc := 23) C 1 dX6_turnsDots_23 rfl ?_
      refine z_bipush (pc := 24) (v := 24) C dX6_turnsDots_24 (by decide) ?_
      refine z_imul (pc := 26) C dX6_turnsDots_26 ?_
      refine z_iload_n (pc := 27) C 2 dX6_turnsDots_27 rfl ?_
      refine z_iadd (pc := 28) C dX6_turnsDots_28 ?_
      refine z_dup2 (pc := 29) C dX6_turnsDots_29 rfl rfl ?_
      refine z_iald (pc := 30) C 1 dX6_turnsDots_30 rfl (ix_rt c_4 c_14) ?_
      refine z_iload_n (pc := 31) C 3 dX6_turnsDots_31 rfl ?_
      refine z_ixor (pc := 32) C dX6_turnsDots_32 ?_
      refine z_iast (pc := 33) (wSc G so sr sp sq _ pat ops cnt) C 1 dX6_turnsDots_33 rfl (ix_rt c_4 c_14) rfl ?_
      refine z_iload_n (pc := 34) C 3 dX6_turnsDots_34 rfl ?_
      refine z_callS (pc := 35) C (c_J6_bitCount_0f7a4) [] z00 mS_J6_bitCount_0f7a4 q_515 dX6_turnsDots_35 rfl rfl rfl rfl (Nat.le_of_ble_eq_true rfl) (by decide) (pI.stay rfl ?_)
      exact z_iret (pc := 38) C E dX6_turnsDots_38 (pI.mk (by simp only [f_X6_turnsDots, if_neg c_4, if_neg c_14]) (by simp only [g_X6_turnsDots_rows, if_neg c_4, if_neg c_14]))
    · skip
      refine z_iconst (pc := 17) (v := 0) C dX6_turnsDots_17 (by decide) ?_
      exact z_iret (pc := 18) C E dX6_turnsDots_18 (pI.mk (by simp only [f_X6_turnsDots, if_neg c_4, if_pos c_14]) (by simp only [g_X6_turnsDots_rows, if_neg c_4, if_pos c_14]))

def f_X6_joinsRow (rows : Nat → Int32) (pat : Nat → Int32) (ops : Nat → Int32) (cnt : Int32) (t : Int32) (y : Int32) (mask : Int32) (source : Int32) (join : Int32) : Int32 := if (mask &&& (f_X6_openAt ops cnt y)) = 0 then 0 else f_X6_turnsDots t y (((f_X8_joinedRow source (f_X6_patternAt pat y) (f_X6_rowAt rows t y) join) ^^^ (f_X6_rowAt rows t y)) &&& (mask &&& (f_X6_openAt ops cnt y)))
def g_X6_joinsRow_rows (rows : Nat → Int32) (pat : Nat → Int32) (ops : Nat → Int32) (cnt : Int32) (t : Int32) (y : Int32) (mask : Int32) (source : Int32) (join : Int32) : Nat → Int32 := if (mask &&& (f_X6_openAt ops cnt y)) = 0 then rows else g_X6_turnsDots_rows rows t y (((f_X8_joinedRow source (f_X6_patternAt pat y) (f_X6_rowAt rows t y) join) ^^^ (f_X6_rowAt rows t y)) &&& (mask &&& (f_X6_openAt ops cnt y)))
set_option maxRecDepth 100000 in
theorem c_X6_joinsRow {l : Launch} {G : zG} {so sr sp sq : Nat} {rows : Nat → Int32} {pat : Nat → Int32} {ops : Nat → Int32} {cnt : Int32} {t : Int32} {y : Int32} {mask : Int32} {source : Int32} {join : Int32} (hc : cOk cnt) : Ct l G yX6_joinsRow cX6_joinsRow 9 (Option.some FieldType.int) 3 69 [.ref so, .int t, .int y, .int mask, .int source, .int join] (wSc G so sr sp sq rows pat ops cnt) (pI (f_X6_joinsRow rows pat ops cnt t y mask source join) (wSc G so sr sp sq (g_X6_joinsRow_rows rows pat ops cnt t y mask source join) pat ops cnt)) := by
  refine Ct.of (plainFor_of_name (by decide)) (Nat.le_of_ble_eq_true rfl) (pI.ad rfl) (fun X C E => ?_)
  show Z X G 9 0 0 _ 0 [(0, .ref so), (1, .int t), (2, .int y), (3, .int mask), (4, .int source), (5, .int join)] []
  refine z_iload_n (pc := 0) C 3 dX6_joinsRow_0 rfl ?_
  refine z_aload_n (pc := 1) C 0 dX6_joinsRow_1 rfl ?_
  refine z_iload_n (pc := 2) C 2 dX6_joinsRow_2 rfl ?_
  refine z_callV (pc := 3) C (c_X6_openAt (by assumption)) [0, 1, 2, 3] z00 mV_X6_openAt q_498 dX6_joinsRow_3 rfl rfl rfl 0 rfl rfl rfl rfl (Nat.le_of_ble_eq_true rfl) (by decide) (pI.stay rfl ?_)
  refine z_iand (pc := 6) C dX6_joinsRow_6 ?_
  refine z_istore (pc := 7) [(6, _), (0, _), (1, _), (2, _), (3, _), (4, _), (5, _)] C dX6_joinsRow_7 (by decide) rfl ?_
  refine z_iload (pc := 9) C 0 dX6_joinsRow_9 rfl ?_
  refine z_if_ne (pc := 11) 16 C dX6_joinsRow_11 (by decide) (fun c_11 => ?_) (fun c_11 => ?_)
  · skip
    refine z_aload_n (pc := 16) C 1 dX6_joinsRow_16 rfl ?_
    refine z_iload_n (pc := 17) C 2 dX6_joinsRow_17 rfl ?_
    refine z_iload_n (pc := 18) C 3 dX6_joinsRow_18 rfl ?_
    refine z_callV (pc := 19) C (c_X6_rowAt) [0, 1, 2, 3] z00 mV_X6_rowAt q_319 dX6_joinsRow_19 rfl rfl rfl 0 rfl rfl rfl rfl (Nat.le_of_ble_eq_true rfl) (by decide) (pI.stay rfl ?_)
    refine z_istore (pc := 22) [(7, _), (6, _), (0, _), (1, _), (2, _), (3, _), (4, _), (5, _)] C dX6_joinsRow_22 (by decide) rfl ?_
    refine z_iload (pc := 24) C 6 dX6_joinsRow_24 rfl ?_
    refine z_aload_n (pc := 26) C 2 dX6_joinsRow_26 rfl ?_
    refine z_iload_n (pc := 27) C 4 dX6_joinsRow_27 rfl ?_
    refine z_callV (pc := 28) C (c_X6_patternAt) [0, 1, 2, 3] z00 mV_X6_patternAt q_503 dX6_joinsRow_28 rfl rfl rfl 0 rfl rfl rfl rfl (Nat.le_of_ble_eq_true rfl) (by decide) (pI.stay rfl ?_)
    refine z_iload (pc := 31) C 0 dX6_joinsRow_31 rfl ?_
    refine z_iload (pc := 33) C 7 dX6_joinsRow_33 rfl ?_
    refine z_callSN (pc := 35) C (c_X8_joinedRow) [] z00 mS_X8_joinedRow q_508 dX6_joinsRow_35 rfl rfl rfl rfl (Nat.le_of_ble_eq_true rfl) (by decide) (pI.stay rfl ?_)
    refine z_istore (pc := 38) [(8, _), (7, _), (6, _), (0, _), (1, _), (2, _), (3, _), (4, _), (5, _)] C dX6_joinsRow_38 (by decide) rfl ?_
    refine z_aload_n (pc := 40) C 3 dX6_joinsRow_40 rfl ?_
    refine z_iload_n (pc := 41) C 4 dX6_joinsRow_41 rfl ?_
    refine z_iload_n (pc := 42) C 5 dX6_joinsRow_42 rfl ?_
    refine z_iload (pc := 43) C 0 dX6_joinsRow_43 rfl ?_
    refine z_iload (pc := 45) C 1 dX6_joinsRow_45 rfl ?_
    refine z_ixor (pc := 47) C dX6_joinsRow_47 ?_
    refine z_iload (pc := 48) C 2 dX6_joinsRow_48 rfl ?_
    refine z_iand (pc := 50) C dX6_joinsRow_50 ?_
    refine z_callV (pc := 51) C (c_X6_turnsDots) [0, 1, 2, 3] z00 mV_X6_turnsDots q_511 dX6_joinsRow_51 rfl rfl rfl 0 rfl rfl rfl rfl (Nat.le_of_ble_eq_true rfl) (by decide) (pI.go (ws' := wSc G so sr sp sq _ pat ops cnt) rfl ?_)
    exact z_iret (pc := 54) C E dX6_joinsRow_54 (pI.mk (by simp only [f_X6_joinsRow, if_neg c_11]) (by simp only [g_X6_joinsRow_rows, if_neg c_11]))
  · skip
    refine z_iconst (pc := 14) (v := 0) C dX6_joinsRow_14 (by decide) ?_
    exact z_iret (pc := 15) C E dX6_joinsRow_15 (pI.mk (by simp only [f_X6_joinsRow, if_pos c_11]) (by simp only [g_X6_joinsRow_rows, if_pos c_11]))
end
