def gW : List Cond := lw_tbl.filter goodWord
theorem gW_of {n : Nat} {w : Cond} (h : lw_tbl[n]? = some w) (g : goodWord w = true) : w ∈ gW := List.mem_filter.mpr ⟨List.mem_of_getElem? h, g⟩
theorem gW_good {w : Cond} (h : w ∈ gW) : goodWord w = true := (List.mem_filter.mp h).2
theorem gW_tbl {w : Cond} (h : w ∈ gW) : w ∈ lw_tbl := (List.mem_filter.mp h).1
theorem gW_in {y : MethodName} {c : ByteArray} {n : Nat} {r : Option FieldType} (h : Cond.code y c n r ∈ gW) : GoodIn gW (Cond.code y c n r :: gW) := fun w hw => by
  rcases List.mem_cons.mp hw with rfl | hw
  · exact ⟨h, good_of_word (gW_good h)⟩
  · exact ⟨hw, good_of_word (gW_good hw)⟩
def zIsN : Cond → Bool
  | .methodLinkNest .. => true
  | _ => false
def nW : List Cond := lw_tbl.filter zIsN
theorem nW_of {n : Nat} {w : Cond} (h : lw_tbl[n]? = some w) (g : zIsN w = true) : w ∈ nW := List.mem_filter.mpr ⟨List.mem_of_getElem? h, g⟩
theorem nW_warm {s U : State} (hW : s.WarmedH U.vm) {w : Cond} (hw : w ∈ nW) (h : va_Nw w s) : va_Nw w U := by
  have g := (List.mem_filter.mp hw).2
  cases w <;> first | exact va_Nw.warmM hW h | (simp [zIsN] at g; done)
theorem nW_on {w : Cond} (hw : w ∈ nW) : w.onTables = true := by
  have g := (List.mem_filter.mp hw).2
  cases w <;> first | rfl | (simp [zIsN] at g; done)

theorem q_0 : (Cond.selects RX8 yX8_refusedBad yX8_refusedBad) ∈ gW := gW_of (n := 0) (by decide +kernel) rfl
theorem q_1 : (Cond.selects RX8 yX8_refusedFull yX8_refusedFull) ∈ gW := gW_of (n := 1) (by decide +kernel) rfl
theorem q_2 : (Cond.selects RX3 yX3_movesBlock yX3_movesBlock) ∈ gW := gW_of (n := 2) (by decide +kernel) rfl
theorem q_3 : (Cond.selects RX3 yX3_keepsSource yX3_keepsSource) ∈ gW := gW_of (n := 3) (by decide +kernel) rfl
theorem q_4 : (Cond.selects RX3 yX3_sourceAt yX3_sourceAt) ∈ gW := gW_of (n := 4) (by decide +kernel) rfl
theorem q_5 : (Cond.selects RX3 yX3_drawsLine yX3_drawsLine) ∈ gW := gW_of (n := 5) (by decide +kernel) rfl
theorem q_6 : (Cond.selects RX3 yX3_floods yX3_floods) ∈ gW := gW_of (n := 6) (by decide +kernel) rfl
theorem q_7 : (Cond.selects RX4 yX4_reaches yX4_reaches) ∈ gW := gW_of (n := 7) (by decide +kernel) rfl
theorem q_8 : (Cond.selects RX3 yX3_fillsRectangle yX3_fillsRectangle) ∈ gW := gW_of (n := 8) (by decide +kernel) rfl
theorem q_9 : (Cond.selects RX3 yX3_writesLetter yX3_writesLetter) ∈ gW := gW_of (n := 9) (by decide +kernel) rfl
theorem q_10 : (Cond.selects RX8 yX8_refusedNo yX8_refusedNo) ∈ gW := gW_of (n := 10) (by decide +kernel) rfl
theorem q_11 : (Cond.selects RX7 yX7_changedRow yX7_changedRow) ∈ gW := gW_of (n := 11) (by decide +kernel) rfl
theorem q_12 : (Cond.selects RX7 yX7_grownRow yX7_grownRow) ∈ gW := gW_of (n := 12) (by decide +kernel) rfl
theorem q_13 : (Cond.selects RX7 yX7_thinnedRow yX7_thinnedRow) ∈ gW := gW_of (n := 13) (by decide +kernel) rfl
theorem q_14 : (Cond.selects RX7 yX7_becomesWhatComes yX7_becomesWhatComes) ∈ gW := gW_of (n := 14) (by decide +kernel) rfl
theorem q_15 : (Cond.selects RX0 yX0_partsOf yX0_partsOf) ∈ gW := gW_of (n := 15) (by decide +kernel) rfl
theorem q_16 : (Cond.selects RX0 yX0_leastX yX0_leastX) ∈ gW := gW_of (n := 16) (by decide +kernel) rfl
theorem q_17 : (Cond.selects RX0 yX0_columnsOf yX0_columnsOf) ∈ gW := gW_of (n := 17) (by decide +kernel) rfl
theorem q_18 : (Cond.selects RX0 yX0_greatestX yX0_greatestX) ∈ gW := gW_of (n := 18) (by decide +kernel) rfl
theorem q_19 : (Cond.selects RX0 yX0_leastY yX0_leastY) ∈ gW := gW_of (n := 19) (by decide +kernel) rfl
theorem q_20 : (Cond.selects RX0 yX0_greatestY yX0_greatestY) ∈ gW := gW_of (n := 20) (by decide +kernel) rfl
theorem q_21 : (Cond.selects RX0 yX0_openDots yX0_openDots) ∈ gW := gW_of (n := 21) (by decide +kernel) rfl
theorem q_22 : (Cond.selects RX2 yX2_skipsBlanks yX2_skipsBlanks) ∈ gW := gW_of (n := 22) (by decide +kernel) rfl
theorem q_23 : (Cond.selects RX2 yX2_byteHere yX2_byteHere) ∈ gW := gW_of (n := 23) (by decide +kernel) rfl
theorem q_24 : (Cond.selects RX2 yX2_readsNumber yX2_readsNumber) ∈ gW := gW_of (n := 24) (by decide +kernel) rfl
theorem q_25 : (Cond.selects RX8 yX8_tally yX8_tally) ∈ gW := gW_of (n := 25) (by decide +kernel) rfl
theorem q_26 : (Cond.selects RX9 yX9_bad yX9_bad) ∈ gW := gW_of (n := 26) (by decide +kernel) rfl
theorem q_27 : (Cond.selects RX9 yX9_keep yX9_keep) ∈ gW := gW_of (n := 27) (by decide +kernel) rfl
theorem q_28 : (Cond.selects RX9 yX9_sets yX9_sets) ∈ gW := gW_of (n := 28) (by decide +kernel) rfl
theorem q_29 : (Cond.selects RX9 yX9_dotOf yX9_dotOf) ∈ gW := gW_of (n := 29) (by decide +kernel) rfl
theorem q_30 : (Cond.selects RX9 yX9_dots yX9_dots) ∈ gW := gW_of (n := 30) (by decide +kernel) rfl
theorem q_31 : (Cond.selects RX9 yX9_full yX9_full) ∈ gW := gW_of (n := 31) (by decide +kernel) rfl
theorem q_32 : (Cond.selects RX9 yX9_opens yX9_opens) ∈ gW := gW_of (n := 32) (by decide +kernel) rfl
theorem q_33 : (Cond.selects RX9 yX9_shuts yX9_shuts) ∈ gW := gW_of (n := 33) (by decide +kernel) rfl
theorem q_34 : (Cond.selects RX9 yX9_moves yX9_moves) ∈ gW := gW_of (n := 34) (by decide +kernel) rfl
theorem q_35 : (Cond.selects RX9 yX9_copies yX9_copies) ∈ gW := gW_of (n := 35) (by decide +kernel) rfl
theorem q_36 : (Cond.selects RX9 yX9_asideAt yX9_asideAt) ∈ gW := gW_of (n := 36) (by decide +kernel) rfl
theorem q_37 : (Cond.selects RX9 yX9_joinsAt yX9_joinsAt) ∈ gW := gW_of (n := 37) (by decide +kernel) rfl
theorem q_38 : (Cond.selects RX9 yX9_isOpen yX9_isOpen) ∈ gW := gW_of (n := 38) (by decide +kernel) rfl
theorem q_39 : (Cond.selects RX9 yX9_patternAt yX9_patternAt) ∈ gW := gW_of (n := 39) (by decide +kernel) rfl
theorem q_40 : (Cond.selects RX9 yX9_lines yX9_lines) ∈ gW := gW_of (n := 40) (by decide +kernel) rfl
theorem q_41 : (Cond.selects RX9 yX9_mayFlood yX9_mayFlood) ∈ gW := gW_of (n := 41) (by decide +kernel) rfl
theorem q_42 : (Cond.selects RX9 yX9_no yX9_no) ∈ gW := gW_of (n := 42) (by decide +kernel) rfl
theorem q_43 : (Cond.selects RX9 yX9_floods yX9_floods) ∈ gW := gW_of (n := 43) (by decide +kernel) rfl
theorem q_44 : (Cond.selects RX9 yX9_noneCame yX9_noneCame) ∈ gW := gW_of (n := 44) (by decide +kernel) rfl
theorem q_45 : (Cond.selects RX9 yX9_spreads yX9_spreads) ∈ gW := gW_of (n := 45) (by decide +kernel) rfl
theorem q_46 : (Cond.selects RX9 yX9_comes yX9_comes) ∈ gW := gW_of (n := 46) (by decide +kernel) rfl
theorem q_47 : (Cond.selects RX9 yX9_rectangles yX9_rectangles) ∈ gW := gW_of (n := 47) (by decide +kernel) rfl
theorem q_48 : (Cond.selects RX9 yX9_letters yX9_letters) ∈ gW := gW_of (n := 48) (by decide +kernel) rfl
theorem q_49 : (Cond.selects RX9 yX9_changed yX9_changed) ∈ gW := gW_of (n := 49) (by decide +kernel) rfl
theorem q_50 : (Cond.selects RX9 yX9_sides yX9_sides) ∈ gW := gW_of (n := 50) (by decide +kernel) rfl
theorem q_51 : (Cond.selects RX9 yX9_partsOf yX9_partsOf) ∈ gW := gW_of (n := 51) (by decide +kernel) rfl
theorem q_52 : (Cond.selects RX9 yX9_openDots yX9_openDots) ∈ gW := gW_of (n := 52) (by decide +kernel) rfl
theorem q_53 : (Cond.selects RX9 yX9_edge yX9_edge) ∈ gW := gW_of (n := 53) (by decide +kernel) rfl
theorem q_54 : (Cond.selects RX9 yX9_isLike yX9_isLike) ∈ gW := gW_of (n := 54) (by decide +kernel) rfl
theorem q_55 : (Cond.selects RX9 yX9_goesThrough yX9_goesThrough) ∈ gW := gW_of (n := 55) (by decide +kernel) rfl
theorem q_56 : (Cond.selects RX9 yX9_reads yX9_reads) ∈ gW := gW_of (n := 56) (by decide +kernel) rfl
theorem q_57 : (Cond.selects RX9 yX9_skip yX9_skip) ∈ gW := gW_of (n := 57) (by decide +kernel) rfl
theorem q_58 : (Cond.selects RX9 yX9_takes yX9_takes) ∈ gW := gW_of (n := 58) (by decide +kernel) rfl
theorem q_59 : (Cond.selects RX9 yX9_isByte yX9_isByte) ∈ gW := gW_of (n := 59) (by decide +kernel) rfl
theorem q_60 : (Cond.selects RX9 yX9_doesOne yX9_doesOne) ∈ gW := gW_of (n := 60) (by decide +kernel) rfl
theorem q_61 : (Cond.selects RX9 yX9_toldOf yX9_toldOf) ∈ gW := gW_of (n := 61) (by decide +kernel) rfl
theorem q_62 : (Cond.initialized RL) ∈ gW := gW_of (n := 62) (by decide +kernel) rfl
theorem q_63 : (Cond.initialized RX8) ∈ gW := gW_of (n := 63) (by decide +kernel) rfl
theorem q_64 : (Cond.initialized RX6) ∈ gW := gW_of (n := 64) (by decide +kernel) rfl
theorem q_65 : (Cond.initialized RJ7) ∈ gW := gW_of (n := 65) (by decide +kernel) rfl
theorem q_66 : (Cond.initialized RX4) ∈ gW := gW_of (n := 66) (by decide +kernel) rfl
theorem q_67 : (Cond.initialized RX5) ∈ gW := gW_of (n := 67) (by decide +kernel) rfl
theorem q_68 : (Cond.initialized RX3) ∈ gW := gW_of (n := 68) (by decide +kernel) rfl
theorem q_69 : (Cond.initialized RX7) ∈ gW := gW_of (n := 69) (by decide +kernel) rfl
theorem q_70 : (Cond.initialized RX0) ∈ gW := gW_of (n := 70) (by decide +kernel) rfl
theorem q_71 : (Cond.initialized RX1) ∈ gW := gW_of (n := 71) (by decide +kernel) rfl
theorem q_72 : (Cond.initialized RX2) ∈ gW := gW_of (n := 72) (by decide +kernel) rfl
theorem q_73 : (Cond.initialized RX9) ∈ gW := gW_of (n := 73) (by decide +kernel) rfl
theorem q_74 : (Cond.initialized RJ10) ∈ gW := gW_of (n := 74) (by decide +kernel) rfl
theorem q_75 : (Cond.initialized RJ9) ∈ gW := gW_of (n := 75) (by decide +kernel) rfl
theorem q_76 : (Cond.initialized RJ6) ∈ gW := gW_of (n := 76) (by decide +kernel) rfl
theorem q_77 : (Cond.initialized RJ0) ∈ gW := gW_of (n := 77) (by decide +kernel) rfl
theorem q_78 : (Cond.initialized RJ1) ∈ gW := gW_of (n := 78) (by decide +kernel) rfl
theorem q_79 : (Cond.initialized RJ3) ∈ gW := gW_of (n := 79) (by decide +kernel) rfl
theorem q_80 : (Cond.initialized RJ2) ∈ gW := gW_of (n := 80) (by decide +kernel) rfl
theorem q_81 : (Cond.classLink RL 7 "PictureMoves") ∈ gW := gW_of (n := 81) (by decide +kernel) rfl
theorem q_82 : (Cond.instantiable RX8 10) ∈ gW := gW_of (n := 82) (by decide +kernel) rfl
theorem q_83 : (Cond.methodLink RL 9 yX8_init) ∈ gW := gW_of (n := 83) (by decide +kernel) rfl
theorem q_84 : (Cond.instanceMethod yX8_init) ∈ gW := gW_of (n := 84) (by decide +kernel) rfl
theorem q_85 : (Cond.code yX8_init prog_1_method_1_code 3 (Option.none : Option Jvm.ClassFile.FieldType)) ∈ gW := gW_of (n := 85) (by decide +kernel) rfl
theorem q_86 : (Cond.methodLink RX8 1 ({ cls := "java/lang/Object", name := "<init>", desc := "()V" } : Jvm.MethodName)) ∈ gW := gW_of (n := 86) (by decide +kernel) rfl
theorem q_87 : (Cond.instanceMethod ({ cls := "java/lang/Object", name := "<init>", desc := "()V" } : Jvm.MethodName)) ∈ gW := gW_of (n := 87) (by decide +kernel) rfl
theorem q_88 : (Cond.code ({ cls := "java/lang/Object", name := "<init>", desc := "()V" } : Jvm.MethodName) object_method_1_code 1 (Option.none : Option Jvm.ClassFile.FieldType)) ∈ gW := gW_of (n := 88) (by decide +kernel) rfl
theorem q_89 : (Cond.classLink RX8 7 "PictureMoves$Scene") ∈ gW := gW_of (n := 89) (by decide +kernel) rfl
theorem q_90 : (Cond.instantiable RX6 4) ∈ gW := gW_of (n := 90) (by decide +kernel) rfl
theorem q_91 : (Cond.methodLink RX8 9 yX6_init) ∈ gW := gW_of (n := 91) (by decide +kernel) rfl
theorem q_92 : (Cond.instanceMethod yX6_init) ∈ gW := gW_of (n := 92) (by decide +kernel) rfl
theorem q_93 : (Cond.code yX6_init prog_8_method_1_code 1 (Option.none : Option Jvm.ClassFile.FieldType)) ∈ gW := gW_of (n := 93) (by decide +kernel) rfl
theorem q_94 : (Cond.methodLink RX6 3 ({ cls := "java/lang/Object", name := "<init>", desc := "()V" } : Jvm.MethodName)) ∈ gW := gW_of (n := 94) (by decide +kernel) rfl
theorem q_95 : (Cond.methodLink RX6 21 yJ7_fill_53178) ∈ gW := gW_of (n := 95) (by decide +kernel) rfl
theorem q_96 : (Cond.static yJ7_fill_53178) ∈ gW := gW_of (n := 96) (by decide +kernel) rfl
theorem q_97 : (Cond.code yJ7_fill_53178 prog_18_method_103_code 4 (Option.none : Option Jvm.ClassFile.FieldType)) ∈ gW := gW_of (n := 97) (by decide +kernel) rfl
theorem q_98 : (Cond.fieldLink RX6 9 "PictureMoves$Scene" "rows" "[I") ∈ gW := gW_of (n := 98) (by decide +kernel) rfl
theorem q_99 : (Cond.fieldLink RX6 15 "PictureMoves$Scene" "patternRows" "[I") ∈ gW := gW_of (n := 99) (by decide +kernel) rfl
theorem q_100 : (Cond.fieldLink RX8 100 "PictureMoves$Scene" "patternRows" "[I") ∈ gW := gW_of (n := 100) (by decide +kernel) rfl
theorem q_101 : (Cond.fieldLink RX6 18 "PictureMoves$Scene" "openings" "[I") ∈ gW := gW_of (n := 101) (by decide +kernel) rfl
theorem q_102 : (Cond.fieldLink RX6 33 "PictureMoves$Scene" "openingCount" "I") ∈ gW := gW_of (n := 102) (by decide +kernel) rfl
theorem q_103 : (Cond.fieldLink RX3 59 "PictureMoves$Scene" "openingCount" "I") ∈ gW := gW_of (n := 103) (by decide +kernel) rfl
theorem q_104 : (Cond.fieldLink RX8 124 "PictureMoves$Scene" "openingCount" "I") ∈ gW := gW_of (n := 104) (by decide +kernel) rfl
theorem q_105 : (Cond.laysFinal "PictureMoves$Scene" "PictureMoves$Scene" "rows" "[I") ∈ gW := gW_of (n := 105) (by decide +kernel) rfl
theorem q_107 : (Cond.laysFinal "PictureMoves$Scene" "PictureMoves$Scene" "patternRows" "[I") ∈ gW := gW_of (n := 107) (by decide +kernel) rfl
theorem q_109 : (Cond.laysFinal "PictureMoves$Scene" "PictureMoves$Scene" "openings" "[I") ∈ gW := gW_of (n := 109) (by decide +kernel) rfl
theorem q_111 : (Cond.lays "PictureMoves$Scene" "PictureMoves$Scene" "openingCount" "I") ∈ gW := gW_of (n := 111) (by decide +kernel) rfl
theorem q_114 : (Cond.arrayClass FieldType.int) ∈ gW := gW_of (n := 114) (by decide +kernel) rfl
theorem q_115 : (Cond.classLink RX8 10 "PictureMoves$Parts") ∈ gW := gW_of (n := 115) (by decide +kernel) rfl
theorem q_116 : (Cond.instantiable RX4 4) ∈ gW := gW_of (n := 116) (by decide +kernel) rfl
theorem q_117 : (Cond.methodLinkNest RX8 12 yX4_init "PictureMoves") ∈ nW := nW_of (n := 117) (by decide +kernel) rfl
theorem q_118 : (Cond.instanceMethod yX4_init) ∈ gW := gW_of (n := 118) (by decide +kernel) rfl
theorem q_119 : (Cond.code yX4_init prog_6_method_1_code 1 (Option.none : Option Jvm.ClassFile.FieldType)) ∈ gW := gW_of (n := 119) (by decide +kernel) rfl
theorem q_120 : (Cond.methodLink RX4 3 ({ cls := "java/lang/Object", name := "<init>", desc := "()V" } : Jvm.MethodName)) ∈ gW := gW_of (n := 120) (by decide +kernel) rfl
theorem q_121 : (Cond.fieldLink RX4 9 "PictureMoves$Parts" "left" "[I") ∈ gW := gW_of (n := 121) (by decide +kernel) rfl
theorem q_122 : (Cond.fieldLink RX3 112 "PictureMoves$Parts" "left" "[I") ∈ gW := gW_of (n := 122) (by decide +kernel) rfl
theorem q_123 : (Cond.fieldLink RX0 71 "PictureMoves$Parts" "left" "[I") ∈ gW := gW_of (n := 123) (by decide +kernel) rfl
theorem q_124 : (Cond.fieldLink RX4 15 "PictureMoves$Parts" "stepRows" "[I") ∈ gW := gW_of (n := 124) (by decide +kernel) rfl
theorem q_125 : (Cond.fieldLink RX4 18 "PictureMoves$Parts" "stepDots" "[I") ∈ gW := gW_of (n := 125) (by decide +kernel) rfl
theorem q_126 : (Cond.fieldLink RX4 21 "PictureMoves$Parts" "steps" "I") ∈ gW := gW_of (n := 126) (by decide +kernel) rfl
theorem q_127 : (Cond.laysFinal "PictureMoves$Parts" "PictureMoves$Parts" "left" "[I") ∈ gW := gW_of (n := 127) (by decide +kernel) rfl
theorem q_129 : (Cond.laysFinal "PictureMoves$Parts" "PictureMoves$Parts" "stepRows" "[I") ∈ gW := gW_of (n := 129) (by decide +kernel) rfl
theorem q_131 : (Cond.laysFinal "PictureMoves$Parts" "PictureMoves$Parts" "stepDots" "[I") ∈ gW := gW_of (n := 131) (by decide +kernel) rfl
theorem q_133 : (Cond.lays "PictureMoves$Parts" "PictureMoves$Parts" "steps" "I") ∈ gW := gW_of (n := 133) (by decide +kernel) rfl
theorem q_136 : (Cond.classLink RX8 19 "PictureMoves$Past") ∈ gW := gW_of (n := 136) (by decide +kernel) rfl
theorem q_137 : (Cond.instantiable RX5 3) ∈ gW := gW_of (n := 137) (by decide +kernel) rfl
theorem q_138 : (Cond.methodLink RX8 21 yX5_init) ∈ gW := gW_of (n := 138) (by decide +kernel) rfl
theorem q_139 : (Cond.instanceMethod yX5_init) ∈ gW := gW_of (n := 139) (by decide +kernel) rfl
theorem q_140 : (Cond.code yX5_init prog_7_method_1_code 2 (Option.none : Option Jvm.ClassFile.FieldType)) ∈ gW := gW_of (n := 140) (by decide +kernel) rfl
theorem q_141 : (Cond.methodLink RX5 3 ({ cls := "java/lang/Object", name := "<init>", desc := "()V" } : Jvm.MethodName)) ∈ gW := gW_of (n := 141) (by decide +kernel) rfl
theorem q_142 : (Cond.classLink RX5 9 "PictureMoves$Scene") ∈ gW := gW_of (n := 142) (by decide +kernel) rfl
theorem q_144 : (Cond.methodLink RX5 17 yX6_init) ∈ gW := gW_of (n := 144) (by decide +kernel) rfl
theorem q_145 : (Cond.fieldLink RX5 11 "PictureMoves$Past" "kept" "[LPictureMoves$Scene;") ∈ gW := gW_of (n := 145) (by decide +kernel) rfl
theorem q_146 : (Cond.fieldLink RX5 18 "PictureMoves$Past" "next" "I") ∈ gW := gW_of (n := 146) (by decide +kernel) rfl
theorem q_147 : (Cond.fieldLink RX5 26 "PictureMoves$Past" "size" "I") ∈ gW := gW_of (n := 147) (by decide +kernel) rfl
theorem q_148 : (Cond.fieldLink RX8 192 "PictureMoves$Past" "size" "I") ∈ gW := gW_of (n := 148) (by decide +kernel) rfl
theorem q_149 : (Cond.laysFinal "PictureMoves$Past" "PictureMoves$Past" "kept" "[LPictureMoves$Scene;") ∈ gW := gW_of (n := 149) (by decide +kernel) rfl
theorem q_151 : (Cond.lays "PictureMoves$Past" "PictureMoves$Past" "next" "I") ∈ gW := gW_of (n := 151) (by decide +kernel) rfl
theorem q_153 : (Cond.lays "PictureMoves$Past" "PictureMoves$Past" "size" "I") ∈ gW := gW_of (n := 153) (by decide +kernel) rfl
theorem q_156 : (Cond.classLink RX8 26 "PictureMoves$Painter") ∈ gW := gW_of (n := 156) (by decide +kernel) rfl
theorem q_157 : (Cond.instantiable RX3 4) ∈ gW := gW_of (n := 157) (by decide +kernel) rfl
theorem q_158 : (Cond.methodLink RX8 28 yX3_init) ∈ gW := gW_of (n := 158) (by decide +kernel) rfl
theorem q_159 : (Cond.instanceMethod yX3_init) ∈ gW := gW_of (n := 159) (by decide +kernel) rfl
theorem q_160 : (Cond.code yX3_init prog_5_method_1_code 3 (Option.none : Option Jvm.ClassFile.FieldType)) ∈ gW := gW_of (n := 160) (by decide +kernel) rfl
theorem q_161 : (Cond.methodLink RX3 3 ({ cls := "java/lang/Object", name := "<init>", desc := "()V" } : Jvm.MethodName)) ∈ gW := gW_of (n := 161) (by decide +kernel) rfl
theorem q_162 : (Cond.fieldLink RX3 18 "PictureMoves$Painter" "scene" "LPictureMoves$Scene;") ∈ gW := gW_of (n := 162) (by decide +kernel) rfl
theorem q_163 : (Cond.fieldLink RX3 22 "PictureMoves$Painter" "parts" "LPictureMoves$Parts;") ∈ gW := gW_of (n := 163) (by decide +kernel) rfl
theorem q_164 : (Cond.fieldLink RX3 9 "PictureMoves$Painter" "source" "[I") ∈ gW := gW_of (n := 164) (by decide +kernel) rfl
theorem q_165 : (Cond.fieldLink RX3 15 "PictureMoves$Painter" "like" "[I") ∈ gW := gW_of (n := 165) (by decide +kernel) rfl
theorem q_166 : (Cond.laysFinal "PictureMoves$Painter" "PictureMoves$Painter" "scene" "LPictureMoves$Scene;") ∈ gW := gW_of (n := 166) (by decide +kernel) rfl
theorem q_168 : (Cond.laysFinal "PictureMoves$Painter" "PictureMoves$Painter" "parts" "LPictureMoves$Parts;") ∈ gW := gW_of (n := 168) (by decide +kernel) rfl
theorem q_170 : (Cond.laysFinal "PictureMoves$Painter" "PictureMoves$Painter" "source" "[I") ∈ gW := gW_of (n := 170) (by decide +kernel) rfl
theorem q_172 : (Cond.laysFinal "PictureMoves$Painter" "PictureMoves$Painter" "like" "[I") ∈ gW := gW_of (n := 172) (by decide +kernel) rfl
theorem q_175 : (Cond.classLink RX8 35 "PictureMoves$Whole") ∈ gW := gW_of (n := 175) (by decide +kernel) rfl
theorem q_176 : (Cond.instantiable RX7 2) ∈ gW := gW_of (n := 176) (by decide +kernel) rfl
theorem q_177 : (Cond.methodLink RX8 37 yX7_init) ∈ gW := gW_of (n := 177) (by decide +kernel) rfl
theorem q_178 : (Cond.instanceMethod yX7_init) ∈ gW := gW_of (n := 178) (by decide +kernel) rfl
theorem q_179 : (Cond.code yX7_init prog_9_method_1_code 2 (Option.none : Option Jvm.ClassFile.FieldType)) ∈ gW := gW_of (n := 179) (by decide +kernel) rfl
theorem q_180 : (Cond.methodLink RX7 3 ({ cls := "java/lang/Object", name := "<init>", desc := "()V" } : Jvm.MethodName)) ∈ gW := gW_of (n := 180) (by decide +kernel) rfl
theorem q_181 : (Cond.fieldLink RX7 15 "PictureMoves$Whole" "scene" "LPictureMoves$Scene;") ∈ gW := gW_of (n := 181) (by decide +kernel) rfl
theorem q_182 : (Cond.fieldLink RX7 9 "PictureMoves$Whole" "comes" "[I") ∈ gW := gW_of (n := 182) (by decide +kernel) rfl
theorem q_183 : (Cond.laysFinal "PictureMoves$Whole" "PictureMoves$Whole" "scene" "LPictureMoves$Scene;") ∈ gW := gW_of (n := 183) (by decide +kernel) rfl
theorem q_185 : (Cond.laysFinal "PictureMoves$Whole" "PictureMoves$Whole" "comes" "[I") ∈ gW := gW_of (n := 185) (by decide +kernel) rfl
theorem q_188 : (Cond.classLink RX8 44 "PictureMoves$Measure") ∈ gW := gW_of (n := 188) (by decide +kernel) rfl
theorem q_189 : (Cond.instantiable RX0 3) ∈ gW := gW_of (n := 189) (by decide +kernel) rfl
theorem q_190 : (Cond.methodLink RX8 46 yX0_init) ∈ gW := gW_of (n := 190) (by decide +kernel) rfl
theorem q_191 : (Cond.instanceMethod yX0_init) ∈ gW := gW_of (n := 191) (by decide +kernel) rfl
theorem q_192 : (Cond.code yX0_init prog_2_method_1_code 3 (Option.none : Option Jvm.ClassFile.FieldType)) ∈ gW := gW_of (n := 192) (by decide +kernel) rfl
theorem q_193 : (Cond.methodLink RX0 3 ({ cls := "java/lang/Object", name := "<init>", desc := "()V" } : Jvm.MethodName)) ∈ gW := gW_of (n := 193) (by decide +kernel) rfl
theorem q_194 : (Cond.fieldLink RX0 15 "PictureMoves$Measure" "scene" "LPictureMoves$Scene;") ∈ gW := gW_of (n := 194) (by decide +kernel) rfl
theorem q_195 : (Cond.fieldLink RX0 19 "PictureMoves$Measure" "parts" "LPictureMoves$Parts;") ∈ gW := gW_of (n := 195) (by decide +kernel) rfl
theorem q_196 : (Cond.fieldLink RX0 9 "PictureMoves$Measure" "block" "[I") ∈ gW := gW_of (n := 196) (by decide +kernel) rfl
theorem q_197 : (Cond.laysFinal "PictureMoves$Measure" "PictureMoves$Measure" "scene" "LPictureMoves$Scene;") ∈ gW := gW_of (n := 197) (by decide +kernel) rfl
theorem q_199 : (Cond.laysFinal "PictureMoves$Measure" "PictureMoves$Measure" "parts" "LPictureMoves$Parts;") ∈ gW := gW_of (n := 199) (by decide +kernel) rfl
theorem q_201 : (Cond.laysFinal "PictureMoves$Measure" "PictureMoves$Measure" "block" "[I") ∈ gW := gW_of (n := 201) (by decide +kernel) rfl
theorem q_204 : (Cond.classLink RX8 51 "PictureMoves$Order") ∈ gW := gW_of (n := 204) (by decide +kernel) rfl
theorem q_205 : (Cond.instantiable RX1 5) ∈ gW := gW_of (n := 205) (by decide +kernel) rfl
theorem q_206 : (Cond.methodLinkNest RX8 53 yX1_init "PictureMoves") ∈ nW := nW_of (n := 206) (by decide +kernel) rfl
theorem q_207 : (Cond.instanceMethod yX1_init) ∈ gW := gW_of (n := 207) (by decide +kernel) rfl
theorem q_208 : (Cond.code yX1_init prog_3_method_1_code 1 (Option.none : Option Jvm.ClassFile.FieldType)) ∈ gW := gW_of (n := 208) (by decide +kernel) rfl
theorem q_209 : (Cond.methodLink RX1 3 ({ cls := "java/lang/Object", name := "<init>", desc := "()V" } : Jvm.MethodName)) ∈ gW := gW_of (n := 209) (by decide +kernel) rfl
theorem q_211 : (Cond.fieldLink RX1 11 "PictureMoves$Order" "numbers" "[I") ∈ gW := gW_of (n := 211) (by decide +kernel) rfl
theorem q_212 : (Cond.fieldLink RX3 26 "PictureMoves$Order" "sign" "I") ∈ gW := gW_of (n := 212) (by decide +kernel) rfl
theorem q_213 : (Cond.fieldLink RX1 21 "PictureMoves$Order" "sign" "I") ∈ gW := gW_of (n := 213) (by decide +kernel) rfl
theorem q_214 : (Cond.fieldLink RX2 80 "PictureMoves$Order" "sign" "I") ∈ gW := gW_of (n := 214) (by decide +kernel) rfl
theorem q_215 : (Cond.fieldLink RX1 17 "PictureMoves$Order" "kinds" "Ljava/lang/String;") ∈ gW := gW_of (n := 215) (by decide +kernel) rfl
theorem q_216 : (Cond.fieldLink RX2 54 "PictureMoves$Order" "kinds" "Ljava/lang/String;") ∈ gW := gW_of (n := 216) (by decide +kernel) rfl
theorem q_217 : (Cond.fieldLink RX1 29 "PictureMoves$Order" "size" "I") ∈ gW := gW_of (n := 217) (by decide +kernel) rfl
theorem q_218 : (Cond.fieldLink RX1 32 "PictureMoves$Order" "allWithin" "Z") ∈ gW := gW_of (n := 218) (by decide +kernel) rfl
theorem q_219 : (Cond.fieldLink RX2 72 "PictureMoves$Order" "allWithin" "Z") ∈ gW := gW_of (n := 219) (by decide +kernel) rfl
theorem q_220 : (Cond.laysFinal "PictureMoves$Order" "PictureMoves$Order" "numbers" "[I") ∈ gW := gW_of (n := 220) (by decide +kernel) rfl
theorem q_222 : (Cond.lays "PictureMoves$Order" "PictureMoves$Order" "sign" "I") ∈ gW := gW_of (n := 222) (by decide +kernel) rfl
theorem q_224 : (Cond.lays "PictureMoves$Order" "PictureMoves$Order" "kinds" "Ljava/lang/String;") ∈ gW := gW_of (n := 224) (by decide +kernel) rfl
theorem q_226 : (Cond.lays "PictureMoves$Order" "PictureMoves$Order" "size" "I") ∈ gW := gW_of (n := 226) (by decide +kernel) rfl
theorem q_228 : (Cond.lays "PictureMoves$Order" "PictureMoves$Order" "allWithin" "Z") ∈ gW := gW_of (n := 228) (by decide +kernel) rfl
theorem q_231 : (Cond.arrayClass FieldType.byte) ∈ gW := gW_of (n := 231) (by decide +kernel) rfl
theorem q_232 : (Cond.classLink RX8 58 "PictureMoves$OrderText") ∈ gW := gW_of (n := 232) (by decide +kernel) rfl
theorem q_233 : (Cond.instantiable RX2 4) ∈ gW := gW_of (n := 233) (by decide +kernel) rfl
theorem q_234 : (Cond.methodLinkNest RX8 60 yX2_init "PictureMoves") ∈ nW := nW_of (n := 234) (by decide +kernel) rfl
theorem q_235 : (Cond.instanceMethod yX2_init) ∈ gW := gW_of (n := 235) (by decide +kernel) rfl
theorem q_236 : (Cond.code yX2_init prog_4_method_1_code 1 (Option.none : Option Jvm.ClassFile.FieldType)) ∈ gW := gW_of (n := 236) (by decide +kernel) rfl
theorem q_237 : (Cond.methodLink RX2 3 ({ cls := "java/lang/Object", name := "<init>", desc := "()V" } : Jvm.MethodName)) ∈ gW := gW_of (n := 237) (by decide +kernel) rfl
theorem q_238 : (Cond.fieldLink RX2 9 "PictureMoves$OrderText" "bytes" "[B") ∈ gW := gW_of (n := 238) (by decide +kernel) rfl
theorem q_239 : (Cond.fieldLink RX2 15 "PictureMoves$OrderText" "length" "I") ∈ gW := gW_of (n := 239) (by decide +kernel) rfl
theorem q_240 : (Cond.fieldLink RX8 173 "PictureMoves$OrderText" "length" "I") ∈ gW := gW_of (n := 240) (by decide +kernel) rfl
theorem q_241 : (Cond.fieldLink RX2 19 "PictureMoves$OrderText" "place" "I") ∈ gW := gW_of (n := 241) (by decide +kernel) rfl
theorem q_242 : (Cond.fieldLink RX2 65 "PictureMoves$OrderText" "number" "I") ∈ gW := gW_of (n := 242) (by decide +kernel) rfl
theorem q_243 : (Cond.laysFinal "PictureMoves$OrderText" "PictureMoves$OrderText" "bytes" "[B") ∈ gW := gW_of (n := 243) (by decide +kernel) rfl
theorem q_245 : (Cond.lays "PictureMoves$OrderText" "PictureMoves$OrderText" "length" "I") ∈ gW := gW_of (n := 245) (by decide +kernel) rfl
theorem q_247 : (Cond.lays "PictureMoves$OrderText" "PictureMoves$OrderText" "place" "I") ∈ gW := gW_of (n := 247) (by decide +kernel) rfl
theorem q_249 : (Cond.lays "PictureMoves$OrderText" "PictureMoves$OrderText" "number" "I") ∈ gW := gW_of (n := 249) (by decide +kernel) rfl
theorem q_252 : (Cond.fieldLink RX8 13 "PictureMoves" "scene" "LPictureMoves$Scene;") ∈ gW := gW_of (n := 252) (by decide +kernel) rfl
theorem q_253 : (Cond.fieldLink RX8 22 "PictureMoves" "past" "LPictureMoves$Past;") ∈ gW := gW_of (n := 253) (by decide +kernel) rfl
theorem q_254 : (Cond.fieldLink RX8 31 "PictureMoves" "painter" "LPictureMoves$Painter;") ∈ gW := gW_of (n := 254) (by decide +kernel) rfl
theorem q_255 : (Cond.fieldLink RX8 40 "PictureMoves" "whole" "LPictureMoves$Whole;") ∈ gW := gW_of (n := 255) (by decide +kernel) rfl
theorem q_256 : (Cond.fieldLink RX8 47 "PictureMoves" "measure" "LPictureMoves$Measure;") ∈ gW := gW_of (n := 256) (by decide +kernel) rfl
theorem q_257 : (Cond.fieldLink RX8 54 "PictureMoves" "order" "LPictureMoves$Order;") ∈ gW := gW_of (n := 257) (by decide +kernel) rfl
theorem q_258 : (Cond.fieldLink RX8 61 "PictureMoves" "text" "LPictureMoves$OrderText;") ∈ gW := gW_of (n := 258) (by decide +kernel) rfl
theorem q_259 : (Cond.fieldLink RX8 209 "PictureMoves" "bads" "I") ∈ gW := gW_of (n := 259) (by decide +kernel) rfl
theorem q_260 : (Cond.fieldLink RX8 212 "PictureMoves" "noes" "I") ∈ gW := gW_of (n := 260) (by decide +kernel) rfl
theorem q_261 : (Cond.fieldLink RX8 215 "PictureMoves" "fulls" "I") ∈ gW := gW_of (n := 261) (by decide +kernel) rfl
theorem q_262 : (Cond.laysFinal "PictureMoves" "PictureMoves" "scene" "LPictureMoves$Scene;") ∈ gW := gW_of (n := 262) (by decide +kernel) rfl
theorem q_264 : (Cond.laysFinal "PictureMoves" "PictureMoves" "past" "LPictureMoves$Past;") ∈ gW := gW_of (n := 264) (by decide +kernel) rfl
theorem q_266 : (Cond.laysFinal "PictureMoves" "PictureMoves" "painter" "LPictureMoves$Painter;") ∈ gW := gW_of (n := 266) (by decide +kernel) rfl
theorem q_268 : (Cond.laysFinal "PictureMoves" "PictureMoves" "whole" "LPictureMoves$Whole;") ∈ gW := gW_of (n := 268) (by decide +kernel) rfl
theorem q_270 : (Cond.laysFinal "PictureMoves" "PictureMoves" "measure" "LPictureMoves$Measure;") ∈ gW := gW_of (n := 270) (by decide +kernel) rfl
theorem q_272 : (Cond.laysFinal "PictureMoves" "PictureMoves" "order" "LPictureMoves$Order;") ∈ gW := gW_of (n := 272) (by decide +kernel) rfl
theorem q_274 : (Cond.laysFinal "PictureMoves" "PictureMoves" "text" "LPictureMoves$OrderText;") ∈ gW := gW_of (n := 274) (by decide +kernel) rfl
theorem q_276 : (Cond.lays "PictureMoves" "PictureMoves" "bads" "I") ∈ gW := gW_of (n := 276) (by decide +kernel) rfl
theorem q_278 : (Cond.lays "PictureMoves" "PictureMoves" "noes" "I") ∈ gW := gW_of (n := 278) (by decide +kernel) rfl
theorem q_280 : (Cond.lays "PictureMoves" "PictureMoves" "fulls" "I") ∈ gW := gW_of (n := 280) (by decide +kernel) rfl
theorem q_283 : (Cond.methodLink RL 13 yX8_dot) ∈ gW := gW_of (n := 283) (by decide +kernel) rfl
theorem q_284 : (Cond.instanceMethod yX8_dot) ∈ gW := gW_of (n := 284) (by decide +kernel) rfl
theorem q_285 : (Cond.selects RX8 yX8_dot yX8_dot) ∈ gW := gW_of (n := 285) (by decide +kernel) rfl
theorem q_286 : (Cond.code yX8_dot prog_1_method_2_code 6 (Option.some FieldType.int)) ∈ gW := gW_of (n := 286) (by decide +kernel) rfl
theorem q_287 : (Cond.methodLink RX8 65 yX8_isPicture) ∈ gW := gW_of (n := 287) (by decide +kernel) rfl
theorem q_288 : (Cond.static yX8_isPicture) ∈ gW := gW_of (n := 288) (by decide +kernel) rfl
theorem q_289 : (Cond.code yX8_isPicture prog_1_method_33_code 1 (Option.some FieldType.boolean)) ∈ gW := gW_of (n := 289) (by decide +kernel) rfl
theorem q_290 : (Cond.methodLink RX8 73 yX8_isWithin) ∈ gW := gW_of (n := 290) (by decide +kernel) rfl
theorem q_291 : (Cond.static yX8_isWithin) ∈ gW := gW_of (n := 291) (by decide +kernel) rfl
theorem q_292 : (Cond.code yX8_isWithin prog_1_method_32_code 3 (Option.some FieldType.boolean)) ∈ gW := gW_of (n := 292) (by decide +kernel) rfl
theorem q_293 : (Cond.methodLink RX8 69 yX8_isInPicture) ∈ gW := gW_of (n := 293) (by decide +kernel) rfl
theorem q_294 : (Cond.static yX8_isInPicture) ∈ gW := gW_of (n := 294) (by decide +kernel) rfl
theorem q_295 : (Cond.code yX8_isInPicture prog_1_method_34_code 2 (Option.some FieldType.boolean)) ∈ gW := gW_of (n := 295) (by decide +kernel) rfl
theorem q_296 : (Cond.methodLink RX8 77 yX8_refusedBad) ∈ gW := gW_of (n := 296) (by decide +kernel) rfl
theorem q_298 : (Cond.instanceMethod yX8_refusedBad) ∈ gW := gW_of (n := 298) (by decide +kernel) rfl
theorem q_299 : (Cond.code yX8_refusedBad prog_1_method_28_code 1 (Option.some FieldType.int)) ∈ gW := gW_of (n := 299) (by decide +kernel) rfl
theorem q_300 : (Cond.methodLink RX8 81 yX5_keeps) ∈ gW := gW_of (n := 300) (by decide +kernel) rfl
theorem q_301 : (Cond.instanceMethod yX5_keeps) ∈ gW := gW_of (n := 301) (by decide +kernel) rfl
theorem q_302 : (Cond.selects RX5 yX5_keeps yX5_keeps) ∈ gW := gW_of (n := 302) (by decide +kernel) rfl
theorem q_303 : (Cond.code yX5_keeps prog_7_method_2_code 2 (Option.none : Option Jvm.ClassFile.FieldType)) ∈ gW := gW_of (n := 303) (by decide +kernel) rfl
theorem q_304 : (Cond.methodLink RX5 22 yX6_becomes) ∈ gW := gW_of (n := 304) (by decide +kernel) rfl
theorem q_305 : (Cond.instanceMethod yX6_becomes) ∈ gW := gW_of (n := 305) (by decide +kernel) rfl
theorem q_306 : (Cond.selects RX6 yX6_becomes yX6_becomes) ∈ gW := gW_of (n := 306) (by decide +kernel) rfl
theorem q_307 : (Cond.code yX6_becomes prog_8_method_2_code 2 (Option.none : Option Jvm.ClassFile.FieldType)) ∈ gW := gW_of (n := 307) (by decide +kernel) rfl
theorem q_308 : (Cond.methodLink RX6 27 ({ cls := "java/lang/System", name := "arraycopy", desc := "(Ljava/lang/Object;ILjava/lang/Object;II)V" } : Jvm.MethodName)) ∈ gW := gW_of (n := 308) (by decide +kernel) rfl
theorem q_309 : (Cond.static ({ cls := "java/lang/System", name := "arraycopy", desc := "(Ljava/lang/Object;ILjava/lang/Object;II)V" } : Jvm.MethodName)) ∈ gW := gW_of (n := 309) (by decide +kernel) rfl
theorem q_310 : (Cond.native ({ cls := "java/lang/System", name := "arraycopy", desc := "(Ljava/lang/Object;ILjava/lang/Object;II)V" } : Jvm.MethodName)) ∈ gW := gW_of (n := 310) (by decide +kernel) rfl
theorem q_311 : (Cond.methodLink RX5 29 yJ9_min_7cf53) ∈ gW := gW_of (n := 311) (by decide +kernel) rfl
theorem q_312 : (Cond.static yJ9_min_7cf53) ∈ gW := gW_of (n := 312) (by decide +kernel) rfl
theorem q_313 : (Cond.code yJ9_min_7cf53 prog_13_method_69_code 2 (Option.some FieldType.int)) ∈ gW := gW_of (n := 313) (by decide +kernel) rfl
theorem q_314 : (Cond.methodLink RX8 84 yX6_dotAt) ∈ gW := gW_of (n := 314) (by decide +kernel) rfl
theorem q_315 : (Cond.instanceMethod yX6_dotAt) ∈ gW := gW_of (n := 315) (by decide +kernel) rfl
theorem q_316 : (Cond.selects RX6 yX6_dotAt yX6_dotAt) ∈ gW := gW_of (n := 316) (by decide +kernel) rfl
theorem q_317 : (Cond.code yX6_dotAt prog_8_method_5_code 4 (Option.some FieldType.int)) ∈ gW := gW_of (n := 317) (by decide +kernel) rfl
theorem q_318 : (Cond.methodLinkNest RX6 45 yX8_isInPicture "PictureMoves") ∈ nW := nW_of (n := 318) (by decide +kernel) rfl
theorem q_319 : (Cond.methodLink RX6 49 yX6_rowAt) ∈ gW := gW_of (n := 319) (by decide +kernel) rfl
theorem q_320 : (Cond.instanceMethod yX6_rowAt) ∈ gW := gW_of (n := 320) (by decide +kernel) rfl
theorem q_321 : (Cond.selects RX6 yX6_rowAt yX6_rowAt) ∈ gW := gW_of (n := 321) (by decide +kernel) rfl
theorem q_322 : (Cond.code yX6_rowAt prog_8_method_3_code 3 (Option.some FieldType.int)) ∈ gW := gW_of (n := 322) (by decide +kernel) rfl
theorem q_323 : (Cond.methodLinkNest RX6 37 yX8_isPicture "PictureMoves") ∈ nW := nW_of (n := 323) (by decide +kernel) rfl
theorem q_324 : (Cond.methodLinkNest RX6 41 yX8_isWithin "PictureMoves") ∈ nW := nW_of (n := 324) (by decide +kernel) rfl
theorem q_325 : (Cond.methodLinkNest RX6 53 yX8_dotMask "PictureMoves") ∈ nW := nW_of (n := 325) (by decide +kernel) rfl
theorem q_326 : (Cond.static yX8_dotMask) ∈ gW := gW_of (n := 326) (by decide +kernel) rfl
theorem q_327 : (Cond.code yX8_dotMask prog_1_method_38_code 1 (Option.some FieldType.int)) ∈ gW := gW_of (n := 327) (by decide +kernel) rfl
theorem q_328 : (Cond.constant RX8 218 (-2147483648 : Int32)) ∈ gW := gW_of (n := 328) (by decide +kernel) rfl
theorem q_329 : (Cond.methodLink RX8 219 yX8_shifted) ∈ gW := gW_of (n := 329) (by decide +kernel) rfl
theorem q_330 : (Cond.static yX8_shifted) ∈ gW := gW_of (n := 330) (by decide +kernel) rfl
theorem q_331 : (Cond.code yX8_shifted prog_1_method_37_code 2 (Option.some FieldType.int)) ∈ gW := gW_of (n := 331) (by decide +kernel) rfl
theorem q_332 : (Cond.methodLink RX8 88 yX6_rowAt) ∈ gW := gW_of (n := 332) (by decide +kernel) rfl
theorem q_333 : (Cond.methodLink RX8 92 yX8_dotMask) ∈ gW := gW_of (n := 333) (by decide +kernel) rfl
theorem q_334 : (Cond.methodLink RX8 96 yX6_putRow) ∈ gW := gW_of (n := 334) (by decide +kernel) rfl
theorem q_335 : (Cond.instanceMethod yX6_putRow) ∈ gW := gW_of (n := 335) (by decide +kernel) rfl
theorem q_336 : (Cond.selects RX6 yX6_putRow yX6_putRow) ∈ gW := gW_of (n := 336) (by decide +kernel) rfl
theorem q_337 : (Cond.code yX6_putRow prog_8_method_4_code 4 (Option.none : Option Jvm.ClassFile.FieldType)) ∈ gW := gW_of (n := 337) (by decide +kernel) rfl
theorem q_338 : (Cond.methodLink RL 18 yX8_pattern) ∈ gW := gW_of (n := 338) (by decide +kernel) rfl
theorem q_339 : (Cond.instanceMethod yX8_pattern) ∈ gW := gW_of (n := 339) (by decide +kernel) rfl
theorem q_340 : (Cond.selects RX8 yX8_pattern yX8_pattern) ∈ gW := gW_of (n := 340) (by decide +kernel) rfl
theorem q_341 : (Cond.code yX8_pattern prog_1_method_3_code 4 (Option.some FieldType.int)) ∈ gW := gW_of (n := 341) (by decide +kernel) rfl
theorem q_342 : (Cond.methodLink RL 23 yX8_draw) ∈ gW := gW_of (n := 342) (by decide +kernel) rfl
theorem q_343 : (Cond.instanceMethod yX8_draw) ∈ gW := gW_of (n := 343) (by decide +kernel) rfl
theorem q_344 : (Cond.selects RX8 yX8_draw yX8_draw) ∈ gW := gW_of (n := 344) (by decide +kernel) rfl
theorem q_345 : (Cond.code yX8_draw prog_1_method_4_code 3 (Option.some FieldType.int)) ∈ gW := gW_of (n := 345) (by decide +kernel) rfl
theorem q_346 : (Cond.constant RX8 104 (999999 : Int32)) ∈ gW := gW_of (n := 346) (by decide +kernel) rfl
theorem q_347 : (Cond.methodLink RX8 105 yX7_drawn) ∈ gW := gW_of (n := 347) (by decide +kernel) rfl
theorem q_348 : (Cond.instanceMethod yX7_drawn) ∈ gW := gW_of (n := 348) (by decide +kernel) rfl
theorem q_349 : (Cond.selects RX7 yX7_drawn yX7_drawn) ∈ gW := gW_of (n := 349) (by decide +kernel) rfl
theorem q_350 : (Cond.code yX7_drawn prog_9_method_2_code 8 (Option.none : Option Jvm.ClassFile.FieldType)) ∈ gW := gW_of (n := 350) (by decide +kernel) rfl
theorem q_351 : (Cond.methodLink RX7 19 yX7_numberBehind) ∈ gW := gW_of (n := 351) (by decide +kernel) rfl
theorem q_352 : (Cond.static yX7_numberBehind) ∈ gW := gW_of (n := 352) (by decide +kernel) rfl
theorem q_353 : (Cond.code yX7_numberBehind prog_9_method_3_code 2 (Option.some FieldType.long)) ∈ gW := gW_of (n := 353) (by decide +kernel) rfl
theorem q_354 : (Cond.constantLong RX7 33 (1103515245 : Int64)) ∈ gW := gW_of (n := 354) (by decide +kernel) rfl
theorem q_355 : (Cond.constantLong RX7 35 (12345 : Int64)) ∈ gW := gW_of (n := 355) (by decide +kernel) rfl
theorem q_356 : (Cond.constantLong RX7 37 (2147483648 : Int64)) ∈ gW := gW_of (n := 356) (by decide +kernel) rfl
theorem q_357 : (Cond.constantLong RX7 23 (32768 : Int64)) ∈ gW := gW_of (n := 357) (by decide +kernel) rfl
theorem q_358 : (Cond.constantLong RX7 25 (65536 : Int64)) ∈ gW := gW_of (n := 358) (by decide +kernel) rfl
theorem q_359 : (Cond.methodLink RX7 27 yX6_putRow) ∈ gW := gW_of (n := 359) (by decide +kernel) rfl
theorem q_360 : (Cond.methodLink RX8 109 yX0_ones) ∈ gW := gW_of (n := 360) (by decide +kernel) rfl
theorem q_361 : (Cond.instanceMethod yX0_ones) ∈ gW := gW_of (n := 361) (by decide +kernel) rfl
theorem q_362 : (Cond.selects RX0 yX0_ones yX0_ones) ∈ gW := gW_of (n := 362) (by decide +kernel) rfl
theorem q_363 : (Cond.code yX0_ones prog_2_method_3_code 2 (Option.some FieldType.int)) ∈ gW := gW_of (n := 363) (by decide +kernel) rfl
theorem q_364 : (Cond.methodLink RX0 46 yX0_onesWithin) ∈ gW := gW_of (n := 364) (by decide +kernel) rfl
theorem q_365 : (Cond.instanceMethod yX0_onesWithin) ∈ gW := gW_of (n := 365) (by decide +kernel) rfl
theorem q_366 : (Cond.selects RX0 yX0_onesWithin yX0_onesWithin) ∈ gW := gW_of (n := 366) (by decide +kernel) rfl
theorem q_367 : (Cond.code yX0_onesWithin prog_2_method_4_code 9 (Option.some FieldType.int)) ∈ gW := gW_of (n := 367) (by decide +kernel) rfl
theorem q_368 : (Cond.methodLinkNest RX0 50 yX8_spanMask "PictureMoves") ∈ nW := nW_of (n := 368) (by decide +kernel) rfl
theorem q_369 : (Cond.static yX8_spanMask) ∈ gW := gW_of (n := 369) (by decide +kernel) rfl
theorem q_370 : (Cond.code yX8_spanMask prog_1_method_39_code 4 (Option.some FieldType.int)) ∈ gW := gW_of (n := 370) (by decide +kernel) rfl
theorem q_371 : (Cond.methodLink RX8 222 yJ9_max_7cf53) ∈ gW := gW_of (n := 371) (by decide +kernel) rfl
theorem q_372 : (Cond.static yJ9_max_7cf53) ∈ gW := gW_of (n := 372) (by decide +kernel) rfl
theorem q_373 : (Cond.code yJ9_max_7cf53 prog_13_method_65_code 2 (Option.some FieldType.int)) ∈ gW := gW_of (n := 373) (by decide +kernel) rfl
theorem q_374 : (Cond.methodLink RX8 227 yJ9_min_7cf53) ∈ gW := gW_of (n := 374) (by decide +kernel) rfl
theorem q_375 : (Cond.methodLink RX0 54 yX6_rowAt) ∈ gW := gW_of (n := 375) (by decide +kernel) rfl
theorem q_376 : (Cond.methodLink RX0 59 yJ6_bitCount_0f7a4) ∈ gW := gW_of (n := 376) (by decide +kernel) rfl
theorem q_377 : (Cond.static yJ6_bitCount_0f7a4) ∈ gW := gW_of (n := 377) (by decide +kernel) rfl
theorem q_378 : (Cond.code yJ6_bitCount_0f7a4 prog_12_method_49_code 1 (Option.some FieldType.int)) ∈ gW := gW_of (n := 378) (by decide +kernel) rfl
theorem q_379 : (Cond.constant RJ6 265 (1431655765 : Int32)) ∈ gW := gW_of (n := 379) (by decide +kernel) rfl
theorem q_380 : (Cond.constant RJ6 266 (858993459 : Int32)) ∈ gW := gW_of (n := 380) (by decide +kernel) rfl
theorem q_381 : (Cond.constant RJ6 267 (252645135 : Int32)) ∈ gW := gW_of (n := 381) (by decide +kernel) rfl
theorem q_382 : (Cond.methodLink RL 27 yX8_opening) ∈ gW := gW_of (n := 382) (by decide +kernel) rfl
theorem q_383 : (Cond.instanceMethod yX8_opening) ∈ gW := gW_of (n := 383) (by decide +kernel) rfl
theorem q_384 : (Cond.selects RX8 yX8_opening yX8_opening) ∈ gW := gW_of (n := 384) (by decide +kernel) rfl
theorem q_385 : (Cond.code yX8_opening prog_1_method_5_code 5 (Option.some FieldType.int)) ∈ gW := gW_of (n := 385) (by decide +kernel) rfl
theorem q_386 : (Cond.methodLink RX8 112 yX1_begins) ∈ gW := gW_of (n := 386) (by decide +kernel) rfl
theorem q_387 : (Cond.instanceMethod yX1_begins) ∈ gW := gW_of (n := 387) (by decide +kernel) rfl
theorem q_388 : (Cond.selects RX1 yX1_begins yX1_begins) ∈ gW := gW_of (n := 388) (by decide +kernel) rfl
theorem q_389 : (Cond.code yX1_begins prog_3_method_2_code 2 (Option.none : Option Jvm.ClassFile.FieldType)) ∈ gW := gW_of (n := 389) (by decide +kernel) rfl
theorem q_390 : (Cond.methodLink RX1 25 yX1_kindsOf) ∈ gW := gW_of (n := 390) (by decide +kernel) rfl
theorem q_391 : (Cond.static yX1_kindsOf) ∈ gW := gW_of (n := 391) (by decide +kernel) rfl
theorem q_392 : (Cond.code yX1_kindsOf prog_3_method_7_code 1 (Option.some (FieldType.object "java/lang/String"))) ∈ gW := gW_of (n := 392) (by decide +kernel) rfl
theorem q_399 : (Cond.methodLink RX8 116 yX1_with) ∈ gW := gW_of (n := 399) (by decide +kernel) rfl
theorem q_400 : (Cond.instanceMethod yX1_with) ∈ gW := gW_of (n := 400) (by decide +kernel) rfl
theorem q_401 : (Cond.selects RX1 yX1_with yX1_with) ∈ gW := gW_of (n := 401) (by decide +kernel) rfl
theorem q_402 : (Cond.code yX1_with prog_3_method_3_code 2 (Option.some (FieldType.object "PictureMoves$Order"))) ∈ gW := gW_of (n := 402) (by decide +kernel) rfl
theorem q_403 : (Cond.methodLink RX1 36 yJ0_length_8abf5) ∈ gW := gW_of (n := 403) (by decide +kernel) rfl
theorem q_404 : (Cond.instanceMethod yJ0_length_8abf5) ∈ gW := gW_of (n := 404) (by decide +kernel) rfl
theorem q_405 : (Cond.selects RJ0 yJ0_length_8abf5 yJ0_length_8abf5) ∈ gW := gW_of (n := 405) (by decide +kernel) rfl
theorem q_406 : (Cond.code yJ0_length_8abf5 prog_14_method_54_code 1 (Option.some FieldType.int)) ∈ gW := gW_of (n := 406) (by decide +kernel) rfl
theorem q_407 : (Cond.methodLink RJ0 335 yJ0_coder_7d493) ∈ gW := gW_of (n := 407) (by decide +kernel) rfl
theorem q_408 : (Cond.instanceMethod yJ0_coder_7d493) ∈ gW := gW_of (n := 408) (by decide +kernel) rfl
theorem q_409 : (Cond.selects RJ0 yJ0_coder_7d493 yJ0_coder_7d493) ∈ gW := gW_of (n := 409) (by decide +kernel) rfl
theorem q_410 : (Cond.code yJ0_coder_7d493 prog_14_method_152_code 1 (Option.some FieldType.byte)) ∈ gW := gW_of (n := 410) (by decide +kernel) rfl
theorem q_411 : (Cond.fieldLink RJ0 38 "java/lang/String" "COMPACT_STRINGS" "Z") ∈ gW := gW_of (n := 411) (by decide +kernel) rfl
theorem q_413 : (Cond.methodLink RX1 42 yJ0_charAt_5068e) ∈ gW := gW_of (n := 413) (by decide +kernel) rfl
theorem q_414 : (Cond.instanceMethod yJ0_charAt_5068e) ∈ gW := gW_of (n := 414) (by decide +kernel) rfl
theorem q_415 : (Cond.selects RJ0 yJ0_charAt_5068e yJ0_charAt_5068e) ∈ gW := gW_of (n := 415) (by decide +kernel) rfl
theorem q_416 : (Cond.code yJ0_charAt_5068e prog_14_method_56_code 2 (Option.some FieldType.char)) ∈ gW := gW_of (n := 416) (by decide +kernel) rfl
theorem q_417 : (Cond.methodLink RJ0 492 yJ0_isLatin1_aae02) ∈ gW := gW_of (n := 417) (by decide +kernel) rfl
theorem q_418 : (Cond.instanceMethod yJ0_isLatin1_aae02) ∈ gW := gW_of (n := 418) (by decide +kernel) rfl
theorem q_419 : (Cond.selects RJ0 yJ0_isLatin1_aae02 yJ0_isLatin1_aae02) ∈ gW := gW_of (n := 419) (by decide +kernel) rfl
theorem q_420 : (Cond.code yJ0_isLatin1_aae02 prog_14_method_154_code 1 (Option.some FieldType.boolean)) ∈ gW := gW_of (n := 420) (by decide +kernel) rfl
theorem q_421 : (Cond.methodLink RJ0 495 yJ1_charAt_3b067) ∈ gW := gW_of (n := 421) (by decide +kernel) rfl
theorem q_422 : (Cond.static yJ1_charAt_3b067) ∈ gW := gW_of (n := 422) (by decide +kernel) rfl
theorem q_423 : (Cond.code yJ1_charAt_3b067 prog_15_method_2_code 2 (Option.some FieldType.char)) ∈ gW := gW_of (n := 423) (by decide +kernel) rfl
theorem q_424 : (Cond.methodLink RJ1 9 yJ0_checkIndex_df160) ∈ gW := gW_of (n := 424) (by decide +kernel) rfl
theorem q_425 : (Cond.static yJ0_checkIndex_df160) ∈ gW := gW_of (n := 425) (by decide +kernel) rfl
theorem q_426 : (Cond.code yJ0_checkIndex_df160 prog_14_method_155_code 2 (Option.none : Option Jvm.ClassFile.FieldType)) ∈ gW := gW_of (n := 426) (by decide +kernel) rfl
theorem q_427 : (Cond.fieldLink RJ0 1053 "jdk/internal/util/Preconditions" "SIOOBE_FORMATTER" "Ljava/util/function/BiFunction;") ∈ gW := gW_of (n := 427) (by decide +kernel) rfl
theorem q_429 : (Cond.methodLink RJ0 1059 yJ3_checkIndex_8e157) ∈ gW := gW_of (n := 429) (by decide +kernel) rfl
theorem q_430 : (Cond.static yJ3_checkIndex_8e157) ∈ gW := gW_of (n := 430) (by decide +kernel) rfl
theorem q_431 : (Cond.code yJ3_checkIndex_8e157 prog_19_method_11_code 3 (Option.some FieldType.int)) ∈ gW := gW_of (n := 431) (by decide +kernel) rfl
theorem q_432 : (Cond.methodLink RJ0 498 yJ2_charAt_3b067) ∈ gW := gW_of (n := 432) (by decide +kernel) rfl
theorem q_433 : (Cond.static yJ2_charAt_3b067) ∈ gW := gW_of (n := 433) (by decide +kernel) rfl
theorem q_434 : (Cond.code yJ2_charAt_3b067 prog_16_method_83_code 2 (Option.some FieldType.char)) ∈ gW := gW_of (n := 434) (by decide +kernel) rfl
theorem q_435 : (Cond.methodLink RJ2 67 yJ2_checkIndex_2214a) ∈ gW := gW_of (n := 435) (by decide +kernel) rfl
theorem q_436 : (Cond.static yJ2_checkIndex_2214a) ∈ gW := gW_of (n := 436) (by decide +kernel) rfl
theorem q_437 : (Cond.code yJ2_checkIndex_2214a prog_16_method_91_code 2 (Option.none : Option Jvm.ClassFile.FieldType)) ∈ gW := gW_of (n := 437) (by decide +kernel) rfl
theorem q_438 : (Cond.methodLink RJ2 48 yJ2_length_9d52b) ∈ gW := gW_of (n := 438) (by decide +kernel) rfl
theorem q_439 : (Cond.static yJ2_length_9d52b) ∈ gW := gW_of (n := 439) (by decide +kernel) rfl
theorem q_440 : (Cond.code yJ2_length_9d52b prog_16_method_6_code 1 (Option.some FieldType.int)) ∈ gW := gW_of (n := 440) (by decide +kernel) rfl
theorem q_441 : (Cond.methodLink RJ2 414 yJ0_checkIndex_df160) ∈ gW := gW_of (n := 441) (by decide +kernel) rfl
theorem q_442 : (Cond.methodLink RJ2 71 yJ2_getChar_3b067) ∈ gW := gW_of (n := 442) (by decide +kernel) rfl
theorem q_443 : (Cond.static yJ2_getChar_3b067) ∈ gW := gW_of (n := 443) (by decide +kernel) rfl
theorem q_444 : (Cond.code yJ2_getChar_3b067 prog_16_method_5_code 2 (Option.some FieldType.char)) ∈ gW := gW_of (n := 444) (by decide +kernel) rfl
theorem q_445 : (Cond.fieldLink RJ2 44 "java/lang/StringUTF16" "$assertionsDisabled" "Z") ∈ gW := gW_of (n := 445) (by decide +kernel) rfl
theorem q_447 : (Cond.fieldLink RJ2 59 "java/lang/StringUTF16" "HI_BYTE_SHIFT" "I") ∈ gW := gW_of (n := 447) (by decide +kernel) rfl
theorem q_449 : (Cond.fieldLink RJ2 63 "java/lang/StringUTF16" "LO_BYTE_SHIFT" "I") ∈ gW := gW_of (n := 449) (by decide +kernel) rfl
theorem q_451 : (Cond.methodLink RX1 46 yX1_isOfKind) ∈ gW := gW_of (n := 451) (by decide +kernel) rfl
theorem q_452 : (Cond.static yX1_isOfKind) ∈ gW := gW_of (n := 452) (by decide +kernel) rfl
theorem q_453 : (Cond.code yX1_isOfKind prog_3_method_8_code 2 (Option.some FieldType.boolean)) ∈ gW := gW_of (n := 453) (by decide +kernel) rfl
theorem q_454 : (Cond.methodLinkNest RX1 70 yX8_isPicture "PictureMoves") ∈ nW := nW_of (n := 454) (by decide +kernel) rfl
theorem q_455 : (Cond.methodLinkNest RX1 74 yX8_isPlace "PictureMoves") ∈ nW := nW_of (n := 455) (by decide +kernel) rfl
theorem q_456 : (Cond.static yX8_isPlace) ∈ gW := gW_of (n := 456) (by decide +kernel) rfl
theorem q_457 : (Cond.code yX8_isPlace prog_1_method_35_code 1 (Option.some FieldType.boolean)) ∈ gW := gW_of (n := 457) (by decide +kernel) rfl
theorem q_458 : (Cond.methodLinkNest RX1 77 yX8_isSize "PictureMoves") ∈ nW := nW_of (n := 458) (by decide +kernel) rfl
theorem q_459 : (Cond.static yX8_isSize) ∈ gW := gW_of (n := 459) (by decide +kernel) rfl
theorem q_460 : (Cond.code yX8_isSize prog_1_method_36_code 1 (Option.some FieldType.boolean)) ∈ gW := gW_of (n := 460) (by decide +kernel) rfl
theorem q_461 : (Cond.methodLinkNest RX1 50 yX8_isWithin "PictureMoves") ∈ nW := nW_of (n := 461) (by decide +kernel) rfl
theorem q_462 : (Cond.methodLink RX8 120 yX1_isAsTold) ∈ gW := gW_of (n := 462) (by decide +kernel) rfl
theorem q_463 : (Cond.instanceMethod yX1_isAsTold) ∈ gW := gW_of (n := 463) (by decide +kernel) rfl
theorem q_464 : (Cond.selects RX1 yX1_isAsTold yX1_isAsTold) ∈ gW := gW_of (n := 464) (by decide +kernel) rfl
theorem q_465 : (Cond.code yX1_isAsTold prog_3_method_4_code 1 (Option.some FieldType.boolean)) ∈ gW := gW_of (n := 465) (by decide +kernel) rfl
theorem q_466 : (Cond.methodLink RX8 128 yX8_refusedFull) ∈ gW := gW_of (n := 466) (by decide +kernel) rfl
theorem q_468 : (Cond.instanceMethod yX8_refusedFull) ∈ gW := gW_of (n := 468) (by decide +kernel) rfl
theorem q_469 : (Cond.code yX8_refusedFull prog_1_method_30_code 1 (Option.some FieldType.int)) ∈ gW := gW_of (n := 469) (by decide +kernel) rfl
theorem q_470 : (Cond.methodLink RX8 131 yX3_performs) ∈ gW := gW_of (n := 470) (by decide +kernel) rfl
theorem q_471 : (Cond.instanceMethod yX3_performs) ∈ gW := gW_of (n := 471) (by decide +kernel) rfl
theorem q_472 : (Cond.selects RX3 yX3_performs yX3_performs) ∈ gW := gW_of (n := 472) (by decide +kernel) rfl
theorem q_473 : (Cond.code yX3_performs prog_5_method_2_code 2 (Option.some FieldType.int)) ∈ gW := gW_of (n := 473) (by decide +kernel) rfl
theorem q_474 : (Cond.methodLink RX3 32 yX3_movesBlock) ∈ gW := gW_of (n := 474) (by decide +kernel) rfl
theorem q_476 : (Cond.instanceMethod yX3_movesBlock) ∈ gW := gW_of (n := 476) (by decide +kernel) rfl
theorem q_477 : (Cond.code yX3_movesBlock prog_5_method_3_code 12 (Option.some FieldType.int)) ∈ gW := gW_of (n := 477) (by decide +kernel) rfl
theorem q_478 : (Cond.methodLink RX3 39 yX1_numberAt) ∈ gW := gW_of (n := 478) (by decide +kernel) rfl
theorem q_479 : (Cond.instanceMethod yX1_numberAt) ∈ gW := gW_of (n := 479) (by decide +kernel) rfl
theorem q_480 : (Cond.selects RX1 yX1_numberAt yX1_numberAt) ∈ gW := gW_of (n := 480) (by decide +kernel) rfl
theorem q_481 : (Cond.code yX1_numberAt prog_3_method_5_code 2 (Option.some FieldType.int)) ∈ gW := gW_of (n := 481) (by decide +kernel) rfl
theorem q_482 : (Cond.methodLink RX3 62 yX3_keepsSource) ∈ gW := gW_of (n := 482) (by decide +kernel) rfl
theorem q_484 : (Cond.instanceMethod yX3_keepsSource) ∈ gW := gW_of (n := 484) (by decide +kernel) rfl
theorem q_485 : (Cond.code yX3_keepsSource prog_5_method_4_code 3 (Option.none : Option Jvm.ClassFile.FieldType)) ∈ gW := gW_of (n := 485) (by decide +kernel) rfl
theorem q_486 : (Cond.methodLink RX3 80 yX6_rowAt) ∈ gW := gW_of (n := 486) (by decide +kernel) rfl
theorem q_487 : (Cond.methodLinkNest RX3 66 yX8_spanMask "PictureMoves") ∈ nW := nW_of (n := 487) (by decide +kernel) rfl
theorem q_488 : (Cond.methodLink RX3 70 yX3_sourceAt) ∈ gW := gW_of (n := 488) (by decide +kernel) rfl
theorem q_490 : (Cond.instanceMethod yX3_sourceAt) ∈ gW := gW_of (n := 490) (by decide +kernel) rfl
theorem q_491 : (Cond.code yX3_sourceAt prog_5_method_5_code 2 (Option.some FieldType.int)) ∈ gW := gW_of (n := 491) (by decide +kernel) rfl
theorem q_492 : (Cond.methodLinkNest RX3 83 yX8_isWithin "PictureMoves") ∈ nW := nW_of (n := 492) (by decide +kernel) rfl
theorem q_493 : (Cond.methodLinkNest RX3 73 yX8_shifted "PictureMoves") ∈ nW := nW_of (n := 493) (by decide +kernel) rfl
theorem q_494 : (Cond.methodLink RX3 76 yX6_joinsRow) ∈ gW := gW_of (n := 494) (by decide +kernel) rfl
theorem q_495 : (Cond.instanceMethod yX6_joinsRow) ∈ gW := gW_of (n := 495) (by decide +kernel) rfl
theorem q_496 : (Cond.selects RX6 yX6_joinsRow yX6_joinsRow) ∈ gW := gW_of (n := 496) (by decide +kernel) rfl
theorem q_497 : (Cond.code yX6_joinsRow prog_8_method_10_code 9 (Option.some FieldType.int)) ∈ gW := gW_of (n := 497) (by decide +kernel) rfl
theorem q_498 : (Cond.methodLink RX6 61 yX6_openAt) ∈ gW := gW_of (n := 498) (by decide +kernel) rfl
theorem q_499 : (Cond.instanceMethod yX6_openAt) ∈ gW := gW_of (n := 499) (by decide +kernel) rfl
theorem q_500 : (Cond.selects RX6 yX6_openAt yX6_openAt) ∈ gW := gW_of (n := 500) (by decide +kernel) rfl
theorem q_501 : (Cond.code yX6_openAt prog_8_method_7_code 6 (Option.some FieldType.int)) ∈ gW := gW_of (n := 501) (by decide +kernel) rfl
theorem q_502 : (Cond.methodLinkNest RX6 58 yX8_spanMask "PictureMoves") ∈ nW := nW_of (n := 502) (by decide +kernel) rfl
theorem q_503 : (Cond.methodLink RX6 64 yX6_patternAt) ∈ gW := gW_of (n := 503) (by decide +kernel) rfl
theorem q_504 : (Cond.instanceMethod yX6_patternAt) ∈ gW := gW_of (n := 504) (by decide +kernel) rfl
theorem q_505 : (Cond.selects RX6 yX6_patternAt yX6_patternAt) ∈ gW := gW_of (n := 505) (by decide +kernel) rfl
theorem q_506 : (Cond.code yX6_patternAt prog_8_method_6_code 2 (Option.some FieldType.int)) ∈ gW := gW_of (n := 506) (by decide +kernel) rfl
theorem q_507 : (Cond.constant RX6 57 (16843009 : Int32)) ∈ gW := gW_of (n := 507) (by decide +kernel) rfl
theorem q_508 : (Cond.methodLinkNest RX6 67 yX8_joinedRow "PictureMoves") ∈ nW := nW_of (n := 508) (by decide +kernel) rfl
theorem q_509 : (Cond.static yX8_joinedRow) ∈ gW := gW_of (n := 509) (by decide +kernel) rfl
theorem q_510 : (Cond.code yX8_joinedRow prog_1_method_40_code 6 (Option.some FieldType.int)) ∈ gW := gW_of (n := 510) (by decide +kernel) rfl
theorem q_511 : (Cond.methodLink RX6 71 yX6_turnsDots) ∈ gW := gW_of (n := 511) (by decide +kernel) rfl
theorem q_512 : (Cond.instanceMethod yX6_turnsDots) ∈ gW := gW_of (n := 512) (by decide +kernel) rfl
theorem q_513 : (Cond.selects RX6 yX6_turnsDots yX6_turnsDots) ∈ gW := gW_of (n := 513) (by decide +kernel) rfl
theorem q_514 : (Cond.code yX6_turnsDots prog_8_method_11_code 4 (Option.some FieldType.int)) ∈ gW := gW_of (n := 514) (by decide +kernel) rfl
theorem q_515 : (Cond.methodLink RX6 75 yJ6_bitCount_0f7a4) ∈ gW := gW_of (n := 515) (by decide +kernel) rfl
theorem q_516 : (Cond.methodLink RX3 36 yX3_drawsLine) ∈ gW := gW_of (n := 516) (by decide +kernel) rfl
theorem q_518 : (Cond.instanceMethod yX3_drawsLine) ∈ gW := gW_of (n := 518) (by decide +kernel) rfl
theorem q_519 : (Cond.code yX3_drawsLine prog_5_method_6_code 11 (Option.some FieldType.int)) ∈ gW := gW_of (n := 519) (by decide +kernel) rfl
theorem q_520 : (Cond.methodLink RX3 87 yJ9_abs_0f7a4) ∈ gW := gW_of (n := 520) (by decide +kernel) rfl
theorem q_521 : (Cond.static yJ9_abs_0f7a4) ∈ gW := gW_of (n := 521) (by decide +kernel) rfl
theorem q_522 : (Cond.code yJ9_abs_0f7a4 prog_13_method_59_code 1 (Option.some FieldType.int)) ∈ gW := gW_of (n := 522) (by decide +kernel) rfl
theorem q_523 : (Cond.methodLink RX3 92 yJ9_max_7cf53) ∈ gW := gW_of (n := 523) (by decide +kernel) rfl
theorem q_524 : (Cond.methodLink RX3 95 yX3_between) ∈ gW := gW_of (n := 524) (by decide +kernel) rfl
theorem q_525 : (Cond.static yX3_between) ∈ gW := gW_of (n := 525) (by decide +kernel) rfl
theorem q_526 : (Cond.code yX3_between prog_5_method_7_code 4 (Option.some FieldType.int)) ∈ gW := gW_of (n := 526) (by decide +kernel) rfl
theorem q_527 : (Cond.methodLink RX3 99 yJ9_floorDiv_7cf53) ∈ gW := gW_of (n := 527) (by decide +kernel) rfl
theorem q_528 : (Cond.static yJ9_floorDiv_7cf53) ∈ gW := gW_of (n := 528) (by decide +kernel) rfl
theorem q_529 : (Cond.code yJ9_floorDiv_7cf53 prog_13_method_47_code 3 (Option.some FieldType.int)) ∈ gW := gW_of (n := 529) (by decide +kernel) rfl
theorem q_530 : (Cond.methodLink RX3 43 yX3_floods) ∈ gW := gW_of (n := 530) (by decide +kernel) rfl
theorem q_532 : (Cond.instanceMethod yX3_floods) ∈ gW := gW_of (n := 532) (by decide +kernel) rfl
theorem q_533 : (Cond.code yX3_floods prog_5_method_8_code 7 (Option.some FieldType.int)) ∈ gW := gW_of (n := 533) (by decide +kernel) rfl
theorem q_534 : (Cond.methodLink RX3 102 yX6_isOpen) ∈ gW := gW_of (n := 534) (by decide +kernel) rfl
theorem q_535 : (Cond.instanceMethod yX6_isOpen) ∈ gW := gW_of (n := 535) (by decide +kernel) rfl
theorem q_536 : (Cond.selects RX6 yX6_isOpen yX6_isOpen) ∈ gW := gW_of (n := 536) (by decide +kernel) rfl
theorem q_537 : (Cond.code yX6_isOpen prog_8_method_8_code 3 (Option.some FieldType.boolean)) ∈ gW := gW_of (n := 537) (by decide +kernel) rfl
theorem q_538 : (Cond.methodLink RX3 106 yX6_dotAt) ∈ gW := gW_of (n := 538) (by decide +kernel) rfl
theorem q_539 : (Cond.methodLink RX3 109 yX6_openAt) ∈ gW := gW_of (n := 539) (by decide +kernel) rfl
theorem q_540 : (Cond.methodLinkNest RX3 117 yX8_dotMask "PictureMoves") ∈ nW := nW_of (n := 540) (by decide +kernel) rfl
theorem q_541 : (Cond.methodLink RX3 120 yX4_takesOut) ∈ gW := gW_of (n := 541) (by decide +kernel) rfl
theorem q_542 : (Cond.instanceMethod yX4_takesOut) ∈ gW := gW_of (n := 542) (by decide +kernel) rfl
theorem q_543 : (Cond.selects RX4 yX4_takesOut yX4_takesOut) ∈ gW := gW_of (n := 543) (by decide +kernel) rfl
theorem q_544 : (Cond.code yX4_takesOut prog_6_method_2_code 6 (Option.none : Option Jvm.ClassFile.FieldType)) ∈ gW := gW_of (n := 544) (by decide +kernel) rfl
theorem q_545 : (Cond.methodLink RX4 25 yX4_reaches) ∈ gW := gW_of (n := 545) (by decide +kernel) rfl
theorem q_547 : (Cond.instanceMethod yX4_reaches) ∈ gW := gW_of (n := 547) (by decide +kernel) rfl
theorem q_548 : (Cond.code yX4_reaches prog_6_method_4_code 4 (Option.none : Option Jvm.ClassFile.FieldType)) ∈ gW := gW_of (n := 548) (by decide +kernel) rfl
theorem q_549 : (Cond.methodLinkNest RX4 32 yX8_isWithin "PictureMoves") ∈ nW := nW_of (n := 549) (by decide +kernel) rfl
theorem q_550 : (Cond.methodLink RX4 36 yX4_runsThrough) ∈ gW := gW_of (n := 550) (by decide +kernel) rfl
theorem q_551 : (Cond.static yX4_runsThrough) ∈ gW := gW_of (n := 551) (by decide +kernel) rfl
theorem q_552 : (Cond.code yX4_runsThrough prog_6_method_5_code 7 (Option.some FieldType.int)) ∈ gW := gW_of (n := 552) (by decide +kernel) rfl
theorem q_553 : (Cond.methodLink RX3 124 yX6_turnsDots) ∈ gW := gW_of (n := 553) (by decide +kernel) rfl
theorem q_554 : (Cond.methodLink RX3 47 yX3_fillsRectangle) ∈ gW := gW_of (n := 554) (by decide +kernel) rfl
theorem q_556 : (Cond.instanceMethod yX3_fillsRectangle) ∈ gW := gW_of (n := 556) (by decide +kernel) rfl
theorem q_557 : (Cond.code yX3_fillsRectangle prog_5_method_9_code 8 (Option.some FieldType.int)) ∈ gW := gW_of (n := 557) (by decide +kernel) rfl
theorem q_558 : (Cond.methodLink RX3 50 yX3_writesLetter) ∈ gW := gW_of (n := 558) (by decide +kernel) rfl
theorem q_560 : (Cond.instanceMethod yX3_writesLetter) ∈ gW := gW_of (n := 560) (by decide +kernel) rfl
theorem q_561 : (Cond.code yX3_writesLetter prog_5_method_10_code 9 (Option.some FieldType.int)) ∈ gW := gW_of (n := 561) (by decide +kernel) rfl
theorem q_562 : (Cond.methodLink RX3 127 yX3_letterRow) ∈ gW := gW_of (n := 562) (by decide +kernel) rfl
theorem q_563 : (Cond.static yX3_letterRow) ∈ gW := gW_of (n := 563) (by decide +kernel) rfl
theorem q_564 : (Cond.code yX3_letterRow prog_5_method_11_code 2 (Option.some FieldType.int)) ∈ gW := gW_of (n := 564) (by decide +kernel) rfl
theorem q_565 : (Cond.methodLink RX3 53 yX6_opens) ∈ gW := gW_of (n := 565) (by decide +kernel) rfl
theorem q_566 : (Cond.instanceMethod yX6_opens) ∈ gW := gW_of (n := 566) (by decide +kernel) rfl
theorem q_567 : (Cond.selects RX6 yX6_opens yX6_opens) ∈ gW := gW_of (n := 567) (by decide +kernel) rfl
theorem q_568 : (Cond.code yX6_opens prog_8_method_9_code 6 (Option.none : Option Jvm.ClassFile.FieldType)) ∈ gW := gW_of (n := 568) (by decide +kernel) rfl
theorem q_569 : (Cond.methodLink RL 31 yX8_closes) ∈ gW := gW_of (n := 569) (by decide +kernel) rfl
theorem q_570 : (Cond.instanceMethod yX8_closes) ∈ gW := gW_of (n := 570) (by decide +kernel) rfl
theorem q_571 : (Cond.selects RX8 yX8_closes yX8_closes) ∈ gW := gW_of (n := 571) (by decide +kernel) rfl
theorem q_572 : (Cond.code yX8_closes prog_1_method_6_code 2 (Option.some FieldType.int)) ∈ gW := gW_of (n := 572) (by decide +kernel) rfl
theorem q_573 : (Cond.methodLink RL 36 yX8_move) ∈ gW := gW_of (n := 573) (by decide +kernel) rfl
theorem q_574 : (Cond.instanceMethod yX8_move) ∈ gW := gW_of (n := 574) (by decide +kernel) rfl
theorem q_575 : (Cond.selects RX8 yX8_move yX8_move) ∈ gW := gW_of (n := 575) (by decide +kernel) rfl
theorem q_576 : (Cond.code yX8_move prog_1_method_7_code 10 (Option.some FieldType.int)) ∈ gW := gW_of (n := 576) (by decide +kernel) rfl
theorem q_577 : (Cond.methodLink RL 41 yX8_line) ∈ gW := gW_of (n := 577) (by decide +kernel) rfl
theorem q_578 : (Cond.instanceMethod yX8_line) ∈ gW := gW_of (n := 578) (by decide +kernel) rfl
theorem q_579 : (Cond.selects RX8 yX8_line yX8_line) ∈ gW := gW_of (n := 579) (by decide +kernel) rfl
theorem q_580 : (Cond.code yX8_line prog_1_method_8_code 7 (Option.some FieldType.int)) ∈ gW := gW_of (n := 580) (by decide +kernel) rfl
theorem q_581 : (Cond.methodLink RL 46 yX8_flood) ∈ gW := gW_of (n := 581) (by decide +kernel) rfl
theorem q_582 : (Cond.instanceMethod yX8_flood) ∈ gW := gW_of (n := 582) (by decide +kernel) rfl
theorem q_583 : (Cond.selects RX8 yX8_flood yX8_flood) ∈ gW := gW_of (n := 583) (by decide +kernel) rfl
theorem q_584 : (Cond.code yX8_flood prog_1_method_9_code 4 (Option.some FieldType.int)) ∈ gW := gW_of (n := 584) (by decide +kernel) rfl
theorem q_585 : (Cond.methodLink RX8 135 yX6_isOpen) ∈ gW := gW_of (n := 585) (by decide +kernel) rfl
theorem q_586 : (Cond.methodLink RX8 138 yX8_refusedNo) ∈ gW := gW_of (n := 586) (by decide +kernel) rfl
theorem q_588 : (Cond.instanceMethod yX8_refusedNo) ∈ gW := gW_of (n := 588) (by decide +kernel) rfl
theorem q_589 : (Cond.code yX8_refusedNo prog_1_method_29_code 1 (Option.some FieldType.int)) ∈ gW := gW_of (n := 589) (by decide +kernel) rfl
theorem q_590 : (Cond.methodLink RL 51 yX8_rectangle) ∈ gW := gW_of (n := 590) (by decide +kernel) rfl
theorem q_591 : (Cond.instanceMethod yX8_rectangle) ∈ gW := gW_of (n := 591) (by decide +kernel) rfl
theorem q_592 : (Cond.selects RX8 yX8_rectangle yX8_rectangle) ∈ gW := gW_of (n := 592) (by decide +kernel) rfl
theorem q_593 : (Cond.code yX8_rectangle prog_1_method_10_code 7 (Option.some FieldType.int)) ∈ gW := gW_of (n := 593) (by decide +kernel) rfl
theorem q_594 : (Cond.methodLink RL 55 yX8_letter) ∈ gW := gW_of (n := 594) (by decide +kernel) rfl
theorem q_595 : (Cond.instanceMethod yX8_letter) ∈ gW := gW_of (n := 595) (by decide +kernel) rfl
theorem q_596 : (Cond.selects RX8 yX8_letter yX8_letter) ∈ gW := gW_of (n := 596) (by decide +kernel) rfl
theorem q_597 : (Cond.code yX8_letter prog_1_method_11_code 6 (Option.some FieldType.int)) ∈ gW := gW_of (n := 597) (by decide +kernel) rfl
theorem q_598 : (Cond.methodLink RL 60 yX8_joins) ∈ gW := gW_of (n := 598) (by decide +kernel) rfl
theorem q_599 : (Cond.instanceMethod yX8_joins) ∈ gW := gW_of (n := 599) (by decide +kernel) rfl
theorem q_600 : (Cond.selects RX8 yX8_joins yX8_joins) ∈ gW := gW_of (n := 600) (by decide +kernel) rfl
theorem q_601 : (Cond.code yX8_joins prog_1_method_12_code 4 (Option.some FieldType.int)) ∈ gW := gW_of (n := 601) (by decide +kernel) rfl
theorem q_602 : (Cond.methodLink RX8 141 yX7_joined) ∈ gW := gW_of (n := 602) (by decide +kernel) rfl
theorem q_603 : (Cond.instanceMethod yX7_joined) ∈ gW := gW_of (n := 603) (by decide +kernel) rfl
theorem q_604 : (Cond.selects RX7 yX7_joined yX7_joined) ∈ gW := gW_of (n := 604) (by decide +kernel) rfl
theorem q_605 : (Cond.code yX7_joined prog_9_method_4_code 6 (Option.some FieldType.int)) ∈ gW := gW_of (n := 605) (by decide +kernel) rfl
theorem q_606 : (Cond.methodLink RX7 39 yX6_rowAt) ∈ gW := gW_of (n := 606) (by decide +kernel) rfl
theorem q_607 : (Cond.methodLink RX7 43 yX6_joinsRow) ∈ gW := gW_of (n := 607) (by decide +kernel) rfl
theorem q_608 : (Cond.methodLink RL 64 yX8_changes) ∈ gW := gW_of (n := 608) (by decide +kernel) rfl
theorem q_609 : (Cond.instanceMethod yX8_changes) ∈ gW := gW_of (n := 609) (by decide +kernel) rfl
theorem q_610 : (Cond.selects RX8 yX8_changes yX8_changes) ∈ gW := gW_of (n := 610) (by decide +kernel) rfl
theorem q_611 : (Cond.code yX8_changes prog_1_method_13_code 3 (Option.some FieldType.int)) ∈ gW := gW_of (n := 611) (by decide +kernel) rfl
theorem q_612 : (Cond.methodLink RX8 144 yX7_changed) ∈ gW := gW_of (n := 612) (by decide +kernel) rfl
theorem q_613 : (Cond.instanceMethod yX7_changed) ∈ gW := gW_of (n := 613) (by decide +kernel) rfl
theorem q_614 : (Cond.selects RX7 yX7_changed yX7_changed) ∈ gW := gW_of (n := 614) (by decide +kernel) rfl
theorem q_615 : (Cond.code yX7_changed prog_9_method_5_code 4 (Option.some FieldType.int)) ∈ gW := gW_of (n := 615) (by decide +kernel) rfl
theorem q_616 : (Cond.methodLink RX7 47 yX7_changedRow) ∈ gW := gW_of (n := 616) (by decide +kernel) rfl
theorem q_618 : (Cond.instanceMethod yX7_changedRow) ∈ gW := gW_of (n := 618) (by decide +kernel) rfl
theorem q_619 : (Cond.code yX7_changedRow prog_9_method_7_code 4 (Option.some FieldType.int)) ∈ gW := gW_of (n := 619) (by decide +kernel) rfl
theorem q_620 : (Cond.methodLink RX7 63 yX7_mirroredRow) ∈ gW := gW_of (n := 620) (by decide +kernel) rfl
theorem q_621 : (Cond.static yX7_mirroredRow) ∈ gW := gW_of (n := 621) (by decide +kernel) rfl
theorem q_622 : (Cond.code yX7_mirroredRow prog_9_method_10_code 3 (Option.some FieldType.int)) ∈ gW := gW_of (n := 622) (by decide +kernel) rfl
theorem q_623 : (Cond.methodLink RX7 66 yX7_grownRow) ∈ gW := gW_of (n := 623) (by decide +kernel) rfl
theorem q_625 : (Cond.instanceMethod yX7_grownRow) ∈ gW := gW_of (n := 625) (by decide +kernel) rfl
theorem q_626 : (Cond.code yX7_grownRow prog_9_method_8_code 4 (Option.some FieldType.int)) ∈ gW := gW_of (n := 626) (by decide +kernel) rfl
theorem q_627 : (Cond.methodLink RX7 69 yX7_thinnedRow) ∈ gW := gW_of (n := 627) (by decide +kernel) rfl
theorem q_629 : (Cond.instanceMethod yX7_thinnedRow) ∈ gW := gW_of (n := 629) (by decide +kernel) rfl
theorem q_630 : (Cond.code yX7_thinnedRow prog_9_method_9_code 4 (Option.some FieldType.int)) ∈ gW := gW_of (n := 630) (by decide +kernel) rfl
theorem q_631 : (Cond.methodLink RX7 51 yX7_becomesWhatComes) ∈ gW := gW_of (n := 631) (by decide +kernel) rfl
theorem q_633 : (Cond.instanceMethod yX7_becomesWhatComes) ∈ gW := gW_of (n := 633) (by decide +kernel) rfl
theorem q_634 : (Cond.code yX7_becomesWhatComes prog_9_method_11_code 4 (Option.some FieldType.int)) ∈ gW := gW_of (n := 634) (by decide +kernel) rfl
theorem q_635 : (Cond.methodLink RX7 72 yX6_turnsDots) ∈ gW := gW_of (n := 635) (by decide +kernel) rfl
theorem q_636 : (Cond.methodLink RL 68 yX8_rolls) ∈ gW := gW_of (n := 636) (by decide +kernel) rfl
theorem q_637 : (Cond.instanceMethod yX8_rolls) ∈ gW := gW_of (n := 637) (by decide +kernel) rfl
theorem q_638 : (Cond.selects RX8 yX8_rolls yX8_rolls) ∈ gW := gW_of (n := 638) (by decide +kernel) rfl
theorem q_639 : (Cond.code yX8_rolls prog_1_method_14_code 4 (Option.some FieldType.int)) ∈ gW := gW_of (n := 639) (by decide +kernel) rfl
theorem q_640 : (Cond.methodLink RX8 147 yX7_rolled) ∈ gW := gW_of (n := 640) (by decide +kernel) rfl
theorem q_641 : (Cond.instanceMethod yX7_rolled) ∈ gW := gW_of (n := 641) (by decide +kernel) rfl
theorem q_642 : (Cond.selects RX7 yX7_rolled yX7_rolled) ∈ gW := gW_of (n := 642) (by decide +kernel) rfl
theorem q_643 : (Cond.code yX7_rolled prog_9_method_6_code 7 (Option.some FieldType.int)) ∈ gW := gW_of (n := 643) (by decide +kernel) rfl
theorem q_644 : (Cond.methodLink RX7 55 yJ9_floorMod_7cf53) ∈ gW := gW_of (n := 644) (by decide +kernel) rfl
theorem q_645 : (Cond.static yJ9_floorMod_7cf53) ∈ gW := gW_of (n := 645) (by decide +kernel) rfl
theorem q_646 : (Cond.code yJ9_floorMod_7cf53 prog_13_method_50_code 3 (Option.some FieldType.int)) ∈ gW := gW_of (n := 646) (by decide +kernel) rfl
theorem q_647 : (Cond.methodLinkNest RX7 60 yX8_shifted "PictureMoves") ∈ nW := nW_of (n := 647) (by decide +kernel) rfl
theorem q_648 : (Cond.methodLink RL 72 yX8_at) ∈ gW := gW_of (n := 648) (by decide +kernel) rfl
theorem q_649 : (Cond.instanceMethod yX8_at) ∈ gW := gW_of (n := 649) (by decide +kernel) rfl
theorem q_650 : (Cond.selects RX8 yX8_at yX8_at) ∈ gW := gW_of (n := 650) (by decide +kernel) rfl
theorem q_651 : (Cond.code yX8_at prog_1_method_15_code 4 (Option.some FieldType.int)) ∈ gW := gW_of (n := 651) (by decide +kernel) rfl
theorem q_652 : (Cond.methodLink RL 76 yX8_row) ∈ gW := gW_of (n := 652) (by decide +kernel) rfl
theorem q_653 : (Cond.instanceMethod yX8_row) ∈ gW := gW_of (n := 653) (by decide +kernel) rfl
theorem q_654 : (Cond.selects RX8 yX8_row yX8_row) ∈ gW := gW_of (n := 654) (by decide +kernel) rfl
theorem q_655 : (Cond.code yX8_row prog_1_method_16_code 3 (Option.some FieldType.int)) ∈ gW := gW_of (n := 655) (by decide +kernel) rfl
theorem q_656 : (Cond.methodLink RL 80 yX8_of) ∈ gW := gW_of (n := 656) (by decide +kernel) rfl
theorem q_657 : (Cond.instanceMethod yX8_of) ∈ gW := gW_of (n := 657) (by decide +kernel) rfl
theorem q_658 : (Cond.selects RX8 yX8_of yX8_of) ∈ gW := gW_of (n := 658) (by decide +kernel) rfl
theorem q_659 : (Cond.code yX8_of prog_1_method_17_code 3 (Option.some FieldType.int)) ∈ gW := gW_of (n := 659) (by decide +kernel) rfl
theorem q_660 : (Cond.methodLink RX8 150 yX0_measured) ∈ gW := gW_of (n := 660) (by decide +kernel) rfl
theorem q_661 : (Cond.instanceMethod yX0_measured) ∈ gW := gW_of (n := 661) (by decide +kernel) rfl
theorem q_662 : (Cond.selects RX0 yX0_measured yX0_measured) ∈ gW := gW_of (n := 662) (by decide +kernel) rfl
theorem q_663 : (Cond.code yX0_measured prog_2_method_2_code 3 (Option.some FieldType.int)) ∈ gW := gW_of (n := 663) (by decide +kernel) rfl
theorem q_664 : (Cond.methodLink RX0 23 yX0_ones) ∈ gW := gW_of (n := 664) (by decide +kernel) rfl
theorem q_665 : (Cond.methodLink RX0 27 yX0_partsOf) ∈ gW := gW_of (n := 665) (by decide +kernel) rfl
theorem q_667 : (Cond.instanceMethod yX0_partsOf) ∈ gW := gW_of (n := 667) (by decide +kernel) rfl
theorem q_668 : (Cond.code yX0_partsOf prog_2_method_9_code 3 (Option.some FieldType.int)) ∈ gW := gW_of (n := 668) (by decide +kernel) rfl
theorem q_669 : (Cond.methodLink RX0 76 yX4_numberOfParts) ∈ gW := gW_of (n := 669) (by decide +kernel) rfl
theorem q_670 : (Cond.instanceMethod yX4_numberOfParts) ∈ gW := gW_of (n := 670) (by decide +kernel) rfl
theorem q_671 : (Cond.selects RX4 yX4_numberOfParts yX4_numberOfParts) ∈ gW := gW_of (n := 671) (by decide +kernel) rfl
theorem q_672 : (Cond.code yX4_numberOfParts prog_6_method_3_code 4 (Option.some FieldType.int)) ∈ gW := gW_of (n := 672) (by decide +kernel) rfl
theorem q_673 : (Cond.methodLink RX4 29 yX4_takesOut) ∈ gW := gW_of (n := 673) (by decide +kernel) rfl
theorem q_674 : (Cond.methodLink RX0 30 yX0_leastX) ∈ gW := gW_of (n := 674) (by decide +kernel) rfl
theorem q_676 : (Cond.instanceMethod yX0_leastX) ∈ gW := gW_of (n := 676) (by decide +kernel) rfl
theorem q_677 : (Cond.code yX0_leastX prog_2_method_11_code 4 (Option.some FieldType.int)) ∈ gW := gW_of (n := 677) (by decide +kernel) rfl
theorem q_678 : (Cond.methodLink RX0 79 yX0_columnsOf) ∈ gW := gW_of (n := 678) (by decide +kernel) rfl
theorem q_680 : (Cond.instanceMethod yX0_columnsOf) ∈ gW := gW_of (n := 680) (by decide +kernel) rfl
theorem q_681 : (Cond.code yX0_columnsOf prog_2_method_10_code 4 (Option.some FieldType.int)) ∈ gW := gW_of (n := 681) (by decide +kernel) rfl
theorem q_682 : (Cond.methodLinkNest RX0 82 yX8_dotMask "PictureMoves") ∈ nW := nW_of (n := 682) (by decide +kernel) rfl
theorem q_683 : (Cond.methodLink RX0 33 yX0_greatestX) ∈ gW := gW_of (n := 683) (by decide +kernel) rfl
theorem q_685 : (Cond.instanceMethod yX0_greatestX) ∈ gW := gW_of (n := 685) (by decide +kernel) rfl
theorem q_686 : (Cond.code yX0_greatestX prog_2_method_12_code 4 (Option.some FieldType.int)) ∈ gW := gW_of (n := 686) (by decide +kernel) rfl
theorem q_687 : (Cond.methodLink RX0 36 yX0_leastY) ∈ gW := gW_of (n := 687) (by decide +kernel) rfl
theorem q_689 : (Cond.instanceMethod yX0_leastY) ∈ gW := gW_of (n := 689) (by decide +kernel) rfl
theorem q_690 : (Cond.code yX0_leastY prog_2_method_13_code 3 (Option.some FieldType.int)) ∈ gW := gW_of (n := 690) (by decide +kernel) rfl
theorem q_691 : (Cond.methodLink RX0 39 yX0_greatestY) ∈ gW := gW_of (n := 691) (by decide +kernel) rfl
theorem q_693 : (Cond.instanceMethod yX0_greatestY) ∈ gW := gW_of (n := 693) (by decide +kernel) rfl
theorem q_694 : (Cond.code yX0_greatestY prog_2_method_14_code 3 (Option.some FieldType.int)) ∈ gW := gW_of (n := 694) (by decide +kernel) rfl
theorem q_695 : (Cond.methodLink RX0 42 yX0_openDots) ∈ gW := gW_of (n := 695) (by decide +kernel) rfl
theorem q_697 : (Cond.instanceMethod yX0_openDots) ∈ gW := gW_of (n := 697) (by decide +kernel) rfl
theorem q_698 : (Cond.code yX0_openDots prog_2_method_15_code 3 (Option.some FieldType.int)) ∈ gW := gW_of (n := 698) (by decide +kernel) rfl
theorem q_699 : (Cond.methodLink RX0 85 yX6_openAt) ∈ gW := gW_of (n := 699) (by decide +kernel) rfl
theorem q_700 : (Cond.methodLink RL 84 yX8_count) ∈ gW := gW_of (n := 700) (by decide +kernel) rfl
theorem q_701 : (Cond.instanceMethod yX8_count) ∈ gW := gW_of (n := 701) (by decide +kernel) rfl
theorem q_702 : (Cond.selects RX8 yX8_count yX8_count) ∈ gW := gW_of (n := 702) (by decide +kernel) rfl
theorem q_703 : (Cond.code yX8_count prog_1_method_18_code 6 (Option.some FieldType.int)) ∈ gW := gW_of (n := 703) (by decide +kernel) rfl
theorem q_704 : (Cond.methodLink RX8 153 yX8_isPlace) ∈ gW := gW_of (n := 704) (by decide +kernel) rfl
theorem q_705 : (Cond.methodLink RX8 156 yX8_isSize) ∈ gW := gW_of (n := 705) (by decide +kernel) rfl
theorem q_706 : (Cond.methodLink RX8 159 yX0_onesWithin) ∈ gW := gW_of (n := 706) (by decide +kernel) rfl
theorem q_707 : (Cond.methodLink RL 88 yX8_unlike) ∈ gW := gW_of (n := 707) (by decide +kernel) rfl
theorem q_708 : (Cond.instanceMethod yX8_unlike) ∈ gW := gW_of (n := 708) (by decide +kernel) rfl
theorem q_709 : (Cond.selects RX8 yX8_unlike yX8_unlike) ∈ gW := gW_of (n := 709) (by decide +kernel) rfl
theorem q_710 : (Cond.code yX8_unlike prog_1_method_19_code 3 (Option.some FieldType.int)) ∈ gW := gW_of (n := 710) (by decide +kernel) rfl
theorem q_711 : (Cond.methodLink RX8 163 yX0_unlikeDots) ∈ gW := gW_of (n := 711) (by decide +kernel) rfl
theorem q_712 : (Cond.instanceMethod yX0_unlikeDots) ∈ gW := gW_of (n := 712) (by decide +kernel) rfl
theorem q_713 : (Cond.selects RX0 yX0_unlikeDots yX0_unlikeDots) ∈ gW := gW_of (n := 713) (by decide +kernel) rfl
theorem q_714 : (Cond.code yX0_unlikeDots prog_2_method_5_code 5 (Option.some FieldType.int)) ∈ gW := gW_of (n := 714) (by decide +kernel) rfl
theorem q_715 : (Cond.methodLink RL 92 yX8_finds) ∈ gW := gW_of (n := 715) (by decide +kernel) rfl
theorem q_716 : (Cond.instanceMethod yX8_finds) ∈ gW := gW_of (n := 716) (by decide +kernel) rfl
theorem q_717 : (Cond.selects RX8 yX8_finds yX8_finds) ∈ gW := gW_of (n := 717) (by decide +kernel) rfl
theorem q_718 : (Cond.code yX8_finds prog_1_method_20_code 7 (Option.some FieldType.int)) ∈ gW := gW_of (n := 718) (by decide +kernel) rfl
theorem q_719 : (Cond.methodLink RX8 166 yX0_takesBlock) ∈ gW := gW_of (n := 719) (by decide +kernel) rfl
theorem q_720 : (Cond.instanceMethod yX0_takesBlock) ∈ gW := gW_of (n := 720) (by decide +kernel) rfl
theorem q_721 : (Cond.selects RX0 yX0_takesBlock yX0_takesBlock) ∈ gW := gW_of (n := 721) (by decide +kernel) rfl
theorem q_722 : (Cond.code yX0_takesBlock prog_2_method_6_code 6 (Option.none : Option Jvm.ClassFile.FieldType)) ∈ gW := gW_of (n := 722) (by decide +kernel) rfl
theorem q_723 : (Cond.methodLinkNest RX0 64 yX8_shifted "PictureMoves") ∈ nW := nW_of (n := 723) (by decide +kernel) rfl
theorem q_724 : (Cond.methodLink RX8 170 yX0_placesOfBlock) ∈ gW := gW_of (n := 724) (by decide +kernel) rfl
theorem q_725 : (Cond.instanceMethod yX0_placesOfBlock) ∈ gW := gW_of (n := 725) (by decide +kernel) rfl
theorem q_726 : (Cond.selects RX0 yX0_placesOfBlock yX0_placesOfBlock) ∈ gW := gW_of (n := 726) (by decide +kernel) rfl
theorem q_727 : (Cond.code yX0_placesOfBlock prog_2_method_7_code 8 (Option.some FieldType.int)) ∈ gW := gW_of (n := 727) (by decide +kernel) rfl
theorem q_728 : (Cond.methodLink RX0 67 yX0_alikePlaces) ∈ gW := gW_of (n := 728) (by decide +kernel) rfl
theorem q_729 : (Cond.static yX0_alikePlaces) ∈ gW := gW_of (n := 729) (by decide +kernel) rfl
theorem q_730 : (Cond.code yX0_alikePlaces prog_2_method_8_code 6 (Option.some FieldType.int)) ∈ gW := gW_of (n := 730) (by decide +kernel) rfl
theorem q_731 : (Cond.methodLink RL 96 yX8_open) ∈ gW := gW_of (n := 731) (by decide +kernel) rfl
theorem q_732 : (Cond.instanceMethod yX8_open) ∈ gW := gW_of (n := 732) (by decide +kernel) rfl
theorem q_733 : (Cond.selects RX8 yX8_open yX8_open) ∈ gW := gW_of (n := 733) (by decide +kernel) rfl
theorem q_734 : (Cond.code yX8_open prog_1_method_21_code 3 (Option.some FieldType.int)) ∈ gW := gW_of (n := 734) (by decide +kernel) rfl
theorem q_735 : (Cond.methodLink RL 100 yX8_type) ∈ gW := gW_of (n := 735) (by decide +kernel) rfl
theorem q_736 : (Cond.instanceMethod yX8_type) ∈ gW := gW_of (n := 736) (by decide +kernel) rfl
theorem q_737 : (Cond.selects RX8 yX8_type yX8_type) ∈ gW := gW_of (n := 737) (by decide +kernel) rfl
theorem q_738 : (Cond.code yX8_type prog_1_method_22_code 2 (Option.some FieldType.int)) ∈ gW := gW_of (n := 738) (by decide +kernel) rfl
theorem q_739 : (Cond.methodLink RX8 176 yX2_takes) ∈ gW := gW_of (n := 739) (by decide +kernel) rfl
theorem q_740 : (Cond.instanceMethod yX2_takes) ∈ gW := gW_of (n := 740) (by decide +kernel) rfl
theorem q_741 : (Cond.selects RX2 yX2_takes yX2_takes) ∈ gW := gW_of (n := 741) (by decide +kernel) rfl
theorem q_742 : (Cond.code yX2_takes prog_4_method_2_code 2 (Option.none : Option Jvm.ClassFile.FieldType)) ∈ gW := gW_of (n := 742) (by decide +kernel) rfl
theorem q_743 : (Cond.methodLink RL 105 yX8_clear) ∈ gW := gW_of (n := 743) (by decide +kernel) rfl
theorem q_744 : (Cond.instanceMethod yX8_clear) ∈ gW := gW_of (n := 744) (by decide +kernel) rfl
theorem q_745 : (Cond.selects RX8 yX8_clear yX8_clear) ∈ gW := gW_of (n := 745) (by decide +kernel) rfl
theorem q_746 : (Cond.code yX8_clear prog_1_method_23_code 2 (Option.some FieldType.int)) ∈ gW := gW_of (n := 746) (by decide +kernel) rfl
theorem q_747 : (Cond.methodLink RL 109 yX8_does) ∈ gW := gW_of (n := 747) (by decide +kernel) rfl
theorem q_748 : (Cond.instanceMethod yX8_does) ∈ gW := gW_of (n := 748) (by decide +kernel) rfl
theorem q_749 : (Cond.selects RX8 yX8_does yX8_does) ∈ gW := gW_of (n := 749) (by decide +kernel) rfl
theorem q_750 : (Cond.code yX8_does prog_1_method_24_code 4 (Option.some FieldType.int)) ∈ gW := gW_of (n := 750) (by decide +kernel) rfl
theorem q_751 : (Cond.methodLink RX8 179 yX2_faultIn) ∈ gW := gW_of (n := 751) (by decide +kernel) rfl
theorem q_752 : (Cond.instanceMethod yX2_faultIn) ∈ gW := gW_of (n := 752) (by decide +kernel) rfl
theorem q_753 : (Cond.selects RX2 yX2_faultIn yX2_faultIn) ∈ gW := gW_of (n := 753) (by decide +kernel) rfl
theorem q_754 : (Cond.code yX2_faultIn prog_4_method_5_code 6 (Option.some FieldType.int)) ∈ gW := gW_of (n := 754) (by decide +kernel) rfl
theorem q_755 : (Cond.methodLink RX2 25 yX2_restarts) ∈ gW := gW_of (n := 755) (by decide +kernel) rfl
theorem q_756 : (Cond.instanceMethod yX2_restarts) ∈ gW := gW_of (n := 756) (by decide +kernel) rfl
theorem q_757 : (Cond.selects RX2 yX2_restarts yX2_restarts) ∈ gW := gW_of (n := 757) (by decide +kernel) rfl
theorem q_758 : (Cond.code yX2_restarts prog_4_method_3_code 1 (Option.none : Option Jvm.ClassFile.FieldType)) ∈ gW := gW_of (n := 758) (by decide +kernel) rfl
theorem q_759 : (Cond.methodLink RX2 28 yX2_isAtEnd) ∈ gW := gW_of (n := 759) (by decide +kernel) rfl
theorem q_760 : (Cond.instanceMethod yX2_isAtEnd) ∈ gW := gW_of (n := 760) (by decide +kernel) rfl
theorem q_761 : (Cond.selects RX2 yX2_isAtEnd yX2_isAtEnd) ∈ gW := gW_of (n := 761) (by decide +kernel) rfl
theorem q_762 : (Cond.code yX2_isAtEnd prog_4_method_4_code 1 (Option.some FieldType.boolean)) ∈ gW := gW_of (n := 762) (by decide +kernel) rfl
theorem q_763 : (Cond.methodLink RX2 22 yX2_skipsBlanks) ∈ gW := gW_of (n := 763) (by decide +kernel) rfl
theorem q_765 : (Cond.instanceMethod yX2_skipsBlanks) ∈ gW := gW_of (n := 765) (by decide +kernel) rfl
theorem q_766 : (Cond.code yX2_skipsBlanks prog_4_method_8_code 1 (Option.none : Option Jvm.ClassFile.FieldType)) ∈ gW := gW_of (n := 766) (by decide +kernel) rfl
theorem q_767 : (Cond.methodLink RX2 32 yX2_byteHere) ∈ gW := gW_of (n := 767) (by decide +kernel) rfl
theorem q_769 : (Cond.instanceMethod yX2_byteHere) ∈ gW := gW_of (n := 769) (by decide +kernel) rfl
theorem q_770 : (Cond.code yX2_byteHere prog_4_method_9_code 1 (Option.some FieldType.int)) ∈ gW := gW_of (n := 770) (by decide +kernel) rfl
theorem q_771 : (Cond.methodLinkNest RX2 76 yX8_isWithin "PictureMoves") ∈ nW := nW_of (n := 771) (by decide +kernel) rfl
theorem q_772 : (Cond.methodLink RX2 38 yX2_reads) ∈ gW := gW_of (n := 772) (by decide +kernel) rfl
theorem q_773 : (Cond.instanceMethod yX2_reads) ∈ gW := gW_of (n := 773) (by decide +kernel) rfl
theorem q_774 : (Cond.selects RX2 yX2_reads yX2_reads) ∈ gW := gW_of (n := 774) (by decide +kernel) rfl
theorem q_775 : (Cond.code yX2_reads prog_4_method_6_code 5 (Option.some FieldType.int)) ∈ gW := gW_of (n := 775) (by decide +kernel) rfl
theorem q_776 : (Cond.methodLink RX2 46 yX1_isSign) ∈ gW := gW_of (n := 776) (by decide +kernel) rfl
theorem q_777 : (Cond.static yX1_isSign) ∈ gW := gW_of (n := 777) (by decide +kernel) rfl
theorem q_778 : (Cond.code yX1_isSign prog_3_method_6_code 1 (Option.some FieldType.boolean)) ∈ gW := gW_of (n := 778) (by decide +kernel) rfl
theorem q_779 : (Cond.methodLink RX1 54 yJ0_isEmpty_aae02) ∈ gW := gW_of (n := 779) (by decide +kernel) rfl
theorem q_780 : (Cond.instanceMethod yJ0_isEmpty_aae02) ∈ gW := gW_of (n := 780) (by decide +kernel) rfl
theorem q_781 : (Cond.selects RJ0 yJ0_isEmpty_aae02 yJ0_isEmpty_aae02) ∈ gW := gW_of (n := 781) (by decide +kernel) rfl
theorem q_782 : (Cond.code yJ0_isEmpty_aae02 prog_14_method_55_code 1 (Option.some FieldType.boolean)) ∈ gW := gW_of (n := 782) (by decide +kernel) rfl
theorem q_783 : (Cond.methodLink RX2 50 yX1_begins) ∈ gW := gW_of (n := 783) (by decide +kernel) rfl
theorem q_784 : (Cond.methodLink RX2 58 yJ0_length_8abf5) ∈ gW := gW_of (n := 784) (by decide +kernel) rfl
theorem q_785 : (Cond.methodLink RX2 62 yX2_readsNumber) ∈ gW := gW_of (n := 785) (by decide +kernel) rfl
theorem q_787 : (Cond.instanceMethod yX2_readsNumber) ∈ gW := gW_of (n := 787) (by decide +kernel) rfl
theorem q_788 : (Cond.code yX2_readsNumber prog_4_method_7_code 4 (Option.some FieldType.boolean)) ∈ gW := gW_of (n := 788) (by decide +kernel) rfl
theorem q_789 : (Cond.methodLink RX2 68 yX1_with) ∈ gW := gW_of (n := 789) (by decide +kernel) rfl
theorem q_790 : (Cond.methodLink RX2 42 yX2_openingsAfter) ∈ gW := gW_of (n := 790) (by decide +kernel) rfl
theorem q_791 : (Cond.static yX2_openingsAfter) ∈ gW := gW_of (n := 791) (by decide +kernel) rfl
theorem q_792 : (Cond.code yX2_openingsAfter prog_4_method_10_code 2 (Option.some FieldType.int)) ∈ gW := gW_of (n := 792) (by decide +kernel) rfl
theorem q_793 : (Cond.methodLink RX8 183 yX2_restarts) ∈ gW := gW_of (n := 793) (by decide +kernel) rfl
theorem q_794 : (Cond.methodLink RX8 186 yX2_isAtEnd) ∈ gW := gW_of (n := 794) (by decide +kernel) rfl
theorem q_795 : (Cond.methodLink RX8 189 yX2_reads) ∈ gW := gW_of (n := 795) (by decide +kernel) rfl
theorem q_796 : (Cond.methodLink RL 113 yX8_back) ∈ gW := gW_of (n := 796) (by decide +kernel) rfl
theorem q_797 : (Cond.instanceMethod yX8_back) ∈ gW := gW_of (n := 797) (by decide +kernel) rfl
theorem q_798 : (Cond.selects RX8 yX8_back yX8_back) ∈ gW := gW_of (n := 798) (by decide +kernel) rfl
theorem q_799 : (Cond.code yX8_back prog_1_method_25_code 1 (Option.some FieldType.int)) ∈ gW := gW_of (n := 799) (by decide +kernel) rfl
theorem q_800 : (Cond.methodLink RX8 195 yX5_givesBack) ∈ gW := gW_of (n := 800) (by decide +kernel) rfl
theorem q_801 : (Cond.instanceMethod yX5_givesBack) ∈ gW := gW_of (n := 801) (by decide +kernel) rfl
theorem q_802 : (Cond.selects RX5 yX5_givesBack yX5_givesBack) ∈ gW := gW_of (n := 802) (by decide +kernel) rfl
theorem q_803 : (Cond.code yX5_givesBack prog_7_method_3_code 2 (Option.none : Option Jvm.ClassFile.FieldType)) ∈ gW := gW_of (n := 803) (by decide +kernel) rfl
theorem q_804 : (Cond.methodLink RL 117 yX8_told) ∈ gW := gW_of (n := 804) (by decide +kernel) rfl
theorem q_805 : (Cond.instanceMethod yX8_told) ∈ gW := gW_of (n := 805) (by decide +kernel) rfl
theorem q_806 : (Cond.selects RX8 yX8_told yX8_told) ∈ gW := gW_of (n := 806) (by decide +kernel) rfl
theorem q_807 : (Cond.code yX8_told prog_1_method_26_code 2 (Option.some FieldType.int)) ∈ gW := gW_of (n := 807) (by decide +kernel) rfl
theorem q_808 : (Cond.methodLink RX8 198 yX8_tally) ∈ gW := gW_of (n := 808) (by decide +kernel) rfl
theorem q_810 : (Cond.instanceMethod yX8_tally) ∈ gW := gW_of (n := 810) (by decide +kernel) rfl
theorem q_811 : (Cond.code yX8_tally prog_1_method_31_code 2 (Option.some FieldType.int)) ∈ gW := gW_of (n := 811) (by decide +kernel) rfl
theorem q_812 : (Cond.methodLink RL 121 yX8_digest) ∈ gW := gW_of (n := 812) (by decide +kernel) rfl
theorem q_813 : (Cond.instanceMethod yX8_digest) ∈ gW := gW_of (n := 813) (by decide +kernel) rfl
theorem q_814 : (Cond.selects RX8 yX8_digest yX8_digest) ∈ gW := gW_of (n := 814) (by decide +kernel) rfl
theorem q_815 : (Cond.code yX8_digest prog_1_method_27_code 4 (Option.some FieldType.long)) ∈ gW := gW_of (n := 815) (by decide +kernel) rfl
theorem q_816 : (Cond.constantLong RX8 201 (2083 : Int64)) ∈ gW := gW_of (n := 816) (by decide +kernel) rfl
theorem q_817 : (Cond.constantLong RX8 203 (31 : Int64)) ∈ gW := gW_of (n := 817) (by decide +kernel) rfl
theorem q_818 : (Cond.methodLink RX8 205 yX6_mixedInto) ∈ gW := gW_of (n := 818) (by decide +kernel) rfl
theorem q_819 : (Cond.instanceMethod yX6_mixedInto) ∈ gW := gW_of (n := 819) (by decide +kernel) rfl
theorem q_820 : (Cond.selects RX6 yX6_mixedInto yX6_mixedInto) ∈ gW := gW_of (n := 820) (by decide +kernel) rfl
theorem q_821 : (Cond.code yX6_mixedInto prog_8_method_12_code 6 (Option.some FieldType.long)) ∈ gW := gW_of (n := 821) (by decide +kernel) rfl
theorem q_822 : (Cond.constantLong RX6 80 (31 : Int64)) ∈ gW := gW_of (n := 822) (by decide +kernel) rfl
theorem q_823 : (Cond.classLink RL 10 "PictureMovesModel") ∈ gW := gW_of (n := 823) (by decide +kernel) rfl
theorem q_824 : (Cond.instantiable RX9 12) ∈ gW := gW_of (n := 824) (by decide +kernel) rfl
theorem q_825 : (Cond.methodLink RL 12 yX9_init) ∈ gW := gW_of (n := 825) (by decide +kernel) rfl
theorem q_826 : (Cond.instanceMethod yX9_init) ∈ gW := gW_of (n := 826) (by decide +kernel) rfl
theorem q_827 : (Cond.code yX9_init prog_11_method_1_code 2 (Option.none : Option Jvm.ClassFile.FieldType)) ∈ gW := gW_of (n := 827) (by decide +kernel) rfl
theorem q_828 : (Cond.methodLink RX9 1 ({ cls := "java/lang/Object", name := "<init>", desc := "()V" } : Jvm.MethodName)) ∈ gW := gW_of (n := 828) (by decide +kernel) rfl
theorem q_829 : (Cond.fieldLink RX9 7 "PictureMovesModel" "now" "[I") ∈ gW := gW_of (n := 829) (by decide +kernel) rfl
theorem q_830 : (Cond.fieldLink RX9 13 "PictureMovesModel" "past" "[I") ∈ gW := gW_of (n := 830) (by decide +kernel) rfl
theorem q_831 : (Cond.fieldLink RX9 53 "PictureMovesModel" "states" "I") ∈ gW := gW_of (n := 831) (by decide +kernel) rfl
theorem q_832 : (Cond.fieldLink RX9 16 "PictureMovesModel" "refused" "[I") ∈ gW := gW_of (n := 832) (by decide +kernel) rfl
theorem q_833 : (Cond.fieldLink RX9 19 "PictureMovesModel" "aside" "[I") ∈ gW := gW_of (n := 833) (by decide +kernel) rfl
theorem q_834 : (Cond.fieldLink RX9 22 "PictureMovesModel" "pile" "[I") ∈ gW := gW_of (n := 834) (by decide +kernel) rfl
theorem q_835 : (Cond.fieldLink RX9 25 "PictureMovesModel" "came" "[Z") ∈ gW := gW_of (n := 835) (by decide +kernel) rfl
theorem q_836 : (Cond.fieldLink RX9 152 "PictureMovesModel" "pileLong" "I") ∈ gW := gW_of (n := 836) (by decide +kernel) rfl
theorem q_837 : (Cond.fieldLink RX9 29 "PictureMovesModel" "text" "[I") ∈ gW := gW_of (n := 837) (by decide +kernel) rfl
theorem q_838 : (Cond.fieldLink RX9 213 "PictureMovesModel" "textLong" "I") ∈ gW := gW_of (n := 838) (by decide +kernel) rfl
theorem q_839 : (Cond.fieldLink RX9 216 "PictureMovesModel" "place" "I") ∈ gW := gW_of (n := 839) (by decide +kernel) rfl
theorem q_840 : (Cond.fieldLink RX9 32 "PictureMovesModel" "args" "[I") ∈ gW := gW_of (n := 840) (by decide +kernel) rfl
theorem q_841 : (Cond.laysFinal "PictureMovesModel" "PictureMovesModel" "now" "[I") ∈ gW := gW_of (n := 841) (by decide +kernel) rfl
theorem q_843 : (Cond.laysFinal "PictureMovesModel" "PictureMovesModel" "past" "[I") ∈ gW := gW_of (n := 843) (by decide +kernel) rfl
theorem q_845 : (Cond.lays "PictureMovesModel" "PictureMovesModel" "states" "I") ∈ gW := gW_of (n := 845) (by decide +kernel) rfl
theorem q_847 : (Cond.laysFinal "PictureMovesModel" "PictureMovesModel" "refused" "[I") ∈ gW := gW_of (n := 847) (by decide +kernel) rfl
theorem q_849 : (Cond.laysFinal "PictureMovesModel" "PictureMovesModel" "aside" "[I") ∈ gW := gW_of (n := 849) (by decide +kernel) rfl
theorem q_851 : (Cond.laysFinal "PictureMovesModel" "PictureMovesModel" "pile" "[I") ∈ gW := gW_of (n := 851) (by decide +kernel) rfl
theorem q_853 : (Cond.laysFinal "PictureMovesModel" "PictureMovesModel" "came" "[Z") ∈ gW := gW_of (n := 853) (by decide +kernel) rfl
theorem q_855 : (Cond.lays "PictureMovesModel" "PictureMovesModel" "pileLong" "I") ∈ gW := gW_of (n := 855) (by decide +kernel) rfl
theorem q_857 : (Cond.laysFinal "PictureMovesModel" "PictureMovesModel" "text" "[I") ∈ gW := gW_of (n := 857) (by decide +kernel) rfl
theorem q_859 : (Cond.lays "PictureMovesModel" "PictureMovesModel" "textLong" "I") ∈ gW := gW_of (n := 859) (by decide +kernel) rfl
theorem q_861 : (Cond.lays "PictureMovesModel" "PictureMovesModel" "place" "I") ∈ gW := gW_of (n := 861) (by decide +kernel) rfl
theorem q_863 : (Cond.laysFinal "PictureMovesModel" "PictureMovesModel" "args" "[I") ∈ gW := gW_of (n := 863) (by decide +kernel) rfl
theorem q_866 : (Cond.arrayClass FieldType.boolean) ∈ gW := gW_of (n := 866) (by decide +kernel) rfl
theorem q_867 : (Cond.methodLink RL 17 yX9_dot) ∈ gW := gW_of (n := 867) (by decide +kernel) rfl
theorem q_868 : (Cond.instanceMethod yX9_dot) ∈ gW := gW_of (n := 868) (by decide +kernel) rfl
theorem q_869 : (Cond.selects RX9 yX9_dot yX9_dot) ∈ gW := gW_of (n := 869) (by decide +kernel) rfl
theorem q_870 : (Cond.code yX9_dot prog_11_method_19_code 6 (Option.some FieldType.int)) ∈ gW := gW_of (n := 870) (by decide +kernel) rfl
theorem q_871 : (Cond.methodLink RX9 79 yX9_isPicture) ∈ gW := gW_of (n := 871) (by decide +kernel) rfl
theorem q_872 : (Cond.static yX9_isPicture) ∈ gW := gW_of (n := 872) (by decide +kernel) rfl
theorem q_873 : (Cond.code yX9_isPicture prog_11_method_7_code 1 (Option.some FieldType.boolean)) ∈ gW := gW_of (n := 873) (by decide +kernel) rfl
theorem q_874 : (Cond.constantLong RX9 35 (2 : Int64)) ∈ gW := gW_of (n := 874) (by decide +kernel) rfl
theorem q_875 : (Cond.methodLink RX9 37 yX9_in) ∈ gW := gW_of (n := 875) (by decide +kernel) rfl
theorem q_876 : (Cond.static yX9_in) ∈ gW := gW_of (n := 876) (by decide +kernel) rfl
theorem q_877 : (Cond.code yX9_in prog_11_method_3_code 6 (Option.some FieldType.boolean)) ∈ gW := gW_of (n := 877) (by decide +kernel) rfl
theorem q_878 : (Cond.methodLink RX9 57 yX9_isIn) ∈ gW := gW_of (n := 878) (by decide +kernel) rfl
theorem q_879 : (Cond.static yX9_isIn) ∈ gW := gW_of (n := 879) (by decide +kernel) rfl
theorem q_880 : (Cond.code yX9_isIn prog_11_method_11_code 2 (Option.some FieldType.boolean)) ∈ gW := gW_of (n := 880) (by decide +kernel) rfl
theorem q_881 : (Cond.constantLong RX9 49 (31 : Int64)) ∈ gW := gW_of (n := 881) (by decide +kernel) rfl
theorem q_882 : (Cond.constantLong RX9 51 (23 : Int64)) ∈ gW := gW_of (n := 882) (by decide +kernel) rfl
theorem q_883 : (Cond.methodLink RX9 83 yX9_bad) ∈ gW := gW_of (n := 883) (by decide +kernel) rfl
theorem q_885 : (Cond.instanceMethod yX9_bad) ∈ gW := gW_of (n := 885) (by decide +kernel) rfl
theorem q_886 : (Cond.code yX9_bad prog_11_method_4_code 2 (Option.some FieldType.int)) ∈ gW := gW_of (n := 886) (by decide +kernel) rfl
theorem q_887 : (Cond.methodLink RX9 87 yX9_keep) ∈ gW := gW_of (n := 887) (by decide +kernel) rfl
theorem q_889 : (Cond.instanceMethod yX9_keep) ∈ gW := gW_of (n := 889) (by decide +kernel) rfl
theorem q_890 : (Cond.code yX9_keep prog_11_method_12_code 2 (Option.none : Option Jvm.ClassFile.FieldType)) ∈ gW := gW_of (n := 890) (by decide +kernel) rfl
theorem q_891 : (Cond.methodLink RX9 75 yX9_sets) ∈ gW := gW_of (n := 891) (by decide +kernel) rfl
theorem q_893 : (Cond.instanceMethod yX9_sets) ∈ gW := gW_of (n := 893) (by decide +kernel) rfl
theorem q_894 : (Cond.code yX9_sets prog_11_method_15_code 6 (Option.some FieldType.int)) ∈ gW := gW_of (n := 894) (by decide +kernel) rfl
theorem q_895 : (Cond.methodLink RX9 65 yX9_dotOf) ∈ gW := gW_of (n := 895) (by decide +kernel) rfl
theorem q_897 : (Cond.instanceMethod yX9_dotOf) ∈ gW := gW_of (n := 897) (by decide +kernel) rfl
theorem q_898 : (Cond.code yX9_dotOf prog_11_method_14_code 4 (Option.some FieldType.int)) ∈ gW := gW_of (n := 898) (by decide +kernel) rfl
theorem q_899 : (Cond.methodLink RX9 61 yX9_bitOf) ∈ gW := gW_of (n := 899) (by decide +kernel) rfl
theorem q_900 : (Cond.static yX9_bitOf) ∈ gW := gW_of (n := 900) (by decide +kernel) rfl
theorem q_901 : (Cond.code yX9_bitOf prog_11_method_13_code 2 (Option.some FieldType.int)) ∈ gW := gW_of (n := 901) (by decide +kernel) rfl
theorem q_902 : (Cond.methodLink RL 22 yX9_pattern) ∈ gW := gW_of (n := 902) (by decide +kernel) rfl
theorem q_903 : (Cond.instanceMethod yX9_pattern) ∈ gW := gW_of (n := 903) (by decide +kernel) rfl
theorem q_904 : (Cond.selects RX9 yX9_pattern yX9_pattern) ∈ gW := gW_of (n := 904) (by decide +kernel) rfl
theorem q_905 : (Cond.code yX9_pattern prog_11_method_20_code 4 (Option.some FieldType.int)) ∈ gW := gW_of (n := 905) (by decide +kernel) rfl
theorem q_906 : (Cond.constantLong RX9 90 (7 : Int64)) ∈ gW := gW_of (n := 906) (by decide +kernel) rfl
theorem q_907 : (Cond.constantLong RX9 47 (255 : Int64)) ∈ gW := gW_of (n := 907) (by decide +kernel) rfl
theorem q_908 : (Cond.methodLink RL 26 yX9_draw) ∈ gW := gW_of (n := 908) (by decide +kernel) rfl
theorem q_909 : (Cond.instanceMethod yX9_draw) ∈ gW := gW_of (n := 909) (by decide +kernel) rfl
theorem q_910 : (Cond.selects RX9 yX9_draw yX9_draw) ∈ gW := gW_of (n := 910) (by decide +kernel) rfl
theorem q_911 : (Cond.code yX9_draw prog_11_method_22_code 9 (Option.some FieldType.int)) ∈ gW := gW_of (n := 911) (by decide +kernel) rfl
theorem q_912 : (Cond.constantLong RX9 92 (999999 : Int64)) ∈ gW := gW_of (n := 912) (by decide +kernel) rfl
theorem q_913 : (Cond.constantLong RX9 94 (1103515245 : Int64)) ∈ gW := gW_of (n := 913) (by decide +kernel) rfl
theorem q_914 : (Cond.constantLong RX9 96 (12345 : Int64)) ∈ gW := gW_of (n := 914) (by decide +kernel) rfl
theorem q_915 : (Cond.constantLong RX9 98 (2147483648 : Int64)) ∈ gW := gW_of (n := 915) (by decide +kernel) rfl
theorem q_916 : (Cond.constantLong RX9 100 (65536 : Int64)) ∈ gW := gW_of (n := 916) (by decide +kernel) rfl
theorem q_917 : (Cond.constantLong RX9 102 (32768 : Int64)) ∈ gW := gW_of (n := 917) (by decide +kernel) rfl
theorem q_918 : (Cond.methodLink RX9 104 yX9_dots) ∈ gW := gW_of (n := 918) (by decide +kernel) rfl
theorem q_920 : (Cond.instanceMethod yX9_dots) ∈ gW := gW_of (n := 920) (by decide +kernel) rfl
theorem q_921 : (Cond.code yX9_dots prog_11_method_21_code 5 (Option.some FieldType.int)) ∈ gW := gW_of (n := 921) (by decide +kernel) rfl
theorem q_922 : (Cond.methodLink RL 30 yX9_opening) ∈ gW := gW_of (n := 922) (by decide +kernel) rfl
theorem q_923 : (Cond.instanceMethod yX9_opening) ∈ gW := gW_of (n := 923) (by decide +kernel) rfl
theorem q_924 : (Cond.selects RX9 yX9_opening yX9_opening) ∈ gW := gW_of (n := 924) (by decide +kernel) rfl
theorem q_925 : (Cond.code yX9_opening prog_11_method_24_code 5 (Option.some FieldType.int)) ∈ gW := gW_of (n := 925) (by decide +kernel) rfl
theorem q_926 : (Cond.methodLink RX9 107 yX9_isPlace) ∈ gW := gW_of (n := 926) (by decide +kernel) rfl
theorem q_927 : (Cond.static yX9_isPlace) ∈ gW := gW_of (n := 927) (by decide +kernel) rfl
theorem q_928 : (Cond.code yX9_isPlace prog_11_method_8_code 2 (Option.some FieldType.boolean)) ∈ gW := gW_of (n := 928) (by decide +kernel) rfl
theorem q_929 : (Cond.constantLong RX9 41 (-64 : Int64)) ∈ gW := gW_of (n := 929) (by decide +kernel) rfl
theorem q_930 : (Cond.constantLong RX9 43 (63 : Int64)) ∈ gW := gW_of (n := 930) (by decide +kernel) rfl
theorem q_931 : (Cond.methodLink RX9 110 yX9_isSize) ∈ gW := gW_of (n := 931) (by decide +kernel) rfl
theorem q_932 : (Cond.static yX9_isSize) ∈ gW := gW_of (n := 932) (by decide +kernel) rfl
theorem q_933 : (Cond.code yX9_isSize prog_11_method_9_code 2 (Option.some FieldType.boolean)) ∈ gW := gW_of (n := 933) (by decide +kernel) rfl
theorem q_934 : (Cond.constantLong RX9 45 (64 : Int64)) ∈ gW := gW_of (n := 934) (by decide +kernel) rfl
theorem q_935 : (Cond.methodLink RX9 113 yX9_full) ∈ gW := gW_of (n := 935) (by decide +kernel) rfl
theorem q_937 : (Cond.instanceMethod yX9_full) ∈ gW := gW_of (n := 937) (by decide +kernel) rfl
theorem q_938 : (Cond.code yX9_full prog_11_method_6_code 1 (Option.some FieldType.int)) ∈ gW := gW_of (n := 938) (by decide +kernel) rfl
theorem q_939 : (Cond.methodLink RX9 117 yX9_opens) ∈ gW := gW_of (n := 939) (by decide +kernel) rfl
theorem q_941 : (Cond.instanceMethod yX9_opens) ∈ gW := gW_of (n := 941) (by decide +kernel) rfl
theorem q_942 : (Cond.code yX9_opens prog_11_method_23_code 6 (Option.none : Option Jvm.ClassFile.FieldType)) ∈ gW := gW_of (n := 942) (by decide +kernel) rfl
theorem q_943 : (Cond.methodLink RL 35 yX9_closes) ∈ gW := gW_of (n := 943) (by decide +kernel) rfl
theorem q_944 : (Cond.instanceMethod yX9_closes) ∈ gW := gW_of (n := 944) (by decide +kernel) rfl
theorem q_945 : (Cond.selects RX9 yX9_closes yX9_closes) ∈ gW := gW_of (n := 945) (by decide +kernel) rfl
theorem q_946 : (Cond.code yX9_closes prog_11_method_26_code 1 (Option.some FieldType.int)) ∈ gW := gW_of (n := 946) (by decide +kernel) rfl
theorem q_947 : (Cond.methodLink RX9 121 yX9_shuts) ∈ gW := gW_of (n := 947) (by decide +kernel) rfl
theorem q_949 : (Cond.instanceMethod yX9_shuts) ∈ gW := gW_of (n := 949) (by decide +kernel) rfl
theorem q_950 : (Cond.code yX9_shuts prog_11_method_25_code 3 (Option.some FieldType.int)) ∈ gW := gW_of (n := 950) (by decide +kernel) rfl
theorem q_951 : (Cond.methodLink RL 40 yX9_move) ∈ gW := gW_of (n := 951) (by decide +kernel) rfl
theorem q_952 : (Cond.instanceMethod yX9_move) ∈ gW := gW_of (n := 952) (by decide +kernel) rfl
theorem q_953 : (Cond.selects RX9 yX9_move yX9_move) ∈ gW := gW_of (n := 953) (by decide +kernel) rfl
theorem q_954 : (Cond.code yX9_move prog_11_method_30_code 10 (Option.some FieldType.int)) ∈ gW := gW_of (n := 954) (by decide +kernel) rfl
theorem q_955 : (Cond.methodLink RX9 135 yX9_isJoin) ∈ gW := gW_of (n := 955) (by decide +kernel) rfl
theorem q_956 : (Cond.static yX9_isJoin) ∈ gW := gW_of (n := 956) (by decide +kernel) rfl
theorem q_957 : (Cond.code yX9_isJoin prog_11_method_10_code 1 (Option.some FieldType.boolean)) ∈ gW := gW_of (n := 957) (by decide +kernel) rfl
theorem q_958 : (Cond.methodLink RX9 138 yX9_moves) ∈ gW := gW_of (n := 958) (by decide +kernel) rfl
theorem q_960 : (Cond.instanceMethod yX9_moves) ∈ gW := gW_of (n := 960) (by decide +kernel) rfl
theorem q_961 : (Cond.code yX9_moves prog_11_method_29_code 13 (Option.some FieldType.int)) ∈ gW := gW_of (n := 961) (by decide +kernel) rfl
theorem q_962 : (Cond.methodLink RX9 124 yX9_copies) ∈ gW := gW_of (n := 962) (by decide +kernel) rfl
theorem q_964 : (Cond.instanceMethod yX9_copies) ∈ gW := gW_of (n := 964) (by decide +kernel) rfl
theorem q_965 : (Cond.code yX9_copies prog_11_method_27_code 3 (Option.none : Option Jvm.ClassFile.FieldType)) ∈ gW := gW_of (n := 965) (by decide +kernel) rfl
theorem q_966 : (Cond.methodLink RX9 128 yX9_asideAt) ∈ gW := gW_of (n := 966) (by decide +kernel) rfl
theorem q_968 : (Cond.instanceMethod yX9_asideAt) ∈ gW := gW_of (n := 968) (by decide +kernel) rfl
theorem q_969 : (Cond.code yX9_asideAt prog_11_method_28_code 4 (Option.some FieldType.int)) ∈ gW := gW_of (n := 969) (by decide +kernel) rfl
theorem q_970 : (Cond.methodLink RX9 131 yX9_joinsAt) ∈ gW := gW_of (n := 970) (by decide +kernel) rfl
theorem q_972 : (Cond.instanceMethod yX9_joinsAt) ∈ gW := gW_of (n := 972) (by decide +kernel) rfl
theorem q_973 : (Cond.code yX9_joinsAt prog_11_method_18_code 7 (Option.some FieldType.int)) ∈ gW := gW_of (n := 973) (by decide +kernel) rfl
theorem q_974 : (Cond.methodLink RX9 69 yX9_isOpen) ∈ gW := gW_of (n := 974) (by decide +kernel) rfl
theorem q_976 : (Cond.instanceMethod yX9_isOpen) ∈ gW := gW_of (n := 976) (by decide +kernel) rfl
theorem q_977 : (Cond.code yX9_isOpen prog_11_method_17_code 6 (Option.some FieldType.boolean)) ∈ gW := gW_of (n := 977) (by decide +kernel) rfl
theorem q_978 : (Cond.methodLink RX9 72 yX9_patternAt) ∈ gW := gW_of (n := 978) (by decide +kernel) rfl
theorem q_980 : (Cond.instanceMethod yX9_patternAt) ∈ gW := gW_of (n := 980) (by decide +kernel) rfl
theorem q_981 : (Cond.code yX9_patternAt prog_11_method_16_code 3 (Option.some FieldType.int)) ∈ gW := gW_of (n := 981) (by decide +kernel) rfl
theorem q_982 : (Cond.methodLink RL 45 yX9_line) ∈ gW := gW_of (n := 982) (by decide +kernel) rfl
theorem q_983 : (Cond.instanceMethod yX9_line) ∈ gW := gW_of (n := 983) (by decide +kernel) rfl
theorem q_984 : (Cond.selects RX9 yX9_line yX9_line) ∈ gW := gW_of (n := 984) (by decide +kernel) rfl
theorem q_985 : (Cond.code yX9_line prog_11_method_34_code 7 (Option.some FieldType.int)) ∈ gW := gW_of (n := 985) (by decide +kernel) rfl
theorem q_986 : (Cond.methodLink RX9 148 yX9_lines) ∈ gW := gW_of (n := 986) (by decide +kernel) rfl
theorem q_988 : (Cond.instanceMethod yX9_lines) ∈ gW := gW_of (n := 988) (by decide +kernel) rfl
theorem q_989 : (Cond.code yX9_lines prog_11_method_33_code 15 (Option.some FieldType.int)) ∈ gW := gW_of (n := 989) (by decide +kernel) rfl
theorem q_990 : (Cond.methodLink RX9 142 yX9_size) ∈ gW := gW_of (n := 990) (by decide +kernel) rfl
theorem q_991 : (Cond.static yX9_size) ∈ gW := gW_of (n := 991) (by decide +kernel) rfl
theorem q_992 : (Cond.code yX9_size prog_11_method_31_code 1 (Option.some FieldType.int)) ∈ gW := gW_of (n := 992) (by decide +kernel) rfl
theorem q_993 : (Cond.methodLink RX9 145 yX9_by) ∈ gW := gW_of (n := 993) (by decide +kernel) rfl
theorem q_994 : (Cond.static yX9_by) ∈ gW := gW_of (n := 994) (by decide +kernel) rfl
theorem q_995 : (Cond.code yX9_by prog_11_method_32_code 3 (Option.some FieldType.int)) ∈ gW := gW_of (n := 995) (by decide +kernel) rfl
theorem q_996 : (Cond.methodLink RL 50 yX9_flood) ∈ gW := gW_of (n := 996) (by decide +kernel) rfl
theorem q_997 : (Cond.instanceMethod yX9_flood) ∈ gW := gW_of (n := 997) (by decide +kernel) rfl
theorem q_998 : (Cond.selects RX9 yX9_flood yX9_flood) ∈ gW := gW_of (n := 998) (by decide +kernel) rfl
theorem q_999 : (Cond.code yX9_flood prog_11_method_40_code 4 (Option.some FieldType.int)) ∈ gW := gW_of (n := 999) (by decide +kernel) rfl
theorem q_1000 : (Cond.methodLink RX9 166 yX9_mayFlood) ∈ gW := gW_of (n := 1000) (by decide +kernel) rfl
theorem q_1002 : (Cond.instanceMethod yX9_mayFlood) ∈ gW := gW_of (n := 1002) (by decide +kernel) rfl
theorem q_1003 : (Cond.code yX9_mayFlood prog_11_method_38_code 3 (Option.some FieldType.boolean)) ∈ gW := gW_of (n := 1003) (by decide +kernel) rfl
theorem q_1004 : (Cond.methodLink RX9 169 yX9_no) ∈ gW := gW_of (n := 1004) (by decide +kernel) rfl
theorem q_1006 : (Cond.instanceMethod yX9_no) ∈ gW := gW_of (n := 1006) (by decide +kernel) rfl
theorem q_1007 : (Cond.code yX9_no prog_11_method_5_code 1 (Option.some FieldType.int)) ∈ gW := gW_of (n := 1007) (by decide +kernel) rfl
theorem q_1008 : (Cond.methodLink RX9 172 yX9_floods) ∈ gW := gW_of (n := 1008) (by decide +kernel) rfl
theorem q_1010 : (Cond.instanceMethod yX9_floods) ∈ gW := gW_of (n := 1010) (by decide +kernel) rfl
theorem q_1011 : (Cond.code yX9_floods prog_11_method_39_code 8 (Option.some FieldType.int)) ∈ gW := gW_of (n := 1011) (by decide +kernel) rfl
theorem q_1012 : (Cond.methodLink RX9 159 yX9_noneCame) ∈ gW := gW_of (n := 1012) (by decide +kernel) rfl
theorem q_1014 : (Cond.instanceMethod yX9_noneCame) ∈ gW := gW_of (n := 1014) (by decide +kernel) rfl
theorem q_1015 : (Cond.code yX9_noneCame prog_11_method_37_code 2 (Option.none : Option Jvm.ClassFile.FieldType)) ∈ gW := gW_of (n := 1015) (by decide +kernel) rfl
theorem q_1016 : (Cond.methodLink RX9 162 yX9_spreads) ∈ gW := gW_of (n := 1016) (by decide +kernel) rfl
theorem q_1018 : (Cond.instanceMethod yX9_spreads) ∈ gW := gW_of (n := 1018) (by decide +kernel) rfl
theorem q_1019 : (Cond.code yX9_spreads prog_11_method_36_code 13 (Option.some FieldType.int)) ∈ gW := gW_of (n := 1019) (by decide +kernel) rfl
theorem q_1020 : (Cond.methodLink RX9 155 yX9_comes) ∈ gW := gW_of (n := 1020) (by decide +kernel) rfl
theorem q_1022 : (Cond.instanceMethod yX9_comes) ∈ gW := gW_of (n := 1022) (by decide +kernel) rfl
theorem q_1023 : (Cond.code yX9_comes prog_11_method_35_code 3 (Option.none : Option Jvm.ClassFile.FieldType)) ∈ gW := gW_of (n := 1023) (by decide +kernel) rfl
theorem q_1024 : (Cond.methodLink RL 54 yX9_rectangle) ∈ gW := gW_of (n := 1024) (by decide +kernel) rfl
theorem q_1025 : (Cond.instanceMethod yX9_rectangle) ∈ gW := gW_of (n := 1025) (by decide +kernel) rfl
theorem q_1026 : (Cond.selects RX9 yX9_rectangle yX9_rectangle) ∈ gW := gW_of (n := 1026) (by decide +kernel) rfl
theorem q_1027 : (Cond.code yX9_rectangle prog_11_method_42_code 7 (Option.some FieldType.int)) ∈ gW := gW_of (n := 1027) (by decide +kernel) rfl
theorem q_1028 : (Cond.methodLink RX9 175 yX9_rectangles) ∈ gW := gW_of (n := 1028) (by decide +kernel) rfl
theorem q_1030 : (Cond.instanceMethod yX9_rectangles) ∈ gW := gW_of (n := 1030) (by decide +kernel) rfl
theorem q_1031 : (Cond.code yX9_rectangles prog_11_method_41_code 10 (Option.some FieldType.int)) ∈ gW := gW_of (n := 1031) (by decide +kernel) rfl
theorem q_1032 : (Cond.methodLink RL 59 yX9_letter) ∈ gW := gW_of (n := 1032) (by decide +kernel) rfl
theorem q_1033 : (Cond.instanceMethod yX9_letter) ∈ gW := gW_of (n := 1033) (by decide +kernel) rfl
theorem q_1034 : (Cond.selects RX9 yX9_letter yX9_letter) ∈ gW := gW_of (n := 1034) (by decide +kernel) rfl
theorem q_1035 : (Cond.code yX9_letter prog_11_method_44_code 6 (Option.some FieldType.int)) ∈ gW := gW_of (n := 1035) (by decide +kernel) rfl
theorem q_1036 : (Cond.constantLong RX9 178 (15 : Int64)) ∈ gW := gW_of (n := 1036) (by decide +kernel) rfl
theorem q_1037 : (Cond.methodLink RX9 180 yX9_letters) ∈ gW := gW_of (n := 1037) (by decide +kernel) rfl
theorem q_1039 : (Cond.instanceMethod yX9_letters) ∈ gW := gW_of (n := 1039) (by decide +kernel) rfl
theorem q_1040 : (Cond.code yX9_letters prog_11_method_43_code 10 (Option.some FieldType.int)) ∈ gW := gW_of (n := 1040) (by decide +kernel) rfl
theorem q_1041 : (Cond.methodLink RL 63 yX9_joins) ∈ gW := gW_of (n := 1041) (by decide +kernel) rfl
theorem q_1042 : (Cond.instanceMethod yX9_joins) ∈ gW := gW_of (n := 1042) (by decide +kernel) rfl
theorem q_1043 : (Cond.selects RX9 yX9_joins yX9_joins) ∈ gW := gW_of (n := 1043) (by decide +kernel) rfl
theorem q_1044 : (Cond.code yX9_joins prog_11_method_45_code 4 (Option.some FieldType.int)) ∈ gW := gW_of (n := 1044) (by decide +kernel) rfl
theorem q_1045 : (Cond.methodLink RL 67 yX9_changes) ∈ gW := gW_of (n := 1045) (by decide +kernel) rfl
theorem q_1046 : (Cond.instanceMethod yX9_changes) ∈ gW := gW_of (n := 1046) (by decide +kernel) rfl
theorem q_1047 : (Cond.selects RX9 yX9_changes yX9_changes) ∈ gW := gW_of (n := 1047) (by decide +kernel) rfl
theorem q_1048 : (Cond.code yX9_changes prog_11_method_48_code 6 (Option.some FieldType.int)) ∈ gW := gW_of (n := 1048) (by decide +kernel) rfl
theorem q_1049 : (Cond.constantLong RX9 186 (4 : Int64)) ∈ gW := gW_of (n := 1049) (by decide +kernel) rfl
theorem q_1050 : (Cond.methodLink RX9 188 yX9_changed) ∈ gW := gW_of (n := 1050) (by decide +kernel) rfl
theorem q_1052 : (Cond.instanceMethod yX9_changed) ∈ gW := gW_of (n := 1052) (by decide +kernel) rfl
theorem q_1053 : (Cond.code yX9_changed prog_11_method_47_code 7 (Option.some FieldType.int)) ∈ gW := gW_of (n := 1053) (by decide +kernel) rfl
theorem q_1054 : (Cond.methodLink RX9 183 yX9_sides) ∈ gW := gW_of (n := 1054) (by decide +kernel) rfl
theorem q_1056 : (Cond.instanceMethod yX9_sides) ∈ gW := gW_of (n := 1056) (by decide +kernel) rfl
theorem q_1057 : (Cond.code yX9_sides prog_11_method_46_code 4 (Option.some FieldType.int)) ∈ gW := gW_of (n := 1057) (by decide +kernel) rfl
theorem q_1058 : (Cond.methodLink RL 71 yX9_rolls) ∈ gW := gW_of (n := 1058) (by decide +kernel) rfl
theorem q_1059 : (Cond.instanceMethod yX9_rolls) ∈ gW := gW_of (n := 1059) (by decide +kernel) rfl
theorem q_1060 : (Cond.selects RX9 yX9_rolls yX9_rolls) ∈ gW := gW_of (n := 1060) (by decide +kernel) rfl
theorem q_1061 : (Cond.code yX9_rolls prog_11_method_49_code 7 (Option.some FieldType.int)) ∈ gW := gW_of (n := 1061) (by decide +kernel) rfl
theorem q_1062 : (Cond.constantLong RX9 191 (-31 : Int64)) ∈ gW := gW_of (n := 1062) (by decide +kernel) rfl
theorem q_1063 : (Cond.methodLink RL 75 yX9_at) ∈ gW := gW_of (n := 1063) (by decide +kernel) rfl
theorem q_1064 : (Cond.instanceMethod yX9_at) ∈ gW := gW_of (n := 1064) (by decide +kernel) rfl
theorem q_1065 : (Cond.selects RX9 yX9_at yX9_at) ∈ gW := gW_of (n := 1065) (by decide +kernel) rfl
theorem q_1066 : (Cond.code yX9_at prog_11_method_50_code 4 (Option.some FieldType.int)) ∈ gW := gW_of (n := 1066) (by decide +kernel) rfl
theorem q_1067 : (Cond.methodLink RL 79 yX9_row) ∈ gW := gW_of (n := 1067) (by decide +kernel) rfl
theorem q_1068 : (Cond.instanceMethod yX9_row) ∈ gW := gW_of (n := 1068) (by decide +kernel) rfl
theorem q_1069 : (Cond.selects RX9 yX9_row yX9_row) ∈ gW := gW_of (n := 1069) (by decide +kernel) rfl
theorem q_1070 : (Cond.code yX9_row prog_11_method_51_code 3 (Option.some FieldType.int)) ∈ gW := gW_of (n := 1070) (by decide +kernel) rfl
theorem q_1071 : (Cond.methodLink RL 83 yX9_of) ∈ gW := gW_of (n := 1071) (by decide +kernel) rfl
theorem q_1072 : (Cond.instanceMethod yX9_of) ∈ gW := gW_of (n := 1072) (by decide +kernel) rfl
theorem q_1073 : (Cond.selects RX9 yX9_of yX9_of) ∈ gW := gW_of (n := 1073) (by decide +kernel) rfl
theorem q_1074 : (Cond.code yX9_of prog_11_method_55_code 3 (Option.some FieldType.int)) ∈ gW := gW_of (n := 1074) (by decide +kernel) rfl
theorem q_1075 : (Cond.constantLong RX9 193 (6 : Int64)) ∈ gW := gW_of (n := 1075) (by decide +kernel) rfl
theorem q_1076 : (Cond.methodLink RX9 195 yX9_partsOf) ∈ gW := gW_of (n := 1076) (by decide +kernel) rfl
theorem q_1078 : (Cond.instanceMethod yX9_partsOf) ∈ gW := gW_of (n := 1078) (by decide +kernel) rfl
theorem q_1079 : (Cond.code yX9_partsOf prog_11_method_52_code 5 (Option.some FieldType.int)) ∈ gW := gW_of (n := 1079) (by decide +kernel) rfl
theorem q_1080 : (Cond.methodLink RX9 198 yX9_openDots) ∈ gW := gW_of (n := 1080) (by decide +kernel) rfl
theorem q_1082 : (Cond.instanceMethod yX9_openDots) ∈ gW := gW_of (n := 1082) (by decide +kernel) rfl
theorem q_1083 : (Cond.code yX9_openDots prog_11_method_54_code 3 (Option.some FieldType.int)) ∈ gW := gW_of (n := 1083) (by decide +kernel) rfl
theorem q_1084 : (Cond.methodLink RX9 201 yX9_edge) ∈ gW := gW_of (n := 1084) (by decide +kernel) rfl
theorem q_1086 : (Cond.instanceMethod yX9_edge) ∈ gW := gW_of (n := 1086) (by decide +kernel) rfl
theorem q_1087 : (Cond.code yX9_edge prog_11_method_53_code 8 (Option.some FieldType.int)) ∈ gW := gW_of (n := 1087) (by decide +kernel) rfl
theorem q_1088 : (Cond.methodLink RL 87 yX9_count) ∈ gW := gW_of (n := 1088) (by decide +kernel) rfl
theorem q_1089 : (Cond.instanceMethod yX9_count) ∈ gW := gW_of (n := 1089) (by decide +kernel) rfl
theorem q_1090 : (Cond.selects RX9 yX9_count yX9_count) ∈ gW := gW_of (n := 1090) (by decide +kernel) rfl
theorem q_1091 : (Cond.code yX9_count prog_11_method_56_code 9 (Option.some FieldType.int)) ∈ gW := gW_of (n := 1091) (by decide +kernel) rfl
theorem q_1092 : (Cond.methodLink RL 91 yX9_unlike) ∈ gW := gW_of (n := 1092) (by decide +kernel) rfl
theorem q_1093 : (Cond.instanceMethod yX9_unlike) ∈ gW := gW_of (n := 1093) (by decide +kernel) rfl
theorem q_1094 : (Cond.selects RX9 yX9_unlike yX9_unlike) ∈ gW := gW_of (n := 1094) (by decide +kernel) rfl
theorem q_1095 : (Cond.code yX9_unlike prog_11_method_57_code 5 (Option.some FieldType.int)) ∈ gW := gW_of (n := 1095) (by decide +kernel) rfl
theorem q_1096 : (Cond.methodLink RL 95 yX9_finds) ∈ gW := gW_of (n := 1096) (by decide +kernel) rfl
theorem q_1097 : (Cond.instanceMethod yX9_finds) ∈ gW := gW_of (n := 1097) (by decide +kernel) rfl
theorem q_1098 : (Cond.selects RX9 yX9_finds yX9_finds) ∈ gW := gW_of (n := 1098) (by decide +kernel) rfl
theorem q_1099 : (Cond.code yX9_finds prog_11_method_59_code 10 (Option.some FieldType.int)) ∈ gW := gW_of (n := 1099) (by decide +kernel) rfl
theorem q_1100 : (Cond.constantLong RX9 205 (8 : Int64)) ∈ gW := gW_of (n := 1100) (by decide +kernel) rfl
theorem q_1101 : (Cond.methodLink RX9 207 yX9_isLike) ∈ gW := gW_of (n := 1101) (by decide +kernel) rfl
theorem q_1103 : (Cond.instanceMethod yX9_isLike) ∈ gW := gW_of (n := 1103) (by decide +kernel) rfl
theorem q_1104 : (Cond.code yX9_isLike prog_11_method_58_code 12 (Option.some FieldType.boolean)) ∈ gW := gW_of (n := 1104) (by decide +kernel) rfl
theorem q_1105 : (Cond.methodLink RL 99 yX9_open) ∈ gW := gW_of (n := 1105) (by decide +kernel) rfl
theorem q_1106 : (Cond.instanceMethod yX9_open) ∈ gW := gW_of (n := 1106) (by decide +kernel) rfl
theorem q_1107 : (Cond.selects RX9 yX9_open yX9_open) ∈ gW := gW_of (n := 1107) (by decide +kernel) rfl
theorem q_1108 : (Cond.code yX9_open prog_11_method_60_code 3 (Option.some FieldType.int)) ∈ gW := gW_of (n := 1108) (by decide +kernel) rfl
theorem q_1109 : (Cond.methodLink RL 104 yX9_type) ∈ gW := gW_of (n := 1109) (by decide +kernel) rfl
theorem q_1110 : (Cond.instanceMethod yX9_type) ∈ gW := gW_of (n := 1110) (by decide +kernel) rfl
theorem q_1111 : (Cond.selects RX9 yX9_type yX9_type) ∈ gW := gW_of (n := 1111) (by decide +kernel) rfl
theorem q_1112 : (Cond.code yX9_type prog_11_method_61_code 2 (Option.some FieldType.int)) ∈ gW := gW_of (n := 1112) (by decide +kernel) rfl
theorem q_1113 : (Cond.constantLong RX9 211 (127 : Int64)) ∈ gW := gW_of (n := 1113) (by decide +kernel) rfl
theorem q_1114 : (Cond.methodLink RL 108 yX9_clear) ∈ gW := gW_of (n := 1114) (by decide +kernel) rfl
theorem q_1115 : (Cond.instanceMethod yX9_clear) ∈ gW := gW_of (n := 1115) (by decide +kernel) rfl
theorem q_1116 : (Cond.selects RX9 yX9_clear yX9_clear) ∈ gW := gW_of (n := 1116) (by decide +kernel) rfl
theorem q_1117 : (Cond.code yX9_clear prog_11_method_62_code 2 (Option.some FieldType.int)) ∈ gW := gW_of (n := 1117) (by decide +kernel) rfl
theorem q_1118 : (Cond.methodLink RL 112 yX9_does) ∈ gW := gW_of (n := 1118) (by decide +kernel) rfl
theorem q_1119 : (Cond.instanceMethod yX9_does) ∈ gW := gW_of (n := 1119) (by decide +kernel) rfl
theorem q_1120 : (Cond.selects RX9 yX9_does yX9_does) ∈ gW := gW_of (n := 1120) (by decide +kernel) rfl
theorem q_1121 : (Cond.code yX9_does prog_11_method_72_code 1 (Option.some FieldType.int)) ∈ gW := gW_of (n := 1121) (by decide +kernel) rfl
theorem q_1122 : (Cond.methodLink RX9 249 yX9_goesThrough) ∈ gW := gW_of (n := 1122) (by decide +kernel) rfl
theorem q_1124 : (Cond.instanceMethod yX9_goesThrough) ∈ gW := gW_of (n := 1124) (by decide +kernel) rfl
theorem q_1125 : (Cond.code yX9_goesThrough prog_11_method_71_code 6 (Option.some FieldType.int)) ∈ gW := gW_of (n := 1125) (by decide +kernel) rfl
theorem q_1126 : (Cond.methodLink RX9 243 yX9_reads) ∈ gW := gW_of (n := 1126) (by decide +kernel) rfl
theorem q_1128 : (Cond.instanceMethod yX9_reads) ∈ gW := gW_of (n := 1128) (by decide +kernel) rfl
theorem q_1129 : (Cond.code yX9_reads prog_11_method_69_code 7 (Option.some FieldType.int)) ∈ gW := gW_of (n := 1129) (by decide +kernel) rfl
theorem q_1130 : (Cond.methodLink RX9 222 yX9_skip) ∈ gW := gW_of (n := 1130) (by decide +kernel) rfl
theorem q_1132 : (Cond.instanceMethod yX9_skip) ∈ gW := gW_of (n := 1132) (by decide +kernel) rfl
theorem q_1133 : (Cond.code yX9_skip prog_11_method_63_code 1 (Option.none : Option Jvm.ClassFile.FieldType)) ∈ gW := gW_of (n := 1133) (by decide +kernel) rfl
theorem q_1134 : (Cond.methodLink RX9 234 yX9_manyOf) ∈ gW := gW_of (n := 1134) (by decide +kernel) rfl
theorem q_1135 : (Cond.static yX9_manyOf) ∈ gW := gW_of (n := 1135) (by decide +kernel) rfl
theorem q_1136 : (Cond.code yX9_manyOf prog_11_method_66_code 1 (Option.some FieldType.int)) ∈ gW := gW_of (n := 1136) (by decide +kernel) rfl
theorem q_1137 : (Cond.methodLink RX9 237 yX9_sortsOf) ∈ gW := gW_of (n := 1137) (by decide +kernel) rfl
theorem q_1138 : (Cond.static yX9_sortsOf) ∈ gW := gW_of (n := 1138) (by decide +kernel) rfl
theorem q_1139 : (Cond.code yX9_sortsOf prog_11_method_65_code 1 (Option.some FieldType.int)) ∈ gW := gW_of (n := 1139) (by decide +kernel) rfl
theorem q_1140 : (Cond.constant RX9 219 (311022110 : Int32)) ∈ gW := gW_of (n := 1140) (by decide +kernel) rfl
theorem q_1141 : (Cond.constant RX9 220 (311110 : Int32)) ∈ gW := gW_of (n := 1141) (by decide +kernel) rfl
theorem q_1142 : (Cond.constant RX9 221 (322110 : Int32)) ∈ gW := gW_of (n := 1142) (by decide +kernel) rfl
theorem q_1143 : (Cond.methodLink RX9 240 yX9_takes) ∈ gW := gW_of (n := 1143) (by decide +kernel) rfl
theorem q_1145 : (Cond.instanceMethod yX9_takes) ∈ gW := gW_of (n := 1145) (by decide +kernel) rfl
theorem q_1146 : (Cond.code yX9_takes prog_11_method_68_code 11 (Option.some FieldType.boolean)) ∈ gW := gW_of (n := 1146) (by decide +kernel) rfl
theorem q_1147 : (Cond.methodLink RX9 225 yX9_isByte) ∈ gW := gW_of (n := 1147) (by decide +kernel) rfl
theorem q_1149 : (Cond.instanceMethod yX9_isByte) ∈ gW := gW_of (n := 1149) (by decide +kernel) rfl
theorem q_1150 : (Cond.code yX9_isByte prog_11_method_64_code 4 (Option.some FieldType.boolean)) ∈ gW := gW_of (n := 1150) (by decide +kernel) rfl
theorem q_1151 : (Cond.constantLong RX9 229 (3 : Int64)) ∈ gW := gW_of (n := 1151) (by decide +kernel) rfl
theorem q_1152 : (Cond.methodLink RX9 231 yX9_isAs) ∈ gW := gW_of (n := 1152) (by decide +kernel) rfl
theorem q_1153 : (Cond.static yX9_isAs) ∈ gW := gW_of (n := 1153) (by decide +kernel) rfl
theorem q_1154 : (Cond.code yX9_isAs prog_11_method_67_code 2 (Option.some FieldType.boolean)) ∈ gW := gW_of (n := 1154) (by decide +kernel) rfl
theorem q_1155 : (Cond.methodLink RX9 246 yX9_doesOne) ∈ gW := gW_of (n := 1155) (by decide +kernel) rfl
theorem q_1157 : (Cond.instanceMethod yX9_doesOne) ∈ gW := gW_of (n := 1157) (by decide +kernel) rfl
theorem q_1158 : (Cond.code yX9_doesOne prog_11_method_70_code 3 (Option.some FieldType.int)) ∈ gW := gW_of (n := 1158) (by decide +kernel) rfl
theorem q_1159 : (Cond.methodLink RL 116 yX9_back) ∈ gW := gW_of (n := 1159) (by decide +kernel) rfl
theorem q_1160 : (Cond.instanceMethod yX9_back) ∈ gW := gW_of (n := 1160) (by decide +kernel) rfl
theorem q_1161 : (Cond.selects RX9 yX9_back yX9_back) ∈ gW := gW_of (n := 1161) (by decide +kernel) rfl
theorem q_1162 : (Cond.code yX9_back prog_11_method_73_code 2 (Option.some FieldType.int)) ∈ gW := gW_of (n := 1162) (by decide +kernel) rfl
theorem q_1163 : (Cond.methodLink RL 120 yX9_told) ∈ gW := gW_of (n := 1163) (by decide +kernel) rfl
theorem q_1164 : (Cond.instanceMethod yX9_told) ∈ gW := gW_of (n := 1164) (by decide +kernel) rfl
theorem q_1165 : (Cond.selects RX9 yX9_told yX9_told) ∈ gW := gW_of (n := 1165) (by decide +kernel) rfl
theorem q_1166 : (Cond.code yX9_told prog_11_method_75_code 2 (Option.some FieldType.int)) ∈ gW := gW_of (n := 1166) (by decide +kernel) rfl
theorem q_1167 : (Cond.constantLong RX9 253 (5 : Int64)) ∈ gW := gW_of (n := 1167) (by decide +kernel) rfl
theorem q_1168 : (Cond.methodLink RX9 255 yX9_toldOf) ∈ gW := gW_of (n := 1168) (by decide +kernel) rfl
theorem q_1170 : (Cond.instanceMethod yX9_toldOf) ∈ gW := gW_of (n := 1170) (by decide +kernel) rfl
theorem q_1171 : (Cond.code yX9_toldOf prog_11_method_74_code 2 (Option.some FieldType.int)) ∈ gW := gW_of (n := 1171) (by decide +kernel) rfl
theorem q_1172 : (Cond.methodLink RL 125 yX9_digest) ∈ gW := gW_of (n := 1172) (by decide +kernel) rfl
theorem q_1173 : (Cond.instanceMethod yX9_digest) ∈ gW := gW_of (n := 1173) (by decide +kernel) rfl
theorem q_1174 : (Cond.selects RX9 yX9_digest yX9_digest) ∈ gW := gW_of (n := 1174) (by decide +kernel) rfl
theorem q_1175 : (Cond.code yX9_digest prog_11_method_76_code 4 (Option.some FieldType.long)) ∈ gW := gW_of (n := 1175) (by decide +kernel) rfl
theorem q_1176 : (Cond.constantLong RX9 258 (2083 : Int64)) ∈ gW := gW_of (n := 1176) (by decide +kernel) rfl
theorem q_1177 : (Cond.fieldLink RJ0 9 "java/lang/String" "value" "[B") ∈ gW := gW_of (n := 1177) (by decide +kernel) rfl
theorem q_1178 : (Cond.fieldLink RJ0 15 "java/lang/String" "coder" "B") ∈ gW := gW_of (n := 1178) (by decide +kernel) rfl
theorem i_X0 : ∀ w ∈ u_ws RX0 TX0 3, w ∈ gW := List.forall_mem_cons.mpr ⟨q_197, List.forall_mem_cons.mpr ⟨q_199, List.forall_mem_cons.mpr ⟨q_201, fun _ h => absurd h List.not_mem_nil⟩⟩⟩
theorem i_X1 : ∀ w ∈ u_ws RX1 TX1 5, w ∈ gW := List.forall_mem_cons.mpr ⟨q_220, List.forall_mem_cons.mpr ⟨q_222, List.forall_mem_cons.mpr ⟨q_224, List.forall_mem_cons.mpr ⟨q_226, List.forall_mem_cons.mpr ⟨q_228, fun _ h => absurd h List.not_mem_nil⟩⟩⟩⟩⟩
theorem i_X2 : ∀ w ∈ u_ws RX2 TX2 4, w ∈ gW := List.forall_mem_cons.mpr ⟨q_243, List.forall_mem_cons.mpr ⟨q_245, List.forall_mem_cons.mpr ⟨q_247, List.forall_mem_cons.mpr ⟨q_249, fun _ h => absurd h List.not_mem_nil⟩⟩⟩⟩
theorem i_X3 : ∀ w ∈ u_ws RX3 TX3 4, w ∈ gW := List.forall_mem_cons.mpr ⟨q_166, List.forall_mem_cons.mpr ⟨q_168, List.forall_mem_cons.mpr ⟨q_170, List.forall_mem_cons.mpr ⟨q_172, fun _ h => absurd h List.not_mem_nil⟩⟩⟩⟩
theorem i_X4 : ∀ w ∈ u_ws RX4 TX4 4, w ∈ gW := List.forall_mem_cons.mpr ⟨q_127, List.forall_mem_cons.mpr ⟨q_129, List.forall_mem_cons.mpr ⟨q_131, List.forall_mem_cons.mpr ⟨q_133, fun _ h => absurd h List.not_mem_nil⟩⟩⟩⟩
theorem i_X5 : ∀ w ∈ u_ws RX5 TX5 3, w ∈ gW := List.forall_mem_cons.mpr ⟨q_149, List.forall_mem_cons.mpr ⟨q_151, List.forall_mem_cons.mpr ⟨q_153, fun _ h => absurd h List.not_mem_nil⟩⟩⟩
theorem i_X6 : ∀ w ∈ u_ws RX6 TX6 4, w ∈ gW := List.forall_mem_cons.mpr ⟨q_105, List.forall_mem_cons.mpr ⟨q_107, List.forall_mem_cons.mpr ⟨q_109, List.forall_mem_cons.mpr ⟨q_111, fun _ h => absurd h List.not_mem_nil⟩⟩⟩⟩
theorem i_X7 : ∀ w ∈ u_ws RX7 TX7 2, w ∈ gW := List.forall_mem_cons.mpr ⟨q_183, List.forall_mem_cons.mpr ⟨q_185, fun _ h => absurd h List.not_mem_nil⟩⟩
theorem i_X8 : ∀ w ∈ u_ws RX8 TX8 10, w ∈ gW := List.forall_mem_cons.mpr ⟨q_262, List.forall_mem_cons.mpr ⟨q_264, List.forall_mem_cons.mpr ⟨q_266, List.forall_mem_cons.mpr ⟨q_268, List.forall_mem_cons.mpr ⟨q_270, List.forall_mem_cons.mpr ⟨q_272, List.forall_mem_cons.mpr ⟨q_274, List.forall_mem_cons.mpr ⟨q_276, List.forall_mem_cons.mpr ⟨q_278, List.forall_mem_cons.mpr ⟨q_280, fun _ h => absurd h List.not_mem_nil⟩⟩⟩⟩⟩⟩⟩⟩⟩⟩
theorem i_X9 : ∀ w ∈ u_ws RX9 TX9 12, w ∈ gW := List.forall_mem_cons.mpr ⟨q_841, List.forall_mem_cons.mpr ⟨q_843, List.forall_mem_cons.mpr ⟨q_845, List.forall_mem_cons.mpr ⟨q_847, List.forall_mem_cons.mpr ⟨q_849, List.forall_mem_cons.mpr ⟨q_851, List.forall_mem_cons.mpr ⟨q_853, List.forall_mem_cons.mpr ⟨q_855, List.forall_mem_cons.mpr ⟨q_857, List.forall_mem_cons.mpr ⟨q_859, List.forall_mem_cons.mpr ⟨q_861, List.forall_mem_cons.mpr ⟨q_863, fun _ h => absurd h List.not_mem_nil⟩⟩⟩⟩⟩⟩⟩⟩⟩⟩⟩⟩
