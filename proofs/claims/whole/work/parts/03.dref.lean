theorem dX9_init_0 : decode cX9_init 0 = .ok (.aload_n 0, 1) := by decide +kernel
theorem dX9_init_1 : decode cX9_init 1 = .ok (.invokespecial 1, 3) := by decide +kernel
theorem dX9_init_4 : decode cX9_init 4 = .ok (.aload_n 0, 1) := by decide +kernel
theorem dX9_init_5 : decode cX9_init 5 = .ok (.bipush 97, 2) := by decide +kernel
theorem dX9_init_7 : decode cX9_init 7 = .ok (.newarray .int, 2) := by decide +kernel
theorem dX9_init_9 : decode cX9_init 9 = .ok (.putfield 7, 3) := by decide +kernel
theorem dX9_init_12 : decode cX9_init 12 = .ok (.aload_n 0, 1) := by decide +kernel
theorem dX9_init_13 : decode cX9_init 13 = .ok (.sipush 582, 3) := by decide +kernel
theorem dX9_init_16 : decode cX9_init 16 = .ok (.newarray .int, 2) := by decide +kernel
theorem dX9_init_18 : decode cX9_init 18 = .ok (.putfield 13, 3) := by decide +kernel
theorem dX9_init_21 : decode cX9_init 21 = .ok (.aload_n 0, 1) := by decide +kernel
theorem dX9_init_22 : decode cX9_init 22 = .ok (.iconst 3, 1) := by decide +kernel
theorem dX9_init_23 : decode cX9_init 23 = .ok (.newarray .int, 2) := by decide +kernel
theorem dX9_init_25 : decode cX9_init 25 = .ok (.putfield 16, 3) := by decide +kernel
theorem dX9_init_28 : decode cX9_init 28 = .ok (.aload_n 0, 1) := by decide +kernel
theorem dX9_init_29 : decode cX9_init 29 = .ok (.bipush 72, 2) := by decide +kernel
theorem dX9_init_31 : decode cX9_init 31 = .ok (.newarray .int, 2) := by decide +kernel
theorem dX9_init_33 : decode cX9_init 33 = .ok (.putfield 19, 3) := by decide +kernel
theorem dX9_init_36 : decode cX9_init 36 = .ok (.aload_n 0, 1) := by decide +kernel
theorem dX9_init_37 : decode cX9_init 37 = .ok (.sipush 768, 3) := by decide +kernel
theorem dX9_init_40 : decode cX9_init 40 = .ok (.newarray .int, 2) := by decide +kernel
theorem dX9_init_42 : decode cX9_init 42 = .ok (.putfield 22, 3) := by decide +kernel
theorem dX9_init_45 : decode cX9_init 45 = .ok (.aload_n 0, 1) := by decide +kernel
theorem dX9_init_46 : decode cX9_init 46 = .ok (.sipush 768, 3) := by decide +kernel
theorem dX9_init_49 : decode cX9_init 49 = .ok (.newarray .boolean, 2) := by decide +kernel
theorem dX9_init_51 : decode cX9_init 51 = .ok (.putfield 25, 3) := by decide +kernel
theorem dX9_init_54 : decode cX9_init 54 = .ok (.aload_n 0, 1) := by decide +kernel
theorem dX9_init_55 : decode cX9_init 55 = .ok (.bipush 120, 2) := by decide +kernel
theorem dX9_init_57 : decode cX9_init 57 = .ok (.newarray .int, 2) := by decide +kernel
theorem dX9_init_59 : decode cX9_init 59 = .ok (.putfield 29, 3) := by decide +kernel
theorem dX9_init_62 : decode cX9_init 62 = .ok (.aload_n 0, 1) := by decide +kernel
theorem dX9_init_63 : decode cX9_init 63 = .ok (.bipush 9, 2) := by decide +kernel
theorem dX9_init_65 : decode cX9_init 65 = .ok (.newarray .int, 2) := by decide +kernel
theorem dX9_init_67 : decode cX9_init 67 = .ok (.putfield 32, 3) := by decide +kernel
theorem dX9_init_70 : decode cX9_init 70 = .ok (.iconst 0, 1) := by decide +kernel
theorem dX9_init_71 : decode cX9_init 71 = .ok (.istore_n 1, 1) := by decide +kernel
theorem dX9_init_72 : decode cX9_init 72 = .ok (.iload_n 1, 1) := by decide +kernel
theorem dX9_init_73 : decode cX9_init 73 = .ok (.bipush 8, 2) := by decide +kernel
theorem dX9_init_75 : decode cX9_init 75 = .ok (.if_icmp .ge 21, 3) := by decide +kernel
theorem dX9_init_78 : decode cX9_init 78 = .ok (.aload_n 0, 1) := by decide +kernel
theorem dX9_init_79 : decode cX9_init 79 = .ok (.getfield 7, 3) := by decide +kernel
theorem dX9_init_82 : decode cX9_init 82 = .ok (.bipush 72, 2) := by decide +kernel
theorem dX9_init_84 : decode cX9_init 84 = .ok (.iload_n 1, 1) := by decide +kernel
theorem dX9_init_85 : decode cX9_init 85 = .ok (.iadd, 1) := by decide +kernel
theorem dX9_init_86 : decode cX9_init 86 = .ok (.sipush 255, 3) := by decide +kernel
theorem dX9_init_89 : decode cX9_init 89 = .ok (.iastore, 1) := by decide +kernel
theorem dX9_init_90 : decode cX9_init 90 = .ok (.iinc 1 1, 3) := by decide +kernel
theorem dX9_init_93 : decode cX9_init 93 = .ok (.goto (-21), 3) := by decide +kernel
theorem dX9_init_96 : decode cX9_init 96 = .ok (.return_, 1) := by decide +kernel
theorem dX9_in_0 : decode cX9_in 0 = .ok (.lload_n 0, 1) := by decide +kernel
theorem dX9_in_1 : decode cX9_in 1 = .ok (.lload_n 2, 1) := by decide +kernel
theorem dX9_in_2 : decode cX9_in 2 = .ok (.lcmp, 1) := by decide +kernel
theorem dX9_in_3 : decode cX9_in 3 = .ok (.ifCond .lt 14, 3) := by decide +kernel
theorem dX9_in_6 : decode cX9_in 6 = .ok (.lload_n 0, 1) := by decide +kernel
theorem dX9_in_7 : decode cX9_in 7 = .ok (.lload 4, 2) := by decide +kernel
theorem dX9_in_9 : decode cX9_in 9 = .ok (.lcmp, 1) := by decide +kernel
theorem dX9_in_10 : decode cX9_in 10 = .ok (.ifCond .gt 7, 3) := by decide +kernel
theorem dX9_in_13 : decode cX9_in 13 = .ok (.iconst 1, 1) := by decide +kernel
theorem dX9_in_14 : decode cX9_in 14 = .ok (.goto 4, 3) := by decide +kernel
theorem dX9_in_17 : decode cX9_in 17 = .ok (.iconst 0, 1) := by decide +kernel
theorem dX9_in_18 : decode cX9_in 18 = .ok (.ireturn, 1) := by decide +kernel
theorem dX9_bad_0 : decode cX9_bad 0 = .ok (.aload_n 0, 1) := by decide +kernel
theorem dX9_bad_1 : decode cX9_bad 1 = .ok (.getfield 16, 3) := by decide +kernel
theorem dX9_bad_4 : decode cX9_bad 4 = .ok (.iconst 0, 1) := by decide +kernel
theorem dX9_bad_5 : decode cX9_bad 5 = .ok (.dup2, 1) := by decide +kernel
theorem dX9_bad_6 : decode cX9_bad 6 = .ok (.iaload, 1) := by decide +kernel
theorem dX9_bad_7 : decode cX9_bad 7 = .ok (.iconst 1, 1) := by decide +kernel
theorem dX9_bad_8 : decode cX9_bad 8 = .ok (.iadd, 1) := by decide +kernel
theorem dX9_bad_9 : decode cX9_bad 9 = .ok (.iastore, 1) := by decide +kernel
theorem dX9_bad_10 : decode cX9_bad 10 = .ok (.iload_n 1, 1) := by decide +kernel
theorem dX9_bad_11 : decode cX9_bad 11 = .ok (.ireturn, 1) := by decide +kernel
theorem dX9_no_0 : decode cX9_no 0 = .ok (.aload_n 0, 1) := by decide +kernel
theorem dX9_no_1 : decode cX9_no 1 = .ok (.getfield 16, 3) := by decide +kernel
theorem dX9_no_4 : decode cX9_no 4 = .ok (.iconst 1, 1) := by decide +kernel
theorem dX9_no_5 : decode cX9_no 5 = .ok (.dup2, 1) := by decide +kernel
theorem dX9_no_6 : decode cX9_no 6 = .ok (.iaload, 1) := by decide +kernel
theorem dX9_no_7 : decode cX9_no 7 = .ok (.iconst 1, 1) := by decide +kernel
theorem dX9_no_8 : decode cX9_no 8 = .ok (.iadd, 1) := by decide +kernel
theorem dX9_no_9 : decode cX9_no 9 = .ok (.iastore, 1) := by decide +kernel
theorem dX9_no_10 : decode cX9_no 10 = .ok (.bipush (-3), 2) := by decide +kernel
theorem dX9_no_12 : decode cX9_no 12 = .ok (.ireturn, 1) := by decide +kernel
theorem dX9_full_0 : decode cX9_full 0 = .ok (.aload_n 0, 1) := by decide +kernel
theorem dX9_full_1 : decode cX9_full 1 = .ok (.getfield 16, 3) := by decide +kernel
theorem dX9_full_4 : decode cX9_full 4 = .ok (.iconst 2, 1) := by decide +kernel
theorem dX9_full_5 : decode cX9_full 5 = .ok (.dup2, 1) := by decide +kernel
theorem dX9_full_6 : decode cX9_full 6 = .ok (.iaload, 1) := by decide +kernel
theorem dX9_full_7 : decode cX9_full 7 = .ok (.iconst 1, 1) := by decide +kernel
theorem dX9_full_8 : decode cX9_full 8 = .ok (.iadd, 1) := by decide +kernel
theorem dX9_full_9 : decode cX9_full 9 = .ok (.iastore, 1) := by decide +kernel
theorem dX9_full_10 : decode cX9_full 10 = .ok (.bipush (-4), 2) := by decide +kernel
theorem dX9_full_12 : decode cX9_full 12 = .ok (.ireturn, 1) := by decide +kernel
theorem dX9_isPicture_0 : decode cX9_isPicture 0 = .ok (.iload_n 0, 1) := by decide +kernel
theorem dX9_isPicture_1 : decode cX9_isPicture 1 = .ok (.i2l, 1) := by decide +kernel
theorem dX9_isPicture_2 : decode cX9_isPicture 2 = .ok (.lconst 0, 1) := by decide +kernel
theorem dX9_isPicture_3 : decode cX9_isPicture 3 = .ok (.ldc2_w 35, 3) := by decide +kernel
theorem dX9_isPicture_6 : decode cX9_isPicture 6 = .ok (.invokestatic 37, 3) := by decide +kernel
theorem dX9_isPicture_9 : decode cX9_isPicture 9 = .ok (.ireturn, 1) := by decide +kernel
theorem dX9_isPlace_0 : decode cX9_isPlace 0 = .ok (.iload_n 0, 1) := by decide +kernel
theorem dX9_isPlace_1 : decode cX9_isPlace 1 = .ok (.i2l, 1) := by decide +kernel
theorem dX9_isPlace_2 : decode cX9_isPlace 2 = .ok (.ldc2_w 41, 3) := by decide +kernel
theorem dX9_isPlace_5 : decode cX9_isPlace 5 = .ok (.ldc2_w 43, 3) := by decide +kernel
theorem dX9_isPlace_8 : decode cX9_isPlace 8 = .ok (.invokestatic 37, 3) := by decide +kernel
theorem dX9_isPlace_11 : decode cX9_isPlace 11 = .ok (.ifCond .eq 21, 3) := by decide +kernel
theorem dX9_isPlace_14 : decode cX9_isPlace 14 = .ok (.iload_n 1, 1) := by decide +kernel
theorem dX9_isPlace_15 : decode cX9_isPlace 15 = .ok (.i2l, 1) := by decide +kernel
theorem dX9_isPlace_16 : decode cX9_isPlace 16 = .ok (.ldc2_w 41, 3) := by decide +kernel
theorem dX9_isPlace_19 : decode cX9_isPlace 19 = .ok (.ldc2_w 43, 3) := by decide +kernel
theorem dX9_isPlace_22 : decode cX9_isPlace 22 = .ok (.invokestatic 37, 3) := by decide +kernel
theorem dX9_isPlace_25 : decode cX9_isPlace 25 = .ok (.ifCond .eq 7, 3) := by decide +kernel
theorem dX9_isPlace_28 : decode cX9_isPlace 28 = .ok (.iconst 1, 1) := by decide +kernel
theorem dX9_isPlace_29 : decode cX9_isPlace 29 = .ok (.goto 4, 3) := by decide +kernel
theorem dX9_isPlace_32 : decode cX9_isPlace 32 = .ok (.iconst 0, 1) := by decide +kernel
theorem dX9_isPlace_33 : decode cX9_isPlace 33 = .ok (.ireturn, 1) := by decide +kernel
theorem dX9_isSize_0 : decode cX9_isSize 0 = .ok (.iload_n 0, 1) := by decide +kernel
theorem dX9_isSize_1 : decode cX9_isSize 1 = .ok (.i2l, 1) := by decide +kernel
theorem dX9_isSize_2 : decode cX9_isSize 2 = .ok (.lconst 1, 1) := by decide +kernel
theorem dX9_isSize_3 : decode cX9_isSize 3 = .ok (.ldc2_w 45, 3) := by decide +kernel
theorem dX9_isSize_6 : decode cX9_isSize 6 = .ok (.invokestatic 37, 3) := by decide +kernel
theorem dX9_isSize_9 : decode cX9_isSize 9 = .ok (.ifCond .eq 19, 3) := by decide +kernel
theorem dX9_isSize_12 : decode cX9_isSize 12 = .ok (.iload_n 1, 1) := by decide +kernel
theorem dX9_isSize_13 : decode cX9_isSize 13 = .ok (.i2l, 1) := by decide +kernel
theorem dX9_isSize_14 : decode cX9_isSize 14 = .ok (.lconst 1, 1) := by decide +kernel
theorem dX9_isSize_15 : decode cX9_isSize 15 = .ok (.ldc2_w 45, 3) := by decide +kernel
theorem dX9_isSize_18 : decode cX9_isSize 18 = .ok (.invokestatic 37, 3) := by decide +kernel
theorem dX9_isSize_21 : decode cX9_isSize 21 = .ok (.ifCond .eq 7, 3) := by decide +kernel
theorem dX9_isSize_24 : decode cX9_isSize 24 = .ok (.iconst 1, 1) := by decide +kernel
theorem dX9_isSize_25 : decode cX9_isSize 25 = .ok (.goto 4, 3) := by decide +kernel
theorem dX9_isSize_28 : decode cX9_isSize 28 = .ok (.iconst 0, 1) := by decide +kernel
theorem dX9_isSize_29 : decode cX9_isSize 29 = .ok (.ireturn, 1) := by decide +kernel
theorem dX9_isJoin_0 : decode cX9_isJoin 0 = .ok (.iload_n 0, 1) := by decide +kernel
theorem dX9_isJoin_1 : decode cX9_isJoin 1 = .ok (.i2l, 1) := by decide +kernel
theorem dX9_isJoin_2 : decode cX9_isJoin 2 = .ok (.lconst 0, 1) := by decide +kernel
theorem dX9_isJoin_3 : decode cX9_isJoin 3 = .ok (.ldc2_w 47, 3) := by decide +kernel
theorem dX9_isJoin_6 : decode cX9_isJoin 6 = .ok (.invokestatic 37, 3) := by decide +kernel
theorem dX9_isJoin_9 : decode cX9_isJoin 9 = .ok (.ireturn, 1) := by decide +kernel
theorem dX9_isIn_0 : decode cX9_isIn 0 = .ok (.iload_n 0, 1) := by decide +kernel
theorem dX9_isIn_1 : decode cX9_isIn 1 = .ok (.i2l, 1) := by decide +kernel
theorem dX9_isIn_2 : decode cX9_isIn 2 = .ok (.lconst 0, 1) := by decide +kernel
theorem dX9_isIn_3 : decode cX9_isIn 3 = .ok (.ldc2_w 49, 3) := by decide +kernel
theorem dX9_isIn_6 : decode cX9_isIn 6 = .ok (.invokestatic 37, 3) := by decide +kernel
theorem dX9_isIn_9 : decode cX9_isIn 9 = .ok (.ifCond .eq 19, 3) := by decide +kernel
theorem dX9_isIn_12 : decode cX9_isIn 12 = .ok (.iload_n 1, 1) := by decide +kernel
theorem dX9_isIn_13 : decode cX9_isIn 13 = .ok (.i2l, 1) := by decide +kernel
theorem dX9_isIn_14 : decode cX9_isIn 14 = .ok (.lconst 0, 1) := by decide +kernel
theorem dX9_isIn_15 : decode cX9_isIn 15 = .ok (.ldc2_w 51, 3) := by decide +kernel
theorem dX9_isIn_18 : decode cX9_isIn 18 = .ok (.invokestatic 37, 3) := by decide +kernel
theorem dX9_isIn_21 : decode cX9_isIn 21 = .ok (.ifCond .eq 7, 3) := by decide +kernel
theorem dX9_isIn_24 : decode cX9_isIn 24 = .ok (.iconst 1, 1) := by decide +kernel
theorem dX9_isIn_25 : decode cX9_isIn 25 = .ok (.goto 4, 3) := by decide +kernel
theorem dX9_isIn_28 : decode cX9_isIn 28 = .ok (.iconst 0, 1) := by decide +kernel
theorem dX9_isIn_29 : decode cX9_isIn 29 = .ok (.ireturn, 1) := by decide +kernel
theorem dX9_keep_0 : decode cX9_keep 0 = .ok (.aload_n 0, 1) := by decide +kernel
theorem dX9_keep_1 : decode cX9_keep 1 = .ok (.getfield 53, 3) := by decide +kernel
theorem dX9_keep_4 : decode cX9_keep 4 = .ok (.bipush 6, 2) := by decide +kernel
theorem dX9_keep_6 : decode cX9_keep 6 = .ok (.if_icmp .ne 43, 3) := by decide +kernel
theorem dX9_keep_9 : decode cX9_keep 9 = .ok (.iconst 0, 1) := by decide +kernel
theorem dX9_keep_10 : decode cX9_keep 10 = .ok (.istore_n 1, 1) := by decide +kernel
theorem dX9_keep_11 : decode cX9_keep 11 = .ok (.iload_n 1, 1) := by decide +kernel
theorem dX9_keep_12 : decode cX9_keep 12 = .ok (.sipush 485, 3) := by decide +kernel
theorem dX9_keep_15 : decode cX9_keep 15 = .ok (.if_icmp .ge 24, 3) := by decide +kernel
theorem dX9_keep_18 : decode cX9_keep 18 = .ok (.aload_n 0, 1) := by decide +kernel
theorem dX9_keep_19 : decode cX9_keep 19 = .ok (.getfield 13, 3) := by decide +kernel
theorem dX9_keep_22 : decode cX9_keep 22 = .ok (.iload_n 1, 1) := by decide +kernel
theorem dX9_keep_23 : decode cX9_keep 23 = .ok (.aload_n 0, 1) := by decide +kernel
theorem dX9_keep_24 : decode cX9_keep 24 = .ok (.getfield 13, 3) := by decide +kernel
theorem dX9_keep_27 : decode cX9_keep 27 = .ok (.iload_n 1, 1) := by decide +kernel
theorem dX9_keep_28 : decode cX9_keep 28 = .ok (.bipush 97, 2) := by decide +kernel
theorem dX9_keep_30 : decode cX9_keep 30 = .ok (.iadd, 1) := by decide +kernel
theorem dX9_keep_31 : decode cX9_keep 31 = .ok (.iaload, 1) := by decide +kernel
theorem dX9_keep_32 : decode cX9_keep 32 = .ok (.iastore, 1) := by decide +kernel
theorem dX9_keep_33 : decode cX9_keep 33 = .ok (.iinc 1 1, 3) := by decide +kernel
theorem dX9_keep_36 : decode cX9_keep 36 = .ok (.goto (-25), 3) := by decide +kernel
theorem dX9_keep_39 : decode cX9_keep 39 = .ok (.aload_n 0, 1) := by decide +kernel
theorem dX9_keep_40 : decode cX9_keep 40 = .ok (.dup, 1) := by decide +kernel
theorem dX9_keep_41 : decode cX9_keep 41 = .ok (.getfield 53, 3) := by decide +kernel
theorem dX9_keep_44 : decode cX9_keep 44 = .ok (.iconst 1, 1) := by decide +kernel
theorem dX9_keep_45 : decode cX9_keep 45 = .ok (.isub, 1) := by decide +kernel
theorem dX9_keep_46 : decode cX9_keep 46 = .ok (.putfield 53, 3) := by decide +kernel
theorem dX9_keep_49 : decode cX9_keep 49 = .ok (.iconst 0, 1) := by decide +kernel
theorem dX9_keep_50 : decode cX9_keep 50 = .ok (.istore_n 1, 1) := by decide +kernel
theorem dX9_keep_51 : decode cX9_keep 51 = .ok (.iload_n 1, 1) := by decide +kernel
theorem dX9_keep_52 : decode cX9_keep 52 = .ok (.bipush 97, 2) := by decide +kernel
theorem dX9_keep_54 : decode cX9_keep 54 = .ok (.if_icmp .ge 29, 3) := by decide +kernel
theorem dX9_keep_57 : decode cX9_keep 57 = .ok (.aload_n 0, 1) := by decide +kernel
theorem dX9_keep_58 : decode cX9_keep 58 = .ok (.getfield 13, 3) := by decide +kernel
theorem dX9_keep_61 : decode cX9_keep 61 = .ok (.bipush 97, 2) := by decide +kernel
theorem dX9_keep_63 : decode cX9_keep 63 = .ok (.aload_n 0, 1) := by decide +kernel
theorem dX9_keep_64 : decode cX9_keep 64 = .ok (.getfield 53, 3) := by decide +kernel
theorem dX9_keep_67 : decode cX9_keep 67 = .ok (.imul, 1) := by decide +kernel
theorem dX9_keep_68 : decode cX9_keep 68 = .ok (.iload_n 1, 1) := by decide +kernel
theorem dX9_keep_69 : decode cX9_keep 69 = .ok (.iadd, 1) := by decide +kernel
theorem dX9_keep_70 : decode cX9_keep 70 = .ok (.aload_n 0, 1) := by decide +kernel
theorem dX9_keep_71 : decode cX9_keep 71 = .ok (.getfield 7, 3) := by decide +kernel
theorem dX9_keep_74 : decode cX9_keep 74 = .ok (.iload_n 1, 1) := by decide +kernel
theorem dX9_keep_75 : decode cX9_keep 75 = .ok (.iaload, 1) := by decide +kernel
theorem dX9_keep_76 : decode cX9_keep 76 = .ok (.iastore, 1) := by decide +kernel
theorem dX9_keep_77 : decode cX9_keep 77 = .ok (.iinc 1 1, 3) := by decide +kernel
theorem dX9_keep_80 : decode cX9_keep 80 = .ok (.goto (-29), 3) := by decide +kernel
theorem dX9_keep_83 : decode cX9_keep 83 = .ok (.aload_n 0, 1) := by decide +kernel
theorem dX9_keep_84 : decode cX9_keep 84 = .ok (.dup, 1) := by decide +kernel
theorem dX9_keep_85 : decode cX9_keep 85 = .ok (.getfield 53, 3) := by decide +kernel
theorem dX9_keep_88 : decode cX9_keep 88 = .ok (.iconst 1, 1) := by decide +kernel
theorem dX9_keep_89 : decode cX9_keep 89 = .ok (.iadd, 1) := by decide +kernel
theorem dX9_keep_90 : decode cX9_keep 90 = .ok (.putfield 53, 3) := by decide +kernel
theorem dX9_keep_93 : decode cX9_keep 93 = .ok (.return_, 1) := by decide +kernel
theorem dX9_bitOf_0 : decode cX9_bitOf 0 = .ok (.iload_n 0, 1) := by decide +kernel
theorem dX9_bitOf_1 : decode cX9_bitOf 1 = .ok (.bipush 31, 2) := by decide +kernel
theorem dX9_bitOf_3 : decode cX9_bitOf 3 = .ok (.iload_n 1, 1) := by decide +kernel
theorem dX9_bitOf_4 : decode cX9_bitOf 4 = .ok (.isub, 1) := by decide +kernel
theorem dX9_bitOf_5 : decode cX9_bitOf 5 = .ok (.ishr, 1) := by decide +kernel
theorem dX9_bitOf_6 : decode cX9_bitOf 6 = .ok (.iconst 1, 1) := by decide +kernel
theorem dX9_bitOf_7 : decode cX9_bitOf 7 = .ok (.iand, 1) := by decide +kernel
theorem dX9_bitOf_8 : decode cX9_bitOf 8 = .ok (.ireturn, 1) := by decide +kernel
theorem dX9_dotOf_0 : decode cX9_dotOf 0 = .ok (.iload_n 2, 1) := by decide +kernel
theorem dX9_dotOf_1 : decode cX9_dotOf 1 = .ok (.iload_n 3, 1) := by decide +kernel
theorem dX9_dotOf_2 : decode cX9_dotOf 2 = .ok (.invokestatic 57, 3) := by decide +kernel
theorem dX9_dotOf_5 : decode cX9_dotOf 5 = .ok (.ifCond .eq 21, 3) := by decide +kernel
theorem dX9_dotOf_8 : decode cX9_dotOf 8 = .ok (.aload_n 0, 1) := by decide +kernel
theorem dX9_dotOf_9 : decode cX9_dotOf 9 = .ok (.getfield 7, 3) := by decide +kernel
theorem dX9_dotOf_12 : decode cX9_dotOf 12 = .ok (.bipush 24, 2) := by decide +kernel
theorem dX9_dotOf_14 : decode cX9_dotOf 14 = .ok (.iload_n 1, 1) := by decide +kernel
theorem dX9_dotOf_15 : decode cX9_dotOf 15 = .ok (.imul, 1) := by decide +kernel
theorem dX9_dotOf_16 : decode cX9_dotOf 16 = .ok (.iload_n 3, 1) := by decide +kernel
theorem dX9_dotOf_17 : decode cX9_dotOf 17 = .ok (.iadd, 1) := by decide +kernel
theorem dX9_dotOf_18 : decode cX9_dotOf 18 = .ok (.iaload, 1) := by decide +kernel
theorem dX9_dotOf_19 : decode cX9_dotOf 19 = .ok (.iload_n 2, 1) := by decide +kernel
theorem dX9_dotOf_20 : decode cX9_dotOf 20 = .ok (.invokestatic 61, 3) := by decide +kernel
theorem dX9_dotOf_23 : decode cX9_dotOf 23 = .ok (.goto 4, 3) := by decide +kernel
theorem dX9_dotOf_26 : decode cX9_dotOf 26 = .ok (.iconst 0, 1) := by decide +kernel
theorem dX9_dotOf_27 : decode cX9_dotOf 27 = .ok (.ireturn, 1) := by decide +kernel
theorem dX9_sets_0 : decode cX9_sets 0 = .ok (.aload_n 0, 1) := by decide +kernel
theorem dX9_sets_1 : decode cX9_sets 1 = .ok (.iload_n 1, 1) := by decide +kernel
theorem dX9_sets_2 : decode cX9_sets 2 = .ok (.iload_n 2, 1) := by decide +kernel
theorem dX9_sets_3 : decode cX9_sets 3 = .ok (.iload_n 3, 1) := by decide +kernel
theorem dX9_sets_4 : decode cX9_sets 4 = .ok (.invokevirtual 65, 3) := by decide +kernel
theorem dX9_sets_7 : decode cX9_sets 7 = .ok (.istore 5, 2) := by decide +kernel
theorem dX9_sets_9 : decode cX9_sets 9 = .ok (.aload_n 0, 1) := by decide +kernel
theorem dX9_sets_10 : decode cX9_sets 10 = .ok (.getfield 7, 3) := by decide +kernel
theorem dX9_sets_13 : decode cX9_sets 13 = .ok (.bipush 24, 2) := by decide +kernel
theorem dX9_sets_15 : decode cX9_sets 15 = .ok (.iload_n 1, 1) := by decide +kernel
theorem dX9_sets_16 : decode cX9_sets 16 = .ok (.imul, 1) := by decide +kernel
theorem dX9_sets_17 : decode cX9_sets 17 = .ok (.iload_n 3, 1) := by decide +kernel
theorem dX9_sets_18 : decode cX9_sets 18 = .ok (.iadd, 1) := by decide +kernel
theorem dX9_sets_19 : decode cX9_sets 19 = .ok (.dup2, 1) := by decide +kernel
theorem dX9_sets_20 : decode cX9_sets 20 = .ok (.iaload, 1) := by decide +kernel
theorem dX9_sets_21 : decode cX9_sets 21 = .ok (.iload 5, 2) := by decide +kernel
theorem dX9_sets_23 : decode cX9_sets 23 = .ok (.iload 4, 2) := by decide +kernel
theorem dX9_sets_25 : decode cX9_sets 25 = .ok (.if_icmp .ne 7, 3) := by decide +kernel
theorem dX9_sets_28 : decode cX9_sets 28 = .ok (.iconst 0, 1) := by decide +kernel
theorem dX9_sets_29 : decode cX9_sets 29 = .ok (.goto 9, 3) := by decide +kernel
theorem dX9_sets_32 : decode cX9_sets 32 = .ok (.iconst 1, 1) := by decide +kernel
theorem dX9_sets_33 : decode cX9_sets 33 = .ok (.bipush 31, 2) := by decide +kernel
theorem dX9_sets_35 : decode cX9_sets 35 = .ok (.iload_n 2, 1) := by decide +kernel
theorem dX9_sets_36 : decode cX9_sets 36 = .ok (.isub, 1) := by decide +kernel
theorem dX9_sets_37 : decode cX9_sets 37 = .ok (.ishl, 1) := by decide +kernel
theorem dX9_sets_38 : decode cX9_sets 38 = .ok (.ixor, 1) := by decide +kernel
theorem dX9_sets_39 : decode cX9_sets 39 = .ok (.iastore, 1) := by decide +kernel
theorem dX9_sets_40 : decode cX9_sets 40 = .ok (.iload 5, 2) := by decide +kernel
theorem dX9_sets_42 : decode cX9_sets 42 = .ok (.iload 4, 2) := by decide +kernel
theorem dX9_sets_44 : decode cX9_sets 44 = .ok (.if_icmp .ne 7, 3) := by decide +kernel
theorem dX9_sets_47 : decode cX9_sets 47 = .ok (.iconst 0, 1) := by decide +kernel
theorem dX9_sets_48 : decode cX9_sets 48 = .ok (.goto 4, 3) := by decide +kernel
theorem dX9_sets_51 : decode cX9_sets 51 = .ok (.iconst 1, 1) := by decide +kernel
theorem dX9_sets_52 : decode cX9_sets 52 = .ok (.ireturn, 1) := by decide +kernel
theorem dX9_patternAt_0 : decode cX9_patternAt 0 = .ok (.aload_n 0, 1) := by decide +kernel
theorem dX9_patternAt_1 : decode cX9_patternAt 1 = .ok (.getfield 7, 3) := by decide +kernel
theorem dX9_patternAt_4 : decode cX9_patternAt 4 = .ok (.bipush 72, 2) := by decide +kernel
theorem dX9_patternAt_6 : decode cX9_patternAt 6 = .ok (.iload_n 2, 1) := by decide +kernel
theorem dX9_patternAt_7 : decode cX9_patternAt 7 = .ok (.bipush 8, 2) := by decide +kernel
theorem dX9_patternAt_9 : decode cX9_patternAt 9 = .ok (.irem, 1) := by decide +kernel
theorem dX9_patternAt_10 : decode cX9_patternAt 10 = .ok (.iadd, 1) := by decide +kernel
theorem dX9_patternAt_11 : decode cX9_patternAt 11 = .ok (.iaload, 1) := by decide +kernel
theorem dX9_patternAt_12 : decode cX9_patternAt 12 = .ok (.bipush 7, 2) := by decide +kernel
theorem dX9_patternAt_14 : decode cX9_patternAt 14 = .ok (.iload_n 1, 1) := by decide +kernel
theorem dX9_patternAt_15 : decode cX9_patternAt 15 = .ok (.bipush 8, 2) := by decide +kernel
theorem dX9_patternAt_17 : decode cX9_patternAt 17 = .ok (.irem, 1) := by decide +kernel
theorem dX9_patternAt_18 : decode cX9_patternAt 18 = .ok (.isub, 1) := by decide +kernel
theorem dX9_patternAt_19 : decode cX9_patternAt 19 = .ok (.ishr, 1) := by decide +kernel
theorem dX9_patternAt_20 : decode cX9_patternAt 20 = .ok (.iconst 1, 1) := by decide +kernel
theorem dX9_patternAt_21 : decode cX9_patternAt 21 = .ok (.iand, 1) := by decide +kernel
theorem dX9_patternAt_22 : decode cX9_patternAt 22 = .ok (.ireturn, 1) := by decide +kernel
theorem dX9_isOpen_0 : decode cX9_isOpen 0 = .ok (.aload_n 0, 1) := by decide +kernel
theorem dX9_isOpen_1 : decode cX9_isOpen 1 = .ok (.getfield 7, 3) := by decide +kernel
theorem dX9_isOpen_4 : decode cX9_isOpen 4 = .ok (.bipush 96, 2) := by decide +kernel
theorem dX9_isOpen_6 : decode cX9_isOpen 6 = .ok (.iaload, 1) := by decide +kernel
theorem dX9_isOpen_7 : decode cX9_isOpen 7 = .ok (.ifCond .ne 7, 3) := by decide +kernel
theorem dX9_isOpen_10 : decode cX9_isOpen 10 = .ok (.iconst 1, 1) := by decide +kernel
theorem dX9_isOpen_11 : decode cX9_isOpen 11 = .ok (.goto 4, 3) := by decide +kernel
theorem dX9_isOpen_14 : decode cX9_isOpen 14 = .ok (.iconst 0, 1) := by decide +kernel
theorem dX9_isOpen_15 : decode cX9_isOpen 15 = .ok (.istore_n 3, 1) := by decide +kernel
theorem dX9_isOpen_16 : decode cX9_isOpen 16 = .ok (.iconst 0, 1) := by decide +kernel
theorem dX9_isOpen_17 : decode cX9_isOpen 17 = .ok (.istore 4, 2) := by decide +kernel
theorem dX9_isOpen_19 : decode cX9_isOpen 19 = .ok (.iload 4, 2) := by decide +kernel
theorem dX9_isOpen_21 : decode cX9_isOpen 21 = .ok (.aload_n 0, 1) := by decide +kernel
theorem dX9_isOpen_22 : decode cX9_isOpen 22 = .ok (.getfield 7, 3) := by decide +kernel
theorem dX9_isOpen_25 : decode cX9_isOpen 25 = .ok (.bipush 96, 2) := by decide +kernel
theorem dX9_isOpen_27 : decode cX9_isOpen 27 = .ok (.iaload, 1) := by decide +kernel
theorem dX9_isOpen_28 : decode cX9_isOpen 28 = .ok (.if_icmp .ge 88, 3) := by decide +kernel
theorem dX9_isOpen_31 : decode cX9_isOpen 31 = .ok (.bipush 80, 2) := by decide +kernel
theorem dX9_isOpen_33 : decode cX9_isOpen 33 = .ok (.iconst 4, 1) := by decide +kernel
theorem dX9_isOpen_34 : decode cX9_isOpen 34 = .ok (.iload 4, 2) := by decide +kernel
theorem dX9_isOpen_36 : decode cX9_isOpen 36 = .ok (.imul, 1) := by decide +kernel
theorem dX9_isOpen_37 : decode cX9_isOpen 37 = .ok (.iadd, 1) := by decide +kernel
theorem dX9_isOpen_38 : decode cX9_isOpen 38 = .ok (.istore 5, 2) := by decide +kernel
theorem dX9_isOpen_40 : decode cX9_isOpen 40 = .ok (.iload_n 3, 1) := by decide +kernel
theorem dX9_isOpen_41 : decode cX9_isOpen 41 = .ok (.ifCond .ne 63, 3) := by decide +kernel
theorem dX9_isOpen_44 : decode cX9_isOpen 44 = .ok (.iload_n 1, 1) := by decide +kernel
theorem dX9_isOpen_45 : decode cX9_isOpen 45 = .ok (.aload_n 0, 1) := by decide +kernel
theorem dX9_isOpen_46 : decode cX9_isOpen 46 = .ok (.getfield 7, 3) := by decide +kernel
theorem dX9_isOpen_49 : decode cX9_isOpen 49 = .ok (.iload 5, 2) := by decide +kernel
theorem dX9_isOpen_51 : decode cX9_isOpen 51 = .ok (.iaload, 1) := by decide +kernel
theorem dX9_isOpen_52 : decode cX9_isOpen 52 = .ok (.isub, 1) := by decide +kernel
theorem dX9_isOpen_53 : decode cX9_isOpen 53 = .ok (.i2l, 1) := by decide +kernel
theorem dX9_isOpen_54 : decode cX9_isOpen 54 = .ok (.lconst 0, 1) := by decide +kernel
theorem dX9_isOpen_55 : decode cX9_isOpen 55 = .ok (.aload_n 0, 1) := by decide +kernel
theorem dX9_isOpen_56 : decode cX9_isOpen 56 = .ok (.getfield 7, 3) := by decide +kernel
theorem dX9_isOpen_59 : decode cX9_isOpen 59 = .ok (.iload 5, 2) := by decide +kernel
theorem dX9_isOpen_61 : decode cX9_isOpen 61 = .ok (.iconst 2, 1) := by decide +kernel
theorem dX9_isOpen_62 : decode cX9_isOpen 62 = .ok (.iadd, 1) := by decide +kernel
theorem dX9_isOpen_63 : decode cX9_isOpen 63 = .ok (.iaload, 1) := by decide +kernel
theorem dX9_isOpen_64 : decode cX9_isOpen 64 = .ok (.iconst 1, 1) := by decide +kernel
theorem dX9_isOpen_65 : decode cX9_isOpen 65 = .ok (.isub, 1) := by decide +kernel
theorem dX9_isOpen_66 : decode cX9_isOpen 66 = .ok (.i2l, 1) := by decide +kernel
theorem dX9_isOpen_67 : decode cX9_isOpen 67 = .ok (.invokestatic 37, 3) := by decide +kernel
theorem dX9_isOpen_70 : decode cX9_isOpen 70 = .ok (.ifCond .eq 38, 3) := by decide +kernel
theorem dX9_isOpen_73 : decode cX9_isOpen 73 = .ok (.iload_n 2, 1) := by decide +kernel
theorem dX9_isOpen_74 : decode cX9_isOpen 74 = .ok (.aload_n 0, 1) := by decide +kernel
theorem dX9_isOpen_75 : decode cX9_isOpen 75 = .ok (.getfield 7, 3) := by decide +kernel
theorem dX9_isOpen_78 : decode cX9_isOpen 78 = .ok (.iload 5, 2) := by decide +kernel
theorem dX9_isOpen_80 : decode cX9_isOpen 80 = .ok (.iconst 1, 1) := by decide +kernel
theorem dX9_isOpen_81 : decode cX9_isOpen 81 = .ok (.iadd, 1) := by decide +kernel
theorem dX9_isOpen_82 : decode cX9_isOpen 82 = .ok (.iaload, 1) := by decide +kernel
theorem dX9_isOpen_83 : decode cX9_isOpen 83 = .ok (.isub, 1) := by decide +kernel
theorem dX9_isOpen_84 : decode cX9_isOpen 84 = .ok (.i2l, 1) := by decide +kernel
theorem dX9_isOpen_85 : decode cX9_isOpen 85 = .ok (.lconst 0, 1) := by decide +kernel
theorem dX9_isOpen_86 : decode cX9_isOpen 86 = .ok (.aload_n 0, 1) := by decide +kernel
theorem dX9_isOpen_87 : decode cX9_isOpen 87 = .ok (.getfield 7, 3) := by decide +kernel
theorem dX9_isOpen_90 : decode cX9_isOpen 90 = .ok (.iload 5, 2) := by decide +kernel
theorem dX9_isOpen_92 : decode cX9_isOpen 92 = .ok (.iconst 3, 1) := by decide +kernel
theorem dX9_isOpen_93 : decode cX9_isOpen 93 = .ok (.iadd, 1) := by decide +kernel
theorem dX9_isOpen_94 : decode cX9_isOpen 94 = .ok (.iaload, 1) := by decide +kernel
theorem dX9_isOpen_95 : decode cX9_isOpen 95 = .ok (.iconst 1, 1) := by decide +kernel
theorem dX9_isOpen_96 : decode cX9_isOpen 96 = .ok (.isub, 1) := by decide +kernel
theorem dX9_isOpen_97 : decode cX9_isOpen 97 = .ok (.i2l, 1) := by decide +kernel
theorem dX9_isOpen_98 : decode cX9_isOpen 98 = .ok (.invokestatic 37, 3) := by decide +kernel
theorem dX9_isOpen_101 : decode cX9_isOpen 101 = .ok (.ifCond .eq 7, 3) := by decide +kernel
theorem dX9_isOpen_104 : decode cX9_isOpen 104 = .ok (.iconst 1, 1) := by decide +kernel
theorem dX9_isOpen_105 : decode cX9_isOpen 105 = .ok (.goto 4, 3) := by decide +kernel
theorem dX9_isOpen_108 : decode cX9_isOpen 108 = .ok (.iconst 0, 1) := by decide +kernel
theorem dX9_isOpen_109 : decode cX9_isOpen 109 = .ok (.istore_n 3, 1) := by decide +kernel
theorem dX9_isOpen_110 : decode cX9_isOpen 110 = .ok (.iinc 4 1, 3) := by decide +kernel
theorem dX9_isOpen_113 : decode cX9_isOpen 113 = .ok (.goto (-94), 3) := by decide +kernel
theorem dX9_isOpen_116 : decode cX9_isOpen 116 = .ok (.iload_n 3, 1) := by decide +kernel
theorem dX9_isOpen_117 : decode cX9_isOpen 117 = .ok (.ireturn, 1) := by decide +kernel
theorem dX9_joinsAt_0 : decode cX9_joinsAt 0 = .ok (.iload_n 2, 1) := by decide +kernel
theorem dX9_joinsAt_1 : decode cX9_joinsAt 1 = .ok (.iload_n 3, 1) := by decide +kernel
theorem dX9_joinsAt_2 : decode cX9_joinsAt 2 = .ok (.invokestatic 57, 3) := by decide +kernel
theorem dX9_joinsAt_5 : decode cX9_joinsAt 5 = .ok (.ifCond .eq 12, 3) := by decide +kernel
theorem dX9_joinsAt_8 : decode cX9_joinsAt 8 = .ok (.aload_n 0, 1) := by decide +kernel
theorem dX9_joinsAt_9 : decode cX9_joinsAt 9 = .ok (.iload_n 2, 1) := by decide +kernel
theorem dX9_joinsAt_10 : decode cX9_joinsAt 10 = .ok (.iload_n 3, 1) := by decide +kernel
theorem dX9_joinsAt_11 : decode cX9_joinsAt 11 = .ok (.invokevirtual 69, 3) := by decide +kernel
theorem dX9_joinsAt_14 : decode cX9_joinsAt 14 = .ok (.ifCond .ne 5, 3) := by decide +kernel
theorem dX9_joinsAt_17 : decode cX9_joinsAt 17 = .ok (.iconst 0, 1) := by decide +kernel
theorem dX9_joinsAt_18 : decode cX9_joinsAt 18 = .ok (.ireturn, 1) := by decide +kernel
theorem dX9_joinsAt_19 : decode cX9_joinsAt 19 = .ok (.iconst 4, 1) := by decide +kernel
theorem dX9_joinsAt_20 : decode cX9_joinsAt 20 = .ok (.iload 4, 2) := by decide +kernel
theorem dX9_joinsAt_22 : decode cX9_joinsAt 22 = .ok (.imul, 1) := by decide +kernel
theorem dX9_joinsAt_23 : decode cX9_joinsAt 23 = .ok (.iconst 2, 1) := by decide +kernel
theorem dX9_joinsAt_24 : decode cX9_joinsAt 24 = .ok (.aload_n 0, 1) := by decide +kernel
theorem dX9_joinsAt_25 : decode cX9_joinsAt 25 = .ok (.iload_n 2, 1) := by decide +kernel
theorem dX9_joinsAt_26 : decode cX9_joinsAt 26 = .ok (.iload_n 3, 1) := by decide +kernel
theorem dX9_joinsAt_27 : decode cX9_joinsAt 27 = .ok (.invokevirtual 72, 3) := by decide +kernel
theorem dX9_joinsAt_30 : decode cX9_joinsAt 30 = .ok (.imul, 1) := by decide +kernel
theorem dX9_joinsAt_31 : decode cX9_joinsAt 31 = .ok (.iadd, 1) := by decide +kernel
theorem dX9_joinsAt_32 : decode cX9_joinsAt 32 = .ok (.aload_n 0, 1) := by decide +kernel
theorem dX9_joinsAt_33 : decode cX9_joinsAt 33 = .ok (.iload_n 1, 1) := by decide +kernel
theorem dX9_joinsAt_34 : decode cX9_joinsAt 34 = .ok (.iload_n 2, 1) := by decide +kernel
theorem dX9_joinsAt_35 : decode cX9_joinsAt 35 = .ok (.iload_n 3, 1) := by decide +kernel
theorem dX9_joinsAt_36 : decode cX9_joinsAt 36 = .ok (.invokevirtual 65, 3) := by decide +kernel
theorem dX9_joinsAt_39 : decode cX9_joinsAt 39 = .ok (.iadd, 1) := by decide +kernel
theorem dX9_joinsAt_40 : decode cX9_joinsAt 40 = .ok (.istore 6, 2) := by decide +kernel
theorem dX9_joinsAt_42 : decode cX9_joinsAt 42 = .ok (.aload_n 0, 1) := by decide +kernel
theorem dX9_joinsAt_43 : decode cX9_joinsAt 43 = .ok (.iload_n 1, 1) := by decide +kernel
theorem dX9_joinsAt_44 : decode cX9_joinsAt 44 = .ok (.iload_n 2, 1) := by decide +kernel
theorem dX9_joinsAt_45 : decode cX9_joinsAt 45 = .ok (.iload_n 3, 1) := by decide +kernel
theorem dX9_joinsAt_46 : decode cX9_joinsAt 46 = .ok (.iload 5, 2) := by decide +kernel
theorem dX9_joinsAt_48 : decode cX9_joinsAt 48 = .ok (.iload 6, 2) := by decide +kernel
theorem dX9_joinsAt_50 : decode cX9_joinsAt 50 = .ok (.ishr, 1) := by decide +kernel
theorem dX9_joinsAt_51 : decode cX9_joinsAt 51 = .ok (.iconst 1, 1) := by decide +kernel
theorem dX9_joinsAt_52 : decode cX9_joinsAt 52 = .ok (.iand, 1) := by decide +kernel
theorem dX9_joinsAt_53 : decode cX9_joinsAt 53 = .ok (.invokevirtual 75, 3) := by decide +kernel
theorem dX9_joinsAt_56 : decode cX9_joinsAt 56 = .ok (.ireturn, 1) := by decide +kernel
theorem dX9_dot_0 : decode cX9_dot 0 = .ok (.iload_n 1, 1) := by decide +kernel
theorem dX9_dot_1 : decode cX9_dot 1 = .ok (.invokestatic 79, 3) := by decide +kernel
theorem dX9_dot_4 : decode cX9_dot 4 = .ok (.ifCond .eq 22, 3) := by decide +kernel
theorem dX9_dot_7 : decode cX9_dot 7 = .ok (.iload_n 2, 1) := by decide +kernel
theorem dX9_dot_8 : decode cX9_dot 8 = .ok (.iload_n 3, 1) := by decide +kernel
theorem dX9_dot_9 : decode cX9_dot 9 = .ok (.invokestatic 57, 3) := by decide +kernel
theorem dX9_dot_12 : decode cX9_dot 12 = .ok (.ifCond .eq 14, 3) := by decide +kernel
theorem dX9_dot_15 : decode cX9_dot 15 = .ok (.iload 4, 2) := by decide +kernel
theorem dX9_dot_17 : decode cX9_dot 17 = .ok (.i2l, 1) := by decide +kernel
theorem dX9_dot_18 : decode cX9_dot 18 = .ok (.lconst 0, 1) := by decide +kernel
theorem dX9_dot_19 : decode cX9_dot 19 = .ok (.lconst 1, 1) := by decide +kernel
theorem dX9_dot_20 : decode cX9_dot 20 = .ok (.invokestatic 37, 3) := by decide +kernel
theorem dX9_dot_23 : decode cX9_dot 23 = .ok (.ifCond .ne 10, 3) := by decide +kernel
theorem dX9_dot_26 : decode cX9_dot 26 = .ok (.aload_n 0, 1) := by decide +kernel
theorem dX9_dot_27 : decode cX9_dot 27 = .ok (.bipush (-2), 2) := by decide +kernel
theorem dX9_dot_29 : decode cX9_dot 29 = .ok (.invokevirtual 83, 3) := by decide +kernel
theorem dX9_dot_32 : decode cX9_dot 32 = .ok (.ireturn, 1) := by decide +kernel
theorem dX9_dot_33 : decode cX9_dot 33 = .ok (.aload_n 0, 1) := by decide +kernel
theorem dX9_dot_34 : decode cX9_dot 34 = .ok (.invokevirtual 87, 3) := by decide +kernel
theorem dX9_dot_37 : decode cX9_dot 37 = .ok (.aload_n 0, 1) := by decide +kernel
theorem dX9_dot_38 : decode cX9_dot 38 = .ok (.iload_n 1, 1) := by decide +kernel
theorem dX9_dot_39 : decode cX9_dot 39 = .ok (.iload_n 2, 1) := by decide +kernel
theorem dX9_dot_40 : decode cX9_dot 40 = .ok (.iload_n 3, 1) := by decide +kernel
theorem dX9_dot_41 : decode cX9_dot 41 = .ok (.iload 4, 2) := by decide +kernel
theorem dX9_dot_43 : decode cX9_dot 43 = .ok (.invokevirtual 75, 3) := by decide +kernel
theorem dX9_dot_46 : decode cX9_dot 46 = .ok (.istore 5, 2) := by decide +kernel
theorem dX9_dot_48 : decode cX9_dot 48 = .ok (.iload 5, 2) := by decide +kernel
theorem dX9_dot_50 : decode cX9_dot 50 = .ok (.iconst 1, 1) := by decide +kernel
theorem dX9_dot_51 : decode cX9_dot 51 = .ok (.if_icmp .ne 10, 3) := by decide +kernel
theorem dX9_dot_54 : decode cX9_dot 54 = .ok (.iconst 1, 1) := by decide +kernel
theorem dX9_dot_55 : decode cX9_dot 55 = .ok (.iload 4, 2) := by decide +kernel
theorem dX9_dot_57 : decode cX9_dot 57 = .ok (.isub, 1) := by decide +kernel
theorem dX9_dot_58 : decode cX9_dot 58 = .ok (.goto 5, 3) := by decide +kernel
theorem dX9_dot_61 : decode cX9_dot 61 = .ok (.iload 4, 2) := by decide +kernel
theorem dX9_dot_63 : decode cX9_dot 63 = .ok (.ireturn, 1) := by decide +kernel
theorem dX9_pattern_0 : decode cX9_pattern 0 = .ok (.iload_n 1, 1) := by decide +kernel
theorem dX9_pattern_1 : decode cX9_pattern 1 = .ok (.i2l, 1) := by decide +kernel
theorem dX9_pattern_2 : decode cX9_pattern 2 = .ok (.lconst 0, 1) := by decide +kernel
theorem dX9_pattern_3 : decode cX9_pattern 3 = .ok (.ldc2_w 90, 3) := by decide +kernel
theorem dX9_pattern_6 : decode cX9_pattern 6 = .ok (.invokestatic 37, 3) := by decide +kernel
theorem dX9_pattern_9 : decode cX9_pattern 9 = .ok (.ifCond .eq 15, 3) := by decide +kernel
theorem dX9_pattern_12 : decode cX9_pattern 12 = .ok (.iload_n 2, 1) := by decide +kernel
theorem dX9_pattern_13 : decode cX9_pattern 13 = .ok (.i2l, 1) := by decide +kernel
theorem dX9_pattern_14 : decode cX9_pattern 14 = .ok (.lconst 0, 1) := by decide +kernel
theorem dX9_pattern_15 : decode cX9_pattern 15 = .ok (.ldc2_w 47, 3) := by decide +kernel
theorem dX9_pattern_18 : decode cX9_pattern 18 = .ok (.invokestatic 37, 3) := by decide +kernel
theorem dX9_pattern_21 : decode cX9_pattern 21 = .ok (.ifCond .ne 10, 3) := by decide +kernel
theorem dX9_pattern_24 : decode cX9_pattern 24 = .ok (.aload_n 0, 1) := by decide +kernel
theorem dX9_pattern_25 : decode cX9_pattern 25 = .ok (.bipush (-2), 2) := by decide +kernel
theorem dX9_pattern_27 : decode cX9_pattern 27 = .ok (.invokevirtual 83, 3) := by decide +kernel
theorem dX9_pattern_30 : decode cX9_pattern 30 = .ok (.ireturn, 1) := by decide +kernel
theorem dX9_pattern_31 : decode cX9_pattern 31 = .ok (.aload_n 0, 1) := by decide +kernel
theorem dX9_pattern_32 : decode cX9_pattern 32 = .ok (.invokevirtual 87, 3) := by decide +kernel
theorem dX9_pattern_35 : decode cX9_pattern 35 = .ok (.aload_n 0, 1) := by decide +kernel
theorem dX9_pattern_36 : decode cX9_pattern 36 = .ok (.getfield 7, 3) := by decide +kernel
theorem dX9_pattern_39 : decode cX9_pattern 39 = .ok (.bipush 72, 2) := by decide +kernel
theorem dX9_pattern_41 : decode cX9_pattern 41 = .ok (.iload_n 1, 1) := by decide +kernel
theorem dX9_pattern_42 : decode cX9_pattern 42 = .ok (.iadd, 1) := by decide +kernel
theorem dX9_pattern_43 : decode cX9_pattern 43 = .ok (.iaload, 1) := by decide +kernel
theorem dX9_pattern_44 : decode cX9_pattern 44 = .ok (.istore_n 3, 1) := by decide +kernel
theorem dX9_pattern_45 : decode cX9_pattern 45 = .ok (.aload_n 0, 1) := by decide +kernel
theorem dX9_pattern_46 : decode cX9_pattern 46 = .ok (.getfield 7, 3) := by decide +kernel
theorem dX9_pattern_49 : decode cX9_pattern 49 = .ok (.bipush 72, 2) := by decide +kernel
theorem dX9_pattern_51 : decode cX9_pattern 51 = .ok (.iload_n 1, 1) := by decide +kernel
theorem dX9_pattern_52 : decode cX9_pattern 52 = .ok (.iadd, 1) := by decide +kernel
theorem dX9_pattern_53 : decode cX9_pattern 53 = .ok (.iload_n 2, 1) := by decide +kernel
theorem dX9_pattern_54 : decode cX9_pattern 54 = .ok (.iastore, 1) := by decide +kernel
theorem dX9_pattern_55 : decode cX9_pattern 55 = .ok (.iload_n 3, 1) := by decide +kernel
theorem dX9_pattern_56 : decode cX9_pattern 56 = .ok (.ireturn, 1) := by decide +kernel
theorem dX9_dots_0 : decode cX9_dots 0 = .ok (.iconst 0, 1) := by decide +kernel
theorem dX9_dots_1 : decode cX9_dots 1 = .ok (.istore_n 2, 1) := by decide +kernel
theorem dX9_dots_2 : decode cX9_dots 2 = .ok (.iconst 0, 1) := by decide +kernel
theorem dX9_dots_3 : decode cX9_dots 3 = .ok (.istore_n 3, 1) := by decide +kernel
theorem dX9_dots_4 : decode cX9_dots 4 = .ok (.iload_n 3, 1) := by decide +kernel
theorem dX9_dots_5 : decode cX9_dots 5 = .ok (.bipush 24, 2) := by decide +kernel
theorem dX9_dots_7 : decode cX9_dots 7 = .ok (.if_icmp .ge 36, 3) := by decide +kernel
theorem dX9_dots_10 : decode cX9_dots 10 = .ok (.iconst 0, 1) := by decide +kernel
theorem dX9_dots_11 : decode cX9_dots 11 = .ok (.istore 4, 2) := by decide +kernel
theorem dX9_dots_13 : decode cX9_dots 13 = .ok (.iload 4, 2) := by decide +kernel
theorem dX9_dots_15 : decode cX9_dots 15 = .ok (.bipush 32, 2) := by decide +kernel
theorem dX9_dots_17 : decode cX9_dots 17 = .ok (.if_icmp .ge 20, 3) := by decide +kernel
theorem dX9_dots_20 : decode cX9_dots 20 = .ok (.iload_n 2, 1) := by decide +kernel
theorem dX9_dots_21 : decode cX9_dots 21 = .ok (.aload_n 0, 1) := by decide +kernel
theorem dX9_dots_22 : decode cX9_dots 22 = .ok (.iload_n 1, 1) := by decide +kernel
theorem dX9_dots_23 : decode cX9_dots 23 = .ok (.iload 4, 2) := by decide +kernel
theorem dX9_dots_25 : decode cX9_dots 25 = .ok (.iload_n 3, 1) := by decide +kernel
theorem dX9_dots_26 : decode cX9_dots 26 = .ok (.invokevirtual 65, 3) := by decide +kernel
theorem dX9_dots_29 : decode cX9_dots 29 = .ok (.iadd, 1) := by decide +kernel
theorem dX9_dots_30 : decode cX9_dots 30 = .ok (.istore_n 2, 1) := by decide +kernel
theorem dX9_dots_31 : decode cX9_dots 31 = .ok (.iinc 4 1, 3) := by decide +kernel
theorem dX9_dots_34 : decode cX9_dots 34 = .ok (.goto (-21), 3) := by decide +kernel
theorem dX9_dots_37 : decode cX9_dots 37 = .ok (.iinc 3 1, 3) := by decide +kernel
theorem dX9_dots_40 : decode cX9_dots 40 = .ok (.goto (-36), 3) := by decide +kernel
theorem dX9_dots_43 : decode cX9_dots 43 = .ok (.iload_n 2, 1) := by decide +kernel
theorem dX9_dots_44 : decode cX9_dots 44 = .ok (.ireturn, 1) := by decide +kernel
theorem dX9_draw_0 : decode cX9_draw 0 = .ok (.iload_n 1, 1) := by decide +kernel
theorem dX9_draw_1 : decode cX9_draw 1 = .ok (.invokestatic 79, 3) := by decide +kernel
theorem dX9_draw_4 : decode cX9_draw 4 = .ok (.ifCond .eq 15, 3) := by decide +kernel
theorem dX9_draw_7 : decode cX9_draw 7 = .ok (.iload_n 2, 1) := by decide +kernel
theorem dX9_draw_8 : decode cX9_draw 8 = .ok (.i2l, 1) := by decide +kernel
theorem dX9_draw_9 : decode cX9_draw 9 = .ok (.lconst 0, 1) := by decide +kernel
theorem dX9_draw_10 : decode cX9_draw 10 = .ok (.ldc2_w 92, 3) := by decide +kernel
theorem dX9_draw_13 : decode cX9_draw 13 = .ok (.invokestatic 37, 3) := by decide +kernel
theorem dX9_draw_16 : decode cX9_draw 16 = .ok (.ifCond .ne 10, 3) := by decide +kernel
theorem dX9_draw_19 : decode cX9_draw 19 = .ok (.aload_n 0, 1) := by decide +kernel
theorem dX9_draw_20 : decode cX9_draw 20 = .ok (.bipush (-2), 2) := by decide +kernel
theorem dX9_draw_22 : decode cX9_draw 22 = .ok (.invokevirtual 83, 3) := by decide +kernel
theorem dX9_draw_25 : decode cX9_draw 25 = .ok (.ireturn, 1) := by decide +kernel
theorem dX9_draw_26 : decode cX9_draw 26 = .ok (.iload_n 2, 1) := by decide +kernel
theorem dX9_draw_27 : decode cX9_draw 27 = .ok (.i2l, 1) := by decide +kernel
theorem dX9_draw_28 : decode cX9_draw 28 = .ok (.lstore_n 3, 1) := by decide +kernel
theorem dX9_draw_29 : decode cX9_draw 29 = .ok (.aload_n 0, 1) := by decide +kernel
theorem dX9_draw_30 : decode cX9_draw 30 = .ok (.invokevirtual 87, 3) := by decide +kernel
theorem dX9_draw_33 : decode cX9_draw 33 = .ok (.iconst 0, 1) := by decide +kernel
theorem dX9_draw_34 : decode cX9_draw 34 = .ok (.istore 5, 2) := by decide +kernel
theorem dX9_draw_36 : decode cX9_draw 36 = .ok (.iload 5, 2) := by decide +kernel
theorem dX9_draw_38 : decode cX9_draw 38 = .ok (.bipush 24, 2) := by decide +kernel
theorem dX9_draw_40 : decode cX9_draw 40 = .ok (.if_icmp .ge 74, 3) := by decide +kernel
theorem dX9_draw_43 : decode cX9_draw 43 = .ok (.lconst 0, 1) := by decide +kernel
theorem dX9_draw_44 : decode cX9_draw 44 = .ok (.lstore 6, 2) := by decide +kernel
theorem dX9_draw_46 : decode cX9_draw 46 = .ok (.iconst 0, 1) := by decide +kernel
theorem dX9_draw_47 : decode cX9_draw 47 = .ok (.istore 8, 2) := by decide +kernel
theorem dX9_draw_49 : decode cX9_draw 49 = .ok (.iload 8, 2) := by decide +kernel
theorem dX9_draw_51 : decode cX9_draw 51 = .ok (.iconst 2, 1) := by decide +kernel
theorem dX9_draw_52 : decode cX9_draw 52 = .ok (.if_icmp .ge 41, 3) := by decide +kernel
theorem dX9_draw_55 : decode cX9_draw 55 = .ok (.lload_n 3, 1) := by decide +kernel
theorem dX9_draw_56 : decode cX9_draw 56 = .ok (.ldc2_w 94, 3) := by decide +kernel
theorem dX9_draw_59 : decode cX9_draw 59 = .ok (.lmul, 1) := by decide +kernel
theorem dX9_draw_60 : decode cX9_draw 60 = .ok (.ldc2_w 96, 3) := by decide +kernel
theorem dX9_draw_63 : decode cX9_draw 63 = .ok (.ladd, 1) := by decide +kernel
theorem dX9_draw_64 : decode cX9_draw 64 = .ok (.ldc2_w 98, 3) := by decide +kernel
theorem dX9_draw_67 : decode cX9_draw 67 = .ok (.lrem, 1) := by decide +kernel
theorem dX9_draw_68 : decode cX9_draw 68 = .ok (.lstore_n 3, 1) := by decide +kernel
theorem dX9_draw_69 : decode cX9_draw 69 = .ok (.ldc2_w 100, 3) := by decide +kernel
theorem dX9_draw_72 : decode cX9_draw 72 = .ok (.lload 6, 2) := by decide +kernel
theorem dX9_draw_74 : decode cX9_draw 74 = .ok (.lmul, 1) := by decide +kernel
theorem dX9_draw_75 : decode cX9_draw 75 = .ok (.lload_n 3, 1) := by decide +kernel
theorem dX9_draw_76 : decode cX9_draw 76 = .ok (.ldc2_w 102, 3) := by decide +kernel
theorem dX9_draw_79 : decode cX9_draw 79 = .ok (.ldiv, 1) := by decide +kernel
theorem dX9_draw_80 : decode cX9_draw 80 = .ok (.ldc2_w 100, 3) := by decide +kernel
theorem dX9_draw_83 : decode cX9_draw 83 = .ok (.lrem, 1) := by decide +kernel
theorem dX9_draw_84 : decode cX9_draw 84 = .ok (.ladd, 1) := by decide +kernel
theorem dX9_draw_85 : decode cX9_draw 85 = .ok (.lstore 6, 2) := by decide +kernel
theorem dX9_draw_87 : decode cX9_draw 87 = .ok (.iinc 8 1, 3) := by decide +kernel
theorem dX9_draw_90 : decode cX9_draw 90 = .ok (.goto (-41), 3) := by decide +kernel
theorem dX9_draw_93 : decode cX9_draw 93 = .ok (.aload_n 0, 1) := by decide +kernel
theorem dX9_draw_94 : decode cX9_draw 94 = .ok (.getfield 7, 3) := by decide +kernel
theorem dX9_draw_97 : decode cX9_draw 97 = .ok (.bipush 24, 2) := by decide +kernel
theorem dX9_draw_99 : decode cX9_draw 99 = .ok (.iload_n 1, 1) := by decide +kernel
theorem dX9_draw_100 : decode cX9_draw 100 = .ok (.imul, 1) := by decide +kernel
theorem dX9_draw_101 : decode cX9_draw 101 = .ok (.iload 5, 2) := by decide +kernel
theorem dX9_draw_103 : decode cX9_draw 103 = .ok (.iadd, 1) := by decide +kernel
theorem dX9_draw_104 : decode cX9_draw 104 = .ok (.lload 6, 2) := by decide +kernel
theorem dX9_draw_106 : decode cX9_draw 106 = .ok (.l2i, 1) := by decide +kernel
theorem dX9_draw_107 : decode cX9_draw 107 = .ok (.iastore, 1) := by decide +kernel
theorem dX9_draw_108 : decode cX9_draw 108 = .ok (.iinc 5 1, 3) := by decide +kernel
theorem dX9_draw_111 : decode cX9_draw 111 = .ok (.goto (-75), 3) := by decide +kernel
theorem dX9_draw_114 : decode cX9_draw 114 = .ok (.aload_n 0, 1) := by decide +kernel
theorem dX9_draw_115 : decode cX9_draw 115 = .ok (.iload_n 1, 1) := by decide +kernel
theorem dX9_draw_116 : decode cX9_draw 116 = .ok (.invokevirtual 104, 3) := by decide +kernel
theorem dX9_draw_119 : decode cX9_draw 119 = .ok (.ireturn, 1) := by decide +kernel
theorem dX9_opens_0 : decode cX9_opens 0 = .ok (.bipush 80, 2) := by decide +kernel
theorem dX9_opens_2 : decode cX9_opens 2 = .ok (.iconst 4, 1) := by decide +kernel
theorem dX9_opens_3 : decode cX9_opens 3 = .ok (.aload_n 0, 1) := by decide +kernel
theorem dX9_opens_4 : decode cX9_opens 4 = .ok (.getfield 7, 3) := by decide +kernel
theorem dX9_opens_7 : decode cX9_opens 7 = .ok (.bipush 96, 2) := by decide +kernel
theorem dX9_opens_9 : decode cX9_opens 9 = .ok (.iaload, 1) := by decide +kernel
theorem dX9_opens_10 : decode cX9_opens 10 = .ok (.imul, 1) := by decide +kernel
theorem dX9_opens_11 : decode cX9_opens 11 = .ok (.iadd, 1) := by decide +kernel
theorem dX9_opens_12 : decode cX9_opens 12 = .ok (.istore 5, 2) := by decide +kernel
theorem dX9_opens_14 : decode cX9_opens 14 = .ok (.aload_n 0, 1) := by decide +kernel
theorem dX9_opens_15 : decode cX9_opens 15 = .ok (.getfield 7, 3) := by decide +kernel
theorem dX9_opens_18 : decode cX9_opens 18 = .ok (.iload 5, 2) := by decide +kernel
theorem dX9_opens_20 : decode cX9_opens 20 = .ok (.iload_n 1, 1) := by decide +kernel
theorem dX9_opens_21 : decode cX9_opens 21 = .ok (.iastore, 1) := by decide +kernel
theorem dX9_opens_22 : decode cX9_opens 22 = .ok (.aload_n 0, 1) := by decide +kernel
theorem dX9_opens_23 : decode cX9_opens 23 = .ok (.getfield 7, 3) := by decide +kernel
theorem dX9_opens_26 : decode cX9_opens 26 = .ok (.iload 5, 2) := by decide +kernel
theorem dX9_opens_28 : decode cX9_opens 28 = .ok (.iconst 1, 1) := by decide +kernel
theorem dX9_opens_29 : decode cX9_opens 29 = .ok (.iadd, 1) := by decide +kernel
theorem dX9_opens_30 : decode cX9_opens 30 = .ok (.iload_n 2, 1) := by decide +kernel
theorem dX9_opens_31 : decode cX9_opens 31 = .ok (.iastore, 1) := by decide +kernel
theorem dX9_opens_32 : decode cX9_opens 32 = .ok (.aload_n 0, 1) := by decide +kernel
theorem dX9_opens_33 : decode cX9_opens 33 = .ok (.getfield 7, 3) := by decide +kernel
theorem dX9_opens_36 : decode cX9_opens 36 = .ok (.iload 5, 2) := by decide +kernel
theorem dX9_opens_38 : decode cX9_opens 38 = .ok (.iconst 2, 1) := by decide +kernel
theorem dX9_opens_39 : decode cX9_opens 39 = .ok (.iadd, 1) := by decide +kernel
theorem dX9_opens_40 : decode cX9_opens 40 = .ok (.iload_n 3, 1) := by decide +kernel
theorem dX9_opens_41 : decode cX9_opens 41 = .ok (.iastore, 1) := by decide +kernel
theorem dX9_opens_42 : decode cX9_opens 42 = .ok (.aload_n 0, 1) := by decide +kernel
theorem dX9_opens_43 : decode cX9_opens 43 = .ok (.getfield 7, 3) := by decide +kernel
theorem dX9_opens_46 : decode cX9_opens 46 = .ok (.iload 5, 2) := by decide +kernel
theorem dX9_opens_48 : decode cX9_opens 48 = .ok (.iconst 3, 1) := by decide +kernel
theorem dX9_opens_49 : decode cX9_opens 49 = .ok (.iadd, 1) := by decide +kernel
theorem dX9_opens_50 : decode cX9_opens 50 = .ok (.iload 4, 2) := by decide +kernel
theorem dX9_opens_52 : decode cX9_opens 52 = .ok (.iastore, 1) := by decide +kernel
theorem dX9_opens_53 : decode cX9_opens 53 = .ok (.aload_n 0, 1) := by decide +kernel
theorem dX9_opens_54 : decode cX9_opens 54 = .ok (.getfield 7, 3) := by decide +kernel
theorem dX9_opens_57 : decode cX9_opens 57 = .ok (.bipush 96, 2) := by decide +kernel
theorem dX9_opens_59 : decode cX9_opens 59 = .ok (.dup2, 1) := by decide +kernel
theorem dX9_opens_60 : decode cX9_opens 60 = .ok (.iaload, 1) := by decide +kernel
theorem dX9_opens_61 : decode cX9_opens 61 = .ok (.iconst 1, 1) := by decide +kernel
theorem dX9_opens_62 : decode cX9_opens 62 = .ok (.iadd, 1) := by decide +kernel
theorem dX9_opens_63 : decode cX9_opens 63 = .ok (.iastore, 1) := by decide +kernel
theorem dX9_opens_64 : decode cX9_opens 64 = .ok (.return_, 1) := by decide +kernel
theorem dX9_opening_0 : decode cX9_opening 0 = .ok (.iload_n 1, 1) := by decide +kernel
theorem dX9_opening_1 : decode cX9_opening 1 = .ok (.iload_n 2, 1) := by decide +kernel
theorem dX9_opening_2 : decode cX9_opening 2 = .ok (.invokestatic 107, 3) := by decide +kernel
theorem dX9_opening_5 : decode cX9_opening 5 = .ok (.ifCond .eq 12, 3) := by decide +kernel
theorem dX9_opening_8 : decode cX9_opening 8 = .ok (.iload_n 3, 1) := by decide +kernel
theorem dX9_opening_9 : decode cX9_opening 9 = .ok (.iload 4, 2) := by decide +kernel
theorem dX9_opening_11 : decode cX9_opening 11 = .ok (.invokestatic 110, 3) := by decide +kernel
theorem dX9_opening_14 : decode cX9_opening 14 = .ok (.ifCond .ne 10, 3) := by decide +kernel
theorem dX9_opening_17 : decode cX9_opening 17 = .ok (.aload_n 0, 1) := by decide +kernel
theorem dX9_opening_18 : decode cX9_opening 18 = .ok (.bipush (-2), 2) := by decide +kernel
theorem dX9_opening_20 : decode cX9_opening 20 = .ok (.invokevirtual 83, 3) := by decide +kernel
theorem dX9_opening_23 : decode cX9_opening 23 = .ok (.ireturn, 1) := by decide +kernel
theorem dX9_opening_24 : decode cX9_opening 24 = .ok (.aload_n 0, 1) := by decide +kernel
theorem dX9_opening_25 : decode cX9_opening 25 = .ok (.getfield 7, 3) := by decide +kernel
theorem dX9_opening_28 : decode cX9_opening 28 = .ok (.bipush 96, 2) := by decide +kernel
theorem dX9_opening_30 : decode cX9_opening 30 = .ok (.iaload, 1) := by decide +kernel
theorem dX9_opening_31 : decode cX9_opening 31 = .ok (.iconst 4, 1) := by decide +kernel
theorem dX9_opening_32 : decode cX9_opening 32 = .ok (.if_icmp .ne 8, 3) := by decide +kernel
theorem dX9_opening_35 : decode cX9_opening 35 = .ok (.aload_n 0, 1) := by decide +kernel
theorem dX9_opening_36 : decode cX9_opening 36 = .ok (.invokevirtual 113, 3) := by decide +kernel
theorem dX9_opening_39 : decode cX9_opening 39 = .ok (.ireturn, 1) := by decide +kernel
theorem dX9_opening_40 : decode cX9_opening 40 = .ok (.aload_n 0, 1) := by decide +kernel
theorem dX9_opening_41 : decode cX9_opening 41 = .ok (.invokevirtual 87, 3) := by decide +kernel
theorem dX9_opening_44 : decode cX9_opening 44 = .ok (.aload_n 0, 1) := by decide +kernel
theorem dX9_opening_45 : decode cX9_opening 45 = .ok (.iload_n 1, 1) := by decide +kernel
theorem dX9_opening_46 : decode cX9_opening 46 = .ok (.iload_n 2, 1) := by decide +kernel
theorem dX9_opening_47 : decode cX9_opening 47 = .ok (.iload_n 3, 1) := by decide +kernel
theorem dX9_opening_48 : decode cX9_opening 48 = .ok (.iload 4, 2) := by decide +kernel
theorem dX9_opening_50 : decode cX9_opening 50 = .ok (.invokevirtual 117, 3) := by decide +kernel
theorem dX9_opening_53 : decode cX9_opening 53 = .ok (.aload_n 0, 1) := by decide +kernel
theorem dX9_opening_54 : decode cX9_opening 54 = .ok (.getfield 7, 3) := by decide +kernel
theorem dX9_opening_57 : decode cX9_opening 57 = .ok (.bipush 96, 2) := by decide +kernel
theorem dX9_opening_59 : decode cX9_opening 59 = .ok (.iaload, 1) := by decide +kernel
theorem dX9_opening_60 : decode cX9_opening 60 = .ok (.ireturn, 1) := by decide +kernel
theorem dX9_shuts_0 : decode cX9_shuts 0 = .ok (.aload_n 0, 1) := by decide +kernel
theorem dX9_shuts_1 : decode cX9_shuts 1 = .ok (.getfield 7, 3) := by decide +kernel
theorem dX9_shuts_4 : decode cX9_shuts 4 = .ok (.bipush 96, 2) := by decide +kernel
theorem dX9_shuts_6 : decode cX9_shuts 6 = .ok (.iaload, 1) := by decide +kernel
theorem dX9_shuts_7 : decode cX9_shuts 7 = .ok (.istore_n 1, 1) := by decide +kernel
theorem dX9_shuts_8 : decode cX9_shuts 8 = .ok (.bipush 80, 2) := by decide +kernel
theorem dX9_shuts_10 : decode cX9_shuts 10 = .ok (.istore_n 2, 1) := by decide +kernel
theorem dX9_shuts_11 : decode cX9_shuts 11 = .ok (.iload_n 2, 1) := by decide +kernel
theorem dX9_shuts_12 : decode cX9_shuts 12 = .ok (.bipush 97, 2) := by decide +kernel
theorem dX9_shuts_14 : decode cX9_shuts 14 = .ok (.if_icmp .ge 16, 3) := by decide +kernel
theorem dX9_shuts_17 : decode cX9_shuts 17 = .ok (.aload_n 0, 1) := by decide +kernel
theorem dX9_shuts_18 : decode cX9_shuts 18 = .ok (.getfield 7, 3) := by decide +kernel
theorem dX9_shuts_21 : decode cX9_shuts 21 = .ok (.iload_n 2, 1) := by decide +kernel
theorem dX9_shuts_22 : decode cX9_shuts 22 = .ok (.iconst 0, 1) := by decide +kernel
theorem dX9_shuts_23 : decode cX9_shuts 23 = .ok (.iastore, 1) := by decide +kernel
theorem dX9_shuts_24 : decode cX9_shuts 24 = .ok (.iinc 2 1, 3) := by decide +kernel
theorem dX9_shuts_27 : decode cX9_shuts 27 = .ok (.goto (-16), 3) := by decide +kernel
theorem dX9_shuts_30 : decode cX9_shuts 30 = .ok (.iload_n 1, 1) := by decide +kernel
theorem dX9_shuts_31 : decode cX9_shuts 31 = .ok (.ireturn, 1) := by decide +kernel
theorem dX9_closes_0 : decode cX9_closes 0 = .ok (.aload_n 0, 1) := by decide +kernel
theorem dX9_closes_1 : decode cX9_closes 1 = .ok (.invokevirtual 87, 3) := by decide +kernel
theorem dX9_closes_4 : decode cX9_closes 4 = .ok (.aload_n 0, 1) := by decide +kernel
theorem dX9_closes_5 : decode cX9_closes 5 = .ok (.invokevirtual 121, 3) := by decide +kernel
theorem dX9_closes_8 : decode cX9_closes 8 = .ok (.ireturn, 1) := by decide +kernel
theorem dX9_copies_0 : decode cX9_copies 0 = .ok (.iconst 0, 1) := by decide +kernel
theorem dX9_copies_1 : decode cX9_copies 1 = .ok (.istore_n 2, 1) := by decide +kernel
theorem dX9_copies_2 : decode cX9_copies 2 = .ok (.iload_n 2, 1) := by decide +kernel
theorem dX9_copies_3 : decode cX9_copies 3 = .ok (.bipush 72, 2) := by decide +kernel
theorem dX9_copies_5 : decode cX9_copies 5 = .ok (.if_icmp .ge 18, 3) := by decide +kernel
theorem dX9_copies_8 : decode cX9_copies 8 = .ok (.aload_n 1, 1) := by decide +kernel
theorem dX9_copies_9 : decode cX9_copies 9 = .ok (.iload_n 2, 1) := by decide +kernel
theorem dX9_copies_10 : decode cX9_copies 10 = .ok (.aload_n 0, 1) := by decide +kernel
theorem dX9_copies_11 : decode cX9_copies 11 = .ok (.getfield 7, 3) := by decide +kernel
theorem dX9_copies_14 : decode cX9_copies 14 = .ok (.iload_n 2, 1) := by decide +kernel
theorem dX9_copies_15 : decode cX9_copies 15 = .ok (.iaload, 1) := by decide +kernel
theorem dX9_copies_16 : decode cX9_copies 16 = .ok (.iastore, 1) := by decide +kernel
theorem dX9_copies_17 : decode cX9_copies 17 = .ok (.iinc 2 1, 3) := by decide +kernel
theorem dX9_copies_20 : decode cX9_copies 20 = .ok (.goto (-18), 3) := by decide +kernel
theorem dX9_copies_23 : decode cX9_copies 23 = .ok (.return_, 1) := by decide +kernel
theorem dX9_asideAt_0 : decode cX9_asideAt 0 = .ok (.iload_n 2, 1) := by decide +kernel
theorem dX9_asideAt_1 : decode cX9_asideAt 1 = .ok (.iload_n 3, 1) := by decide +kernel
theorem dX9_asideAt_2 : decode cX9_asideAt 2 = .ok (.invokestatic 57, 3) := by decide +kernel
theorem dX9_asideAt_5 : decode cX9_asideAt 5 = .ok (.ifCond .eq 21, 3) := by decide +kernel
theorem dX9_asideAt_8 : decode cX9_asideAt 8 = .ok (.aload_n 0, 1) := by decide +kernel
theorem dX9_asideAt_9 : decode cX9_asideAt 9 = .ok (.getfield 19, 3) := by decide +kernel
theorem dX9_asideAt_12 : decode cX9_asideAt 12 = .ok (.bipush 24, 2) := by decide +kernel
theorem dX9_asideAt_14 : decode cX9_asideAt 14 = .ok (.iload_n 1, 1) := by decide +kernel
theorem dX9_asideAt_15 : decode cX9_asideAt 15 = .ok (.imul, 1) := by decide +kernel
theorem dX9_asideAt_16 : decode cX9_asideAt 16 = .ok (.iload_n 3, 1) := by decide +kernel
theorem dX9_asideAt_17 : decode cX9_asideAt 17 = .ok (.iadd, 1) := by decide +kernel
theorem dX9_asideAt_18 : decode cX9_asideAt 18 = .ok (.iaload, 1) := by decide +kernel
theorem dX9_asideAt_19 : decode cX9_asideAt 19 = .ok (.iload_n 2, 1) := by decide +kernel
theorem dX9_asideAt_20 : decode cX9_asideAt 20 = .ok (.invokestatic 61, 3) := by decide +kernel
theorem dX9_asideAt_23 : decode cX9_asideAt 23 = .ok (.goto 4, 3) := by decide +kernel
theorem dX9_asideAt_26 : decode cX9_asideAt 26 = .ok (.iconst 0, 1) := by decide +kernel
theorem dX9_asideAt_27 : decode cX9_asideAt 27 = .ok (.ireturn, 1) := by decide +kernel
theorem dX9_moves_0 : decode cX9_moves 0 = .ok (.iconst 0, 1) := by decide +kernel
theorem dX9_moves_1 : decode cX9_moves 1 = .ok (.istore 10, 2) := by decide +kernel
theorem dX9_moves_3 : decode cX9_moves 3 = .ok (.aload_n 0, 1) := by decide +kernel
theorem dX9_moves_4 : decode cX9_moves 4 = .ok (.aload_n 0, 1) := by decide +kernel
theorem dX9_moves_5 : decode cX9_moves 5 = .ok (.getfield 19, 3) := by decide +kernel
theorem dX9_moves_8 : decode cX9_moves 8 = .ok (.invokevirtual 124, 3) := by decide +kernel
theorem dX9_moves_11 : decode cX9_moves 11 = .ok (.iconst 0, 1) := by decide +kernel
theorem dX9_moves_12 : decode cX9_moves 12 = .ok (.istore 11, 2) := by decide +kernel
theorem dX9_moves_14 : decode cX9_moves 14 = .ok (.iload 11, 2) := by decide +kernel
theorem dX9_moves_16 : decode cX9_moves 16 = .ok (.iload 5, 2) := by decide +kernel
theorem dX9_moves_18 : decode cX9_moves 18 = .ok (.if_icmp .ge 61, 3) := by decide +kernel
theorem dX9_moves_21 : decode cX9_moves 21 = .ok (.iconst 0, 1) := by decide +kernel
theorem dX9_moves_22 : decode cX9_moves 22 = .ok (.istore 12, 2) := by decide +kernel
theorem dX9_moves_24 : decode cX9_moves 24 = .ok (.iload 12, 2) := by decide +kernel
theorem dX9_moves_26 : decode cX9_moves 26 = .ok (.iload 4, 2) := by decide +kernel
theorem dX9_moves_28 : decode cX9_moves 28 = .ok (.if_icmp .ge 45, 3) := by decide +kernel
theorem dX9_moves_31 : decode cX9_moves 31 = .ok (.iload 10, 2) := by decide +kernel
theorem dX9_moves_33 : decode cX9_moves 33 = .ok (.aload_n 0, 1) := by decide +kernel
theorem dX9_moves_34 : decode cX9_moves 34 = .ok (.iload 6, 2) := by decide +kernel
theorem dX9_moves_36 : decode cX9_moves 36 = .ok (.iload 7, 2) := by decide +kernel
theorem dX9_moves_38 : decode cX9_moves 38 = .ok (.iload 12, 2) := by decide +kernel
theorem dX9_moves_40 : decode cX9_moves 40 = .ok (.iadd, 1) := by decide +kernel
theorem dX9_moves_41 : decode cX9_moves 41 = .ok (.iload 8, 2) := by decide +kernel
theorem dX9_moves_43 : decode cX9_moves 43 = .ok (.iload 11, 2) := by decide +kernel
theorem dX9_moves_45 : decode cX9_moves 45 = .ok (.iadd, 1) := by decide +kernel
theorem dX9_moves_46 : decode cX9_moves 46 = .ok (.aload_n 0, 1) := by decide +kernel
theorem dX9_moves_47 : decode cX9_moves 47 = .ok (.iload_n 1, 1) := by decide +kernel
theorem dX9_moves_48 : decode cX9_moves 48 = .ok (.iload_n 2, 1) := by decide +kernel
theorem dX9_moves_49 : decode cX9_moves 49 = .ok (.iload 12, 2) := by decide +kernel
theorem dX9_moves_51 : decode cX9_moves 51 = .ok (.iadd, 1) := by decide +kernel
theorem dX9_moves_52 : decode cX9_moves 52 = .ok (.iload_n 3, 1) := by decide +kernel
theorem dX9_moves_53 : decode cX9_moves 53 = .ok (.iload 11, 2) := by decide +kernel
theorem dX9_moves_55 : decode cX9_moves 55 = .ok (.iadd, 1) := by decide +kernel
theorem dX9_moves_56 : decode cX9_moves 56 = .ok (.invokevirtual 128, 3) := by decide +kernel
theorem dX9_moves_59 : decode cX9_moves 59 = .ok (.iload 9, 2) := by decide +kernel
theorem dX9_moves_61 : decode cX9_moves 61 = .ok (.invokevirtual 131, 3) := by decide +kernel
theorem dX9_moves_64 : decode cX9_moves 64 = .ok (.iadd, 1) := by decide +kernel
theorem dX9_moves_65 : decode cX9_moves 65 = .ok (.istore 10, 2) := by decide +kernel
theorem dX9_moves_67 : decode cX9_moves 67 = .ok (.iinc 12 1, 3) := by decide +kernel
theorem dX9_moves_70 : decode cX9_moves 70 = .ok (.goto (-46), 3) := by decide +kernel
theorem dX9_moves_73 : decode cX9_moves 73 = .ok (.iinc 11 1, 3) := by decide +kernel
theorem dX9_moves_76 : decode cX9_moves 76 = .ok (.goto (-62), 3) := by decide +kernel
theorem dX9_moves_79 : decode cX9_moves 79 = .ok (.iload 10, 2) := by decide +kernel
theorem dX9_moves_81 : decode cX9_moves 81 = .ok (.ireturn, 1) := by decide +kernel
theorem dX9_move_0 : decode cX9_move 0 = .ok (.iload_n 1, 1) := by decide +kernel
theorem dX9_move_1 : decode cX9_move 1 = .ok (.invokestatic 79, 3) := by decide +kernel
theorem dX9_move_4 : decode cX9_move 4 = .ok (.ifCond .eq 47, 3) := by decide +kernel
theorem dX9_move_7 : decode cX9_move 7 = .ok (.iload_n 2, 1) := by decide +kernel
theorem dX9_move_8 : decode cX9_move 8 = .ok (.iload_n 3, 1) := by decide +kernel
theorem dX9_move_9 : decode cX9_move 9 = .ok (.invokestatic 107, 3) := by decide +kernel
theorem dX9_move_12 : decode cX9_move 12 = .ok (.ifCond .eq 39, 3) := by decide +kernel
theorem dX9_move_15 : decode cX9_move 15 = .ok (.iload 4, 2) := by decide +kernel
theorem dX9_move_17 : decode cX9_move 17 = .ok (.iload 5, 2) := by decide +kernel
theorem dX9_move_19 : decode cX9_move 19 = .ok (.invokestatic 110, 3) := by decide +kernel
theorem dX9_move_22 : decode cX9_move 22 = .ok (.ifCond .eq 29, 3) := by decide +kernel
theorem dX9_move_25 : decode cX9_move 25 = .ok (.iload 6, 2) := by decide +kernel
theorem dX9_move_27 : decode cX9_move 27 = .ok (.invokestatic 79, 3) := by decide +kernel
theorem dX9_move_30 : decode cX9_move 30 = .ok (.ifCond .eq 21, 3) := by decide +kernel
theorem dX9_move_33 : decode cX9_move 33 = .ok (.iload 7, 2) := by decide +kernel
theorem dX9_move_35 : decode cX9_move 35 = .ok (.iload 8, 2) := by decide +kernel
theorem dX9_move_37 : decode cX9_move 37 = .ok (.invokestatic 107, 3) := by decide +kernel
theorem dX9_move_40 : decode cX9_move 40 = .ok (.ifCond .eq 11, 3) := by decide +kernel
theorem dX9_move_43 : decode cX9_move 43 = .ok (.iload 9, 2) := by decide +kernel
theorem dX9_move_45 : decode cX9_move 45 = .ok (.invokestatic 135, 3) := by decide +kernel
theorem dX9_move_48 : decode cX9_move 48 = .ok (.ifCond .ne 10, 3) := by decide +kernel
theorem dX9_move_51 : decode cX9_move 51 = .ok (.aload_n 0, 1) := by decide +kernel
theorem dX9_move_52 : decode cX9_move 52 = .ok (.bipush (-2), 2) := by decide +kernel
theorem dX9_move_54 : decode cX9_move 54 = .ok (.invokevirtual 83, 3) := by decide +kernel
theorem dX9_move_57 : decode cX9_move 57 = .ok (.ireturn, 1) := by decide +kernel
theorem dX9_move_58 : decode cX9_move 58 = .ok (.aload_n 0, 1) := by decide +kernel
theorem dX9_move_59 : decode cX9_move 59 = .ok (.invokevirtual 87, 3) := by decide +kernel
theorem dX9_move_62 : decode cX9_move 62 = .ok (.aload_n 0, 1) := by decide +kernel
theorem dX9_move_63 : decode cX9_move 63 = .ok (.iload_n 1, 1) := by decide +kernel
theorem dX9_move_64 : decode cX9_move 64 = .ok (.iload_n 2, 1) := by decide +kernel
theorem dX9_move_65 : decode cX9_move 65 = .ok (.iload_n 3, 1) := by decide +kernel
theorem dX9_move_66 : decode cX9_move 66 = .ok (.iload 4, 2) := by decide +kernel
theorem dX9_move_68 : decode cX9_move 68 = .ok (.iload 5, 2) := by decide +kernel
theorem dX9_move_70 : decode cX9_move 70 = .ok (.iload 6, 2) := by decide +kernel
theorem dX9_move_72 : decode cX9_move 72 = .ok (.iload 7, 2) := by decide +kernel
theorem dX9_move_74 : decode cX9_move 74 = .ok (.iload 8, 2) := by decide +kernel
theorem dX9_move_76 : decode cX9_move 76 = .ok (.iload 9, 2) := by decide +kernel
theorem dX9_move_78 : decode cX9_move 78 = .ok (.invokevirtual 138, 3) := by decide +kernel
theorem dX9_move_81 : decode cX9_move 81 = .ok (.ireturn, 1) := by decide +kernel
theorem dX9_size_0 : decode cX9_size 0 = .ok (.iload_n 0, 1) := by decide +kernel
theorem dX9_size_1 : decode cX9_size 1 = .ok (.ifCond .ge 8, 3) := by decide +kernel
theorem dX9_size_4 : decode cX9_size 4 = .ok (.iload_n 0, 1) := by decide +kernel
theorem dX9_size_5 : decode cX9_size 5 = .ok (.ineg, 1) := by decide +kernel
theorem dX9_size_6 : decode cX9_size 6 = .ok (.goto 4, 3) := by decide +kernel
theorem dX9_size_9 : decode cX9_size 9 = .ok (.iload_n 0, 1) := by decide +kernel
theorem dX9_size_10 : decode cX9_size 10 = .ok (.ireturn, 1) := by decide +kernel
theorem dX9_by_0 : decode cX9_by 0 = .ok (.iload_n 0, 1) := by decide +kernel
theorem dX9_by_1 : decode cX9_by 1 = .ok (.iload_n 1, 1) := by decide +kernel
theorem dX9_by_2 : decode cX9_by 2 = .ok (.idiv, 1) := by decide +kernel
theorem dX9_by_3 : decode cX9_by 3 = .ok (.istore_n 2, 1) := by decide +kernel
theorem dX9_by_4 : decode cX9_by 4 = .ok (.iload_n 0, 1) := by decide +kernel
theorem dX9_by_5 : decode cX9_by 5 = .ok (.iload_n 1, 1) := by decide +kernel
theorem dX9_by_6 : decode cX9_by 6 = .ok (.irem, 1) := by decide +kernel
theorem dX9_by_7 : decode cX9_by 7 = .ok (.ifCond .ge 9, 3) := by decide +kernel
theorem dX9_by_10 : decode cX9_by 10 = .ok (.iload_n 2, 1) := by decide +kernel
theorem dX9_by_11 : decode cX9_by 11 = .ok (.iconst 1, 1) := by decide +kernel
theorem dX9_by_12 : decode cX9_by 12 = .ok (.isub, 1) := by decide +kernel
theorem dX9_by_13 : decode cX9_by 13 = .ok (.goto 4, 3) := by decide +kernel
theorem dX9_by_16 : decode cX9_by 16 = .ok (.iload_n 2, 1) := by decide +kernel
theorem dX9_by_17 : decode cX9_by 17 = .ok (.ireturn, 1) := by decide +kernel
theorem dX9_lines_0 : decode cX9_lines 0 = .ok (.iload 4, 2) := by decide +kernel
theorem dX9_lines_2 : decode cX9_lines 2 = .ok (.iload_n 2, 1) := by decide +kernel
theorem dX9_lines_3 : decode cX9_lines 3 = .ok (.isub, 1) := by decide +kernel
theorem dX9_lines_4 : decode cX9_lines 4 = .ok (.istore 7, 2) := by decide +kernel
theorem dX9_lines_6 : decode cX9_lines 6 = .ok (.iload 5, 2) := by decide +kernel
theorem dX9_lines_8 : decode cX9_lines 8 = .ok (.iload_n 3, 1) := by decide +kernel
theorem dX9_lines_9 : decode cX9_lines 9 = .ok (.isub, 1) := by decide +kernel
theorem dX9_lines_10 : decode cX9_lines 10 = .ok (.istore 8, 2) := by decide +kernel
theorem dX9_lines_12 : decode cX9_lines 12 = .ok (.iload 7, 2) := by decide +kernel
theorem dX9_lines_14 : decode cX9_lines 14 = .ok (.invokestatic 142, 3) := by decide +kernel
theorem dX9_lines_17 : decode cX9_lines 17 = .ok (.iload 8, 2) := by decide +kernel
theorem dX9_lines_19 : decode cX9_lines 19 = .ok (.invokestatic 142, 3) := by decide +kernel
theorem dX9_lines_22 : decode cX9_lines 22 = .ok (.if_icmp .lt 7, 3) := by decide +kernel
theorem dX9_lines_25 : decode cX9_lines 25 = .ok (.iconst 1, 1) := by decide +kernel
theorem dX9_lines_26 : decode cX9_lines 26 = .ok (.goto 4, 3) := by decide +kernel
theorem dX9_lines_29 : decode cX9_lines 29 = .ok (.iconst 0, 1) := by decide +kernel
theorem dX9_lines_30 : decode cX9_lines 30 = .ok (.istore 9, 2) := by decide +kernel
theorem dX9_lines_32 : decode cX9_lines 32 = .ok (.iload 9, 2) := by decide +kernel
theorem dX9_lines_34 : decode cX9_lines 34 = .ok (.ifCond .eq 11, 3) := by decide +kernel
theorem dX9_lines_37 : decode cX9_lines 37 = .ok (.iload 7, 2) := by decide +kernel
theorem dX9_lines_39 : decode cX9_lines 39 = .ok (.invokestatic 142, 3) := by decide +kernel
theorem dX9_lines_42 : decode cX9_lines 42 = .ok (.goto 8, 3) := by decide +kernel
theorem dX9_lines_45 : decode cX9_lines 45 = .ok (.iload 8, 2) := by decide +kernel
theorem dX9_lines_47 : decode cX9_lines 47 = .ok (.invokestatic 142, 3) := by decide +kernel
theorem dX9_lines_50 : decode cX9_lines 50 = .ok (.istore 10, 2) := by decide +kernel
theorem dX9_lines_52 : decode cX9_lines 52 = .ok (.iconst 0, 1) := by decide +kernel
theorem dX9_lines_53 : decode cX9_lines 53 = .ok (.istore 11, 2) := by decide +kernel
theorem dX9_lines_55 : decode cX9_lines 55 = .ok (.iconst 0, 1) := by decide +kernel
theorem dX9_lines_56 : decode cX9_lines 56 = .ok (.istore 12, 2) := by decide +kernel
theorem dX9_lines_58 : decode cX9_lines 58 = .ok (.iload 12, 2) := by decide +kernel
theorem dX9_lines_60 : decode cX9_lines 60 = .ok (.iload 10, 2) := by decide +kernel
theorem dX9_lines_62 : decode cX9_lines 62 = .ok (.if_icmp .gt 124, 3) := by decide +kernel
theorem dX9_lines_65 : decode cX9_lines 65 = .ok (.iload 9, 2) := by decide +kernel
theorem dX9_lines_67 : decode cX9_lines 67 = .ok (.ifCond .eq 19, 3) := by decide +kernel
theorem dX9_lines_70 : decode cX9_lines 70 = .ok (.iload 7, 2) := by decide +kernel
theorem dX9_lines_72 : decode cX9_lines 72 = .ok (.ifCond .ge 9, 3) := by decide +kernel
theorem dX9_lines_75 : decode cX9_lines 75 = .ok (.iload 12, 2) := by decide +kernel
theorem dX9_lines_77 : decode cX9_lines 77 = .ok (.ineg, 1) := by decide +kernel
theorem dX9_lines_78 : decode cX9_lines 78 = .ok (.goto 21, 3) := by decide +kernel
theorem dX9_lines_81 : decode cX9_lines 81 = .ok (.iload 12, 2) := by decide +kernel
theorem dX9_lines_83 : decode cX9_lines 83 = .ok (.goto 16, 3) := by decide +kernel
theorem dX9_lines_86 : decode cX9_lines 86 = .ok (.iload 8, 2) := by decide +kernel
theorem dX9_lines_88 : decode cX9_lines 88 = .ok (.ifCond .ge 9, 3) := by decide +kernel
theorem dX9_lines_91 : decode cX9_lines 91 = .ok (.iload 12, 2) := by decide +kernel
theorem dX9_lines_93 : decode cX9_lines 93 = .ok (.ineg, 1) := by decide +kernel
theorem dX9_lines_94 : decode cX9_lines 94 = .ok (.goto 5, 3) := by decide +kernel
theorem dX9_lines_97 : decode cX9_lines 97 = .ok (.iload 12, 2) := by decide +kernel
theorem dX9_lines_99 : decode cX9_lines 99 = .ok (.istore 13, 2) := by decide +kernel
theorem dX9_lines_101 : decode cX9_lines 101 = .ok (.iload 10, 2) := by decide +kernel
theorem dX9_lines_103 : decode cX9_lines 103 = .ok (.ifCond .ne 7, 3) := by decide +kernel
theorem dX9_lines_106 : decode cX9_lines 106 = .ok (.iconst 0, 1) := by decide +kernel
theorem dX9_lines_107 : decode cX9_lines 107 = .ok (.goto 30, 3) := by decide +kernel
theorem dX9_lines_110 : decode cX9_lines 110 = .ok (.iload 9, 2) := by decide +kernel
theorem dX9_lines_112 : decode cX9_lines 112 = .ok (.ifCond .eq 8, 3) := by decide +kernel
theorem dX9_lines_115 : decode cX9_lines 115 = .ok (.iload 8, 2) := by decide +kernel
theorem dX9_lines_117 : decode cX9_lines 117 = .ok (.goto 5, 3) := by decide +kernel
theorem dX9_lines_120 : decode cX9_lines 120 = .ok (.iload 7, 2) := by decide +kernel
theorem dX9_lines_122 : decode cX9_lines 122 = .ok (.iconst 2, 1) := by decide +kernel
theorem dX9_lines_123 : decode cX9_lines 123 = .ok (.imul, 1) := by decide +kernel
theorem dX9_lines_124 : decode cX9_lines 124 = .ok (.iload 12, 2) := by decide +kernel
theorem dX9_lines_126 : decode cX9_lines 126 = .ok (.imul, 1) := by decide +kernel
theorem dX9_lines_127 : decode cX9_lines 127 = .ok (.iload 10, 2) := by decide +kernel
theorem dX9_lines_129 : decode cX9_lines 129 = .ok (.iadd, 1) := by decide +kernel
theorem dX9_lines_130 : decode cX9_lines 130 = .ok (.iconst 2, 1) := by decide +kernel
theorem dX9_lines_131 : decode cX9_lines 131 = .ok (.iload 10, 2) := by decide +kernel
theorem dX9_lines_133 : decode cX9_lines 133 = .ok (.imul, 1) := by decide +kernel
theorem dX9_lines_134 : decode cX9_lines 134 = .ok (.invokestatic 145, 3) := by decide +kernel
theorem dX9_lines_137 : decode cX9_lines 137 = .ok (.istore 14, 2) := by decide +kernel
theorem dX9_lines_139 : decode cX9_lines 139 = .ok (.iload 11, 2) := by decide +kernel
theorem dX9_lines_141 : decode cX9_lines 141 = .ok (.aload_n 0, 1) := by decide +kernel
theorem dX9_lines_142 : decode cX9_lines 142 = .ok (.iload_n 1, 1) := by decide +kernel
theorem dX9_lines_143 : decode cX9_lines 143 = .ok (.iload_n 2, 1) := by decide +kernel
theorem dX9_lines_144 : decode cX9_lines 144 = .ok (.iload 9, 2) := by decide +kernel
theorem dX9_lines_146 : decode cX9_lines 146 = .ok (.ifCond .eq 8, 3) := by decide +kernel
theorem dX9_lines_149 : decode cX9_lines 149 = .ok (.iload 13, 2) := by decide +kernel
theorem dX9_lines_151 : decode cX9_lines 151 = .ok (.goto 5, 3) := by decide +kernel
theorem dX9_lines_154 : decode cX9_lines 154 = .ok (.iload 14, 2) := by decide +kernel
theorem dX9_lines_156 : decode cX9_lines 156 = .ok (.iadd, 1) := by decide +kernel
theorem dX9_lines_157 : decode cX9_lines 157 = .ok (.iload_n 3, 1) := by decide +kernel
theorem dX9_lines_158 : decode cX9_lines 158 = .ok (.iload 9, 2) := by decide +kernel
theorem dX9_lines_160 : decode cX9_lines 160 = .ok (.ifCond .eq 8, 3) := by decide +kernel
theorem dX9_lines_163 : decode cX9_lines 163 = .ok (.iload 14, 2) := by decide +kernel
theorem dX9_lines_165 : decode cX9_lines 165 = .ok (.goto 5, 3) := by decide +kernel
theorem dX9_lines_168 : decode cX9_lines 168 = .ok (.iload 13, 2) := by decide +kernel
theorem dX9_lines_170 : decode cX9_lines 170 = .ok (.iadd, 1) := by decide +kernel
theorem dX9_lines_171 : decode cX9_lines 171 = .ok (.iconst 1, 1) := by decide +kernel
theorem dX9_lines_172 : decode cX9_lines 172 = .ok (.iload 6, 2) := by decide +kernel
theorem dX9_lines_174 : decode cX9_lines 174 = .ok (.invokevirtual 131, 3) := by decide +kernel
theorem dX9_lines_177 : decode cX9_lines 177 = .ok (.iadd, 1) := by decide +kernel
theorem dX9_lines_178 : decode cX9_lines 178 = .ok (.istore 11, 2) := by decide +kernel
theorem dX9_lines_180 : decode cX9_lines 180 = .ok (.iinc 12 1, 3) := by decide +kernel
theorem dX9_lines_183 : decode cX9_lines 183 = .ok (.goto (-125), 3) := by decide +kernel
theorem dX9_lines_186 : decode cX9_lines 186 = .ok (.iload 11, 2) := by decide +kernel
theorem dX9_lines_188 : decode cX9_lines 188 = .ok (.ireturn, 1) := by decide +kernel
theorem dX9_line_0 : decode cX9_line 0 = .ok (.iload_n 1, 1) := by decide +kernel
theorem dX9_line_1 : decode cX9_line 1 = .ok (.invokestatic 79, 3) := by decide +kernel
theorem dX9_line_4 : decode cX9_line 4 = .ok (.ifCond .eq 29, 3) := by decide +kernel
theorem dX9_line_7 : decode cX9_line 7 = .ok (.iload_n 2, 1) := by decide +kernel
theorem dX9_line_8 : decode cX9_line 8 = .ok (.iload_n 3, 1) := by decide +kernel
theorem dX9_line_9 : decode cX9_line 9 = .ok (.invokestatic 107, 3) := by decide +kernel
theorem dX9_line_12 : decode cX9_line 12 = .ok (.ifCond .eq 21, 3) := by decide +kernel
theorem dX9_line_15 : decode cX9_line 15 = .ok (.iload 4, 2) := by decide +kernel
theorem dX9_line_17 : decode cX9_line 17 = .ok (.iload 5, 2) := by decide +kernel
theorem dX9_line_19 : decode cX9_line 19 = .ok (.invokestatic 107, 3) := by decide +kernel
theorem dX9_line_22 : decode cX9_line 22 = .ok (.ifCond .eq 11, 3) := by decide +kernel
theorem dX9_line_25 : decode cX9_line 25 = .ok (.iload 6, 2) := by decide +kernel
theorem dX9_line_27 : decode cX9_line 27 = .ok (.invokestatic 135, 3) := by decide +kernel
theorem dX9_line_30 : decode cX9_line 30 = .ok (.ifCond .ne 10, 3) := by decide +kernel
theorem dX9_line_33 : decode cX9_line 33 = .ok (.aload_n 0, 1) := by decide +kernel
theorem dX9_line_34 : decode cX9_line 34 = .ok (.bipush (-2), 2) := by decide +kernel
theorem dX9_line_36 : decode cX9_line 36 = .ok (.invokevirtual 83, 3) := by decide +kernel
theorem dX9_line_39 : decode cX9_line 39 = .ok (.ireturn, 1) := by decide +kernel
theorem dX9_line_40 : decode cX9_line 40 = .ok (.aload_n 0, 1) := by decide +kernel
theorem dX9_line_41 : decode cX9_line 41 = .ok (.invokevirtual 87, 3) := by decide +kernel
theorem dX9_line_44 : decode cX9_line 44 = .ok (.aload_n 0, 1) := by decide +kernel
theorem dX9_line_45 : decode cX9_line 45 = .ok (.iload_n 1, 1) := by decide +kernel
theorem dX9_line_46 : decode cX9_line 46 = .ok (.iload_n 2, 1) := by decide +kernel
theorem dX9_line_47 : decode cX9_line 47 = .ok (.iload_n 3, 1) := by decide +kernel
theorem dX9_line_48 : decode cX9_line 48 = .ok (.iload 4, 2) := by decide +kernel
theorem dX9_line_50 : decode cX9_line 50 = .ok (.iload 5, 2) := by decide +kernel
theorem dX9_line_52 : decode cX9_line 52 = .ok (.iload 6, 2) := by decide +kernel
theorem dX9_line_54 : decode cX9_line 54 = .ok (.invokevirtual 148, 3) := by decide +kernel
theorem dX9_line_57 : decode cX9_line 57 = .ok (.ireturn, 1) := by decide +kernel
theorem dX9_comes_0 : decode cX9_comes 0 = .ok (.aload_n 0, 1) := by decide +kernel
theorem dX9_comes_1 : decode cX9_comes 1 = .ok (.getfield 25, 3) := by decide +kernel
theorem dX9_comes_4 : decode cX9_comes 4 = .ok (.bipush 32, 2) := by decide +kernel
theorem dX9_comes_6 : decode cX9_comes 6 = .ok (.iload_n 2, 1) := by decide +kernel
theorem dX9_comes_7 : decode cX9_comes 7 = .ok (.imul, 1) := by decide +kernel
theorem dX9_comes_8 : decode cX9_comes 8 = .ok (.iload_n 1, 1) := by decide +kernel
theorem dX9_comes_9 : decode cX9_comes 9 = .ok (.iadd, 1) := by decide +kernel
theorem dX9_comes_10 : decode cX9_comes 10 = .ok (.iconst 1, 1) := by decide +kernel
theorem dX9_comes_11 : decode cX9_comes 11 = .ok (.bastore, 1) := by decide +kernel
theorem dX9_comes_12 : decode cX9_comes 12 = .ok (.aload_n 0, 1) := by decide +kernel
theorem dX9_comes_13 : decode cX9_comes 13 = .ok (.getfield 22, 3) := by decide +kernel
theorem dX9_comes_16 : decode cX9_comes 16 = .ok (.aload_n 0, 1) := by decide +kernel
theorem dX9_comes_17 : decode cX9_comes 17 = .ok (.getfield 152, 3) := by decide +kernel
theorem dX9_comes_20 : decode cX9_comes 20 = .ok (.bipush 32, 2) := by decide +kernel
theorem dX9_comes_22 : decode cX9_comes 22 = .ok (.iload_n 2, 1) := by decide +kernel
theorem dX9_comes_23 : decode cX9_comes 23 = .ok (.imul, 1) := by decide +kernel
theorem dX9_comes_24 : decode cX9_comes 24 = .ok (.iload_n 1, 1) := by decide +kernel
theorem dX9_comes_25 : decode cX9_comes 25 = .ok (.iadd, 1) := by decide +kernel
theorem dX9_comes_26 : decode cX9_comes 26 = .ok (.iastore, 1) := by decide +kernel
theorem dX9_comes_27 : decode cX9_comes 27 = .ok (.aload_n 0, 1) := by decide +kernel
theorem dX9_comes_28 : decode cX9_comes 28 = .ok (.dup, 1) := by decide +kernel
theorem dX9_comes_29 : decode cX9_comes 29 = .ok (.getfield 152, 3) := by decide +kernel
theorem dX9_comes_32 : decode cX9_comes 32 = .ok (.iconst 1, 1) := by decide +kernel
theorem dX9_comes_33 : decode cX9_comes 33 = .ok (.iadd, 1) := by decide +kernel
theorem dX9_comes_34 : decode cX9_comes 34 = .ok (.putfield 152, 3) := by decide +kernel
theorem dX9_comes_37 : decode cX9_comes 37 = .ok (.return_, 1) := by decide +kernel
theorem dX9_spreads_0 : decode cX9_spreads 0 = .ok (.aload_n 0, 1) := by decide +kernel
theorem dX9_spreads_1 : decode cX9_spreads 1 = .ok (.iload_n 1, 1) := by decide +kernel
theorem dX9_spreads_2 : decode cX9_spreads 2 = .ok (.iload_n 2, 1) := by decide +kernel
theorem dX9_spreads_3 : decode cX9_spreads 3 = .ok (.iload_n 3, 1) := by decide +kernel
theorem dX9_spreads_4 : decode cX9_spreads 4 = .ok (.invokevirtual 65, 3) := by decide +kernel
theorem dX9_spreads_7 : decode cX9_spreads 7 = .ok (.istore 5, 2) := by decide +kernel
theorem dX9_spreads_9 : decode cX9_spreads 9 = .ok (.iconst 0, 1) := by decide +kernel
theorem dX9_spreads_10 : decode cX9_spreads 10 = .ok (.istore 6, 2) := by decide +kernel
theorem dX9_spreads_12 : decode cX9_spreads 12 = .ok (.aload_n 0, 1) := by decide +kernel
theorem dX9_spreads_13 : decode cX9_spreads 13 = .ok (.iconst 0, 1) := by decide +kernel
theorem dX9_spreads_14 : decode cX9_spreads 14 = .ok (.putfield 152, 3) := by decide +kernel
theorem dX9_spreads_17 : decode cX9_spreads 17 = .ok (.aload_n 0, 1) := by decide +kernel
theorem dX9_spreads_18 : decode cX9_spreads 18 = .ok (.iload_n 2, 1) := by decide +kernel
theorem dX9_spreads_19 : decode cX9_spreads 19 = .ok (.iload_n 3, 1) := by decide +kernel
theorem dX9_spreads_20 : decode cX9_spreads 20 = .ok (.invokevirtual 155, 3) := by decide +kernel
theorem dX9_spreads_23 : decode cX9_spreads 23 = .ok (.aload_n 0, 1) := by decide +kernel
theorem dX9_spreads_24 : decode cX9_spreads 24 = .ok (.getfield 152, 3) := by decide +kernel
theorem dX9_spreads_27 : decode cX9_spreads 27 = .ok (.ifCond .le 189, 3) := by decide +kernel
theorem dX9_spreads_30 : decode cX9_spreads 30 = .ok (.aload_n 0, 1) := by decide +kernel
theorem dX9_spreads_31 : decode cX9_spreads 31 = .ok (.dup, 1) := by decide +kernel
theorem dX9_spreads_32 : decode cX9_spreads 32 = .ok (.getfield 152, 3) := by decide +kernel
theorem dX9_spreads_35 : decode cX9_spreads 35 = .ok (.iconst 1, 1) := by decide +kernel
theorem dX9_spreads_36 : decode cX9_spreads 36 = .ok (.isub, 1) := by decide +kernel
theorem dX9_spreads_37 : decode cX9_spreads 37 = .ok (.putfield 152, 3) := by decide +kernel
theorem dX9_spreads_40 : decode cX9_spreads 40 = .ok (.aload_n 0, 1) := by decide +kernel
theorem dX9_spreads_41 : decode cX9_spreads 41 = .ok (.getfield 22, 3) := by decide +kernel
theorem dX9_spreads_44 : decode cX9_spreads 44 = .ok (.aload_n 0, 1) := by decide +kernel
theorem dX9_spreads_45 : decode cX9_spreads 45 = .ok (.getfield 152, 3) := by decide +kernel
theorem dX9_spreads_48 : decode cX9_spreads 48 = .ok (.iaload, 1) := by decide +kernel
theorem dX9_spreads_49 : decode cX9_spreads 49 = .ok (.bipush 32, 2) := by decide +kernel
theorem dX9_spreads_51 : decode cX9_spreads 51 = .ok (.irem, 1) := by decide +kernel
theorem dX9_spreads_52 : decode cX9_spreads 52 = .ok (.istore 7, 2) := by decide +kernel
theorem dX9_spreads_54 : decode cX9_spreads 54 = .ok (.aload_n 0, 1) := by decide +kernel
theorem dX9_spreads_55 : decode cX9_spreads 55 = .ok (.getfield 22, 3) := by decide +kernel
theorem dX9_spreads_58 : decode cX9_spreads 58 = .ok (.aload_n 0, 1) := by decide +kernel
theorem dX9_spreads_59 : decode cX9_spreads 59 = .ok (.getfield 152, 3) := by decide +kernel
theorem dX9_spreads_62 : decode cX9_spreads 62 = .ok (.iaload, 1) := by decide +kernel
theorem dX9_spreads_63 : decode cX9_spreads 63 = .ok (.bipush 32, 2) := by decide +kernel
theorem dX9_spreads_65 : decode cX9_spreads 65 = .ok (.idiv, 1) := by decide +kernel
theorem dX9_spreads_66 : decode cX9_spreads 66 = .ok (.istore 8, 2) := by decide +kernel
theorem dX9_spreads_68 : decode cX9_spreads 68 = .ok (.iinc 6 1, 3) := by decide +kernel
theorem dX9_spreads_71 : decode cX9_spreads 71 = .ok (.iconst 0, 1) := by decide +kernel
theorem dX9_spreads_72 : decode cX9_spreads 72 = .ok (.istore 9, 2) := by decide +kernel
theorem dX9_spreads_74 : decode cX9_spreads 74 = .ok (.iload 9, 2) := by decide +kernel
theorem dX9_spreads_76 : decode cX9_spreads 76 = .ok (.iconst 4, 1) := by decide +kernel
theorem dX9_spreads_77 : decode cX9_spreads 77 = .ok (.if_icmp .ge 136, 3) := by decide +kernel
theorem dX9_spreads_80 : decode cX9_spreads 80 = .ok (.iload 7, 2) := by decide +kernel
theorem dX9_spreads_82 : decode cX9_spreads 82 = .ok (.iload 9, 2) := by decide +kernel
theorem dX9_spreads_84 : decode cX9_spreads 84 = .ok (.ifCond .ne 7, 3) := by decide +kernel
theorem dX9_spreads_87 : decode cX9_spreads 87 = .ok (.iconst 1, 1) := by decide +kernel
theorem dX9_spreads_88 : decode cX9_spreads 88 = .ok (.goto 14, 3) := by decide +kernel
theorem dX9_spreads_91 : decode cX9_spreads 91 = .ok (.iload 9, 2) := by decide +kernel
theorem dX9_spreads_93 : decode cX9_spreads 93 = .ok (.iconst 1, 1) := by decide +kernel
theorem dX9_spreads_94 : decode cX9_spreads 94 = .ok (.if_icmp .ne 7, 3) := by decide +kernel
theorem dX9_spreads_97 : decode cX9_spreads 97 = .ok (.iconst (-1), 1) := by decide +kernel
theorem dX9_spreads_98 : decode cX9_spreads 98 = .ok (.goto 4, 3) := by decide +kernel
theorem dX9_spreads_101 : decode cX9_spreads 101 = .ok (.iconst 0, 1) := by decide +kernel
theorem dX9_spreads_102 : decode cX9_spreads 102 = .ok (.iadd, 1) := by decide +kernel
theorem dX9_spreads_103 : decode cX9_spreads 103 = .ok (.istore 10, 2) := by decide +kernel
theorem dX9_spreads_105 : decode cX9_spreads 105 = .ok (.iload 8, 2) := by decide +kernel
theorem dX9_spreads_107 : decode cX9_spreads 107 = .ok (.iload 9, 2) := by decide +kernel
theorem dX9_spreads_109 : decode cX9_spreads 109 = .ok (.iconst 2, 1) := by decide +kernel
theorem dX9_spreads_110 : decode cX9_spreads 110 = .ok (.if_icmp .ne 7, 3) := by decide +kernel
theorem dX9_spreads_113 : decode cX9_spreads 113 = .ok (.iconst 1, 1) := by decide +kernel
theorem dX9_spreads_114 : decode cX9_spreads 114 = .ok (.goto 14, 3) := by decide +kernel
theorem dX9_spreads_117 : decode cX9_spreads 117 = .ok (.iload 9, 2) := by decide +kernel
theorem dX9_spreads_119 : decode cX9_spreads 119 = .ok (.iconst 3, 1) := by decide +kernel
theorem dX9_spreads_120 : decode cX9_spreads 120 = .ok (.if_icmp .ne 7, 3) := by decide +kernel
theorem dX9_spreads_123 : decode cX9_spreads 123 = .ok (.iconst (-1), 1) := by decide +kernel
theorem dX9_spreads_124 : decode cX9_spreads 124 = .ok (.goto 4, 3) := by decide +kernel
theorem dX9_spreads_127 : decode cX9_spreads 127 = .ok (.iconst 0, 1) := by decide +kernel
theorem dX9_spreads_128 : decode cX9_spreads 128 = .ok (.iadd, 1) := by decide +kernel
theorem dX9_spreads_129 : decode cX9_spreads 129 = .ok (.istore 11, 2) := by decide +kernel
theorem dX9_spreads_131 : decode cX9_spreads 131 = .ok (.iload 10, 2) := by decide +kernel
theorem dX9_spreads_133 : decode cX9_spreads 133 = .ok (.iload 11, 2) := by decide +kernel
theorem dX9_spreads_135 : decode cX9_spreads 135 = .ok (.invokestatic 57, 3) := by decide +kernel
theorem dX9_spreads_138 : decode cX9_spreads 138 = .ok (.ifCond .eq 37, 3) := by decide +kernel
theorem dX9_spreads_141 : decode cX9_spreads 141 = .ok (.aload_n 0, 1) := by decide +kernel
theorem dX9_spreads_142 : decode cX9_spreads 142 = .ok (.getfield 25, 3) := by decide +kernel
theorem dX9_spreads_145 : decode cX9_spreads 145 = .ok (.bipush 32, 2) := by decide +kernel
theorem dX9_spreads_147 : decode cX9_spreads 147 = .ok (.iload 11, 2) := by decide +kernel
theorem dX9_spreads_149 : decode cX9_spreads 149 = .ok (.imul, 1) := by decide +kernel
theorem dX9_spreads_150 : decode cX9_spreads 150 = .ok (.iload 10, 2) := by decide +kernel
theorem dX9_spreads_152 : decode cX9_spreads 152 = .ok (.iadd, 1) := by decide +kernel
theorem dX9_spreads_153 : decode cX9_spreads 153 = .ok (.baload, 1) := by decide +kernel
theorem dX9_spreads_154 : decode cX9_spreads 154 = .ok (.ifCond .ne 21, 3) := by decide +kernel
theorem dX9_spreads_157 : decode cX9_spreads 157 = .ok (.aload_n 0, 1) := by decide +kernel
theorem dX9_spreads_158 : decode cX9_spreads 158 = .ok (.iload_n 1, 1) := by decide +kernel
theorem dX9_spreads_159 : decode cX9_spreads 159 = .ok (.iload 10, 2) := by decide +kernel
theorem dX9_spreads_161 : decode cX9_spreads 161 = .ok (.iload 11, 2) := by decide +kernel
theorem dX9_spreads_163 : decode cX9_spreads 163 = .ok (.invokevirtual 65, 3) := by decide +kernel
theorem dX9_spreads_166 : decode cX9_spreads 166 = .ok (.iload 5, 2) := by decide +kernel
theorem dX9_spreads_168 : decode cX9_spreads 168 = .ok (.if_icmp .ne 7, 3) := by decide +kernel
theorem dX9_spreads_171 : decode cX9_spreads 171 = .ok (.iconst 1, 1) := by decide +kernel
theorem dX9_spreads_172 : decode cX9_spreads 172 = .ok (.goto 4, 3) := by decide +kernel
theorem dX9_spreads_175 : decode cX9_spreads 175 = .ok (.iconst 0, 1) := by decide +kernel
theorem dX9_spreads_176 : decode cX9_spreads 176 = .ok (.istore 12, 2) := by decide +kernel
theorem dX9_spreads_178 : decode cX9_spreads 178 = .ok (.iload 12, 2) := by decide +kernel
theorem dX9_spreads_180 : decode cX9_spreads 180 = .ok (.ifCond .eq 27, 3) := by decide +kernel
theorem dX9_spreads_183 : decode cX9_spreads 183 = .ok (.iload 4, 2) := by decide +kernel
theorem dX9_spreads_185 : decode cX9_spreads 185 = .ok (.ifCond .eq 14, 3) := by decide +kernel
theorem dX9_spreads_188 : decode cX9_spreads 188 = .ok (.aload_n 0, 1) := by decide +kernel
theorem dX9_spreads_189 : decode cX9_spreads 189 = .ok (.iload 10, 2) := by decide +kernel
theorem dX9_spreads_191 : decode cX9_spreads 191 = .ok (.iload 11, 2) := by decide +kernel
theorem dX9_spreads_193 : decode cX9_spreads 193 = .ok (.invokevirtual 69, 3) := by decide +kernel
theorem dX9_spreads_196 : decode cX9_spreads 196 = .ok (.ifCond .eq 11, 3) := by decide +kernel
theorem dX9_spreads_199 : decode cX9_spreads 199 = .ok (.aload_n 0, 1) := by decide +kernel
theorem dX9_spreads_200 : decode cX9_spreads 200 = .ok (.iload 10, 2) := by decide +kernel
theorem dX9_spreads_202 : decode cX9_spreads 202 = .ok (.iload 11, 2) := by decide +kernel
theorem dX9_spreads_204 : decode cX9_spreads 204 = .ok (.invokevirtual 155, 3) := by decide +kernel
theorem dX9_spreads_207 : decode cX9_spreads 207 = .ok (.iinc 9 1, 3) := by decide +kernel
theorem dX9_spreads_210 : decode cX9_spreads 210 = .ok (.goto (-136), 3) := by decide +kernel
theorem dX9_spreads_213 : decode cX9_spreads 213 = .ok (.goto (-190), 3) := by decide +kernel
theorem dX9_spreads_216 : decode cX9_spreads 216 = .ok (.iload 6, 2) := by decide +kernel
theorem dX9_spreads_218 : decode cX9_spreads 218 = .ok (.ireturn, 1) := by decide +kernel
theorem dX9_noneCame_0 : decode cX9_noneCame 0 = .ok (.iconst 0, 1) := by decide +kernel
theorem dX9_noneCame_1 : decode cX9_noneCame 1 = .ok (.istore_n 1, 1) := by decide +kernel
theorem dX9_noneCame_2 : decode cX9_noneCame 2 = .ok (.iload_n 1, 1) := by decide +kernel
theorem dX9_noneCame_3 : decode cX9_noneCame 3 = .ok (.sipush 768, 3) := by decide +kernel
theorem dX9_noneCame_6 : decode cX9_noneCame 6 = .ok (.if_icmp .ge 16, 3) := by decide +kernel
theorem dX9_noneCame_9 : decode cX9_noneCame 9 = .ok (.aload_n 0, 1) := by decide +kernel
theorem dX9_noneCame_10 : decode cX9_noneCame 10 = .ok (.getfield 25, 3) := by decide +kernel
theorem dX9_noneCame_13 : decode cX9_noneCame 13 = .ok (.iload_n 1, 1) := by decide +kernel
theorem dX9_noneCame_14 : decode cX9_noneCame 14 = .ok (.iconst 0, 1) := by decide +kernel
theorem dX9_noneCame_15 : decode cX9_noneCame 15 = .ok (.bastore, 1) := by decide +kernel
theorem dX9_noneCame_16 : decode cX9_noneCame 16 = .ok (.iinc 1 1, 3) := by decide +kernel
theorem dX9_noneCame_19 : decode cX9_noneCame 19 = .ok (.goto (-17), 3) := by decide +kernel
theorem dX9_noneCame_22 : decode cX9_noneCame 22 = .ok (.return_, 1) := by decide +kernel
theorem dX9_mayFlood_0 : decode cX9_mayFlood 0 = .ok (.iload_n 1, 1) := by decide +kernel
theorem dX9_mayFlood_1 : decode cX9_mayFlood 1 = .ok (.iload_n 2, 1) := by decide +kernel
theorem dX9_mayFlood_2 : decode cX9_mayFlood 2 = .ok (.invokestatic 57, 3) := by decide +kernel
theorem dX9_mayFlood_5 : decode cX9_mayFlood 5 = .ok (.ifCond .eq 16, 3) := by decide +kernel
theorem dX9_mayFlood_8 : decode cX9_mayFlood 8 = .ok (.aload_n 0, 1) := by decide +kernel
theorem dX9_mayFlood_9 : decode cX9_mayFlood 9 = .ok (.iload_n 1, 1) := by decide +kernel
theorem dX9_mayFlood_10 : decode cX9_mayFlood 10 = .ok (.iload_n 2, 1) := by decide +kernel
theorem dX9_mayFlood_11 : decode cX9_mayFlood 11 = .ok (.invokevirtual 69, 3) := by decide +kernel
theorem dX9_mayFlood_14 : decode cX9_mayFlood 14 = .ok (.ifCond .eq 7, 3) := by decide +kernel
theorem dX9_mayFlood_17 : decode cX9_mayFlood 17 = .ok (.iconst 1, 1) := by decide +kernel
theorem dX9_mayFlood_18 : decode cX9_mayFlood 18 = .ok (.goto 4, 3) := by decide +kernel
theorem dX9_mayFlood_21 : decode cX9_mayFlood 21 = .ok (.iconst 0, 1) := by decide +kernel
theorem dX9_mayFlood_22 : decode cX9_mayFlood 22 = .ok (.ireturn, 1) := by decide +kernel
theorem dX9_floods_0 : decode cX9_floods 0 = .ok (.aload_n 0, 1) := by decide +kernel
theorem dX9_floods_1 : decode cX9_floods 1 = .ok (.invokevirtual 159, 3) := by decide +kernel
theorem dX9_floods_4 : decode cX9_floods 4 = .ok (.aload_n 0, 1) := by decide +kernel
theorem dX9_floods_5 : decode cX9_floods 5 = .ok (.iload_n 1, 1) := by decide +kernel
theorem dX9_floods_6 : decode cX9_floods 6 = .ok (.iload_n 2, 1) := by decide +kernel
theorem dX9_floods_7 : decode cX9_floods 7 = .ok (.iload_n 3, 1) := by decide +kernel
theorem dX9_floods_8 : decode cX9_floods 8 = .ok (.iconst 1, 1) := by decide +kernel
theorem dX9_floods_9 : decode cX9_floods 9 = .ok (.invokevirtual 162, 3) := by decide +kernel
theorem dX9_floods_12 : decode cX9_floods 12 = .ok (.istore 4, 2) := by decide +kernel
theorem dX9_floods_14 : decode cX9_floods 14 = .ok (.iconst 1, 1) := by decide +kernel
theorem dX9_floods_15 : decode cX9_floods 15 = .ok (.aload_n 0, 1) := by decide +kernel
theorem dX9_floods_16 : decode cX9_floods 16 = .ok (.iload_n 1, 1) := by decide +kernel
theorem dX9_floods_17 : decode cX9_floods 17 = .ok (.iload_n 2, 1) := by decide +kernel
theorem dX9_floods_18 : decode cX9_floods 18 = .ok (.iload_n 3, 1) := by decide +kernel
theorem dX9_floods_19 : decode cX9_floods 19 = .ok (.invokevirtual 65, 3) := by decide +kernel
theorem dX9_floods_22 : decode cX9_floods 22 = .ok (.isub, 1) := by decide +kernel
theorem dX9_floods_23 : decode cX9_floods 23 = .ok (.istore 5, 2) := by decide +kernel
theorem dX9_floods_25 : decode cX9_floods 25 = .ok (.iconst 0, 1) := by decide +kernel
theorem dX9_floods_26 : decode cX9_floods 26 = .ok (.istore 6, 2) := by decide +kernel
theorem dX9_floods_28 : decode cX9_floods 28 = .ok (.iload 6, 2) := by decide +kernel
theorem dX9_floods_30 : decode cX9_floods 30 = .ok (.sipush 768, 3) := by decide +kernel
theorem dX9_floods_33 : decode cX9_floods 33 = .ok (.if_icmp .ge 38, 3) := by decide +kernel
theorem dX9_floods_36 : decode cX9_floods 36 = .ok (.aload_n 0, 1) := by decide +kernel
theorem dX9_floods_37 : decode cX9_floods 37 = .ok (.getfield 25, 3) := by decide +kernel
theorem dX9_floods_40 : decode cX9_floods 40 = .ok (.iload 6, 2) := by decide +kernel
theorem dX9_floods_42 : decode cX9_floods 42 = .ok (.baload, 1) := by decide +kernel
theorem dX9_floods_43 : decode cX9_floods 43 = .ok (.ifCond .eq 22, 3) := by decide +kernel
theorem dX9_floods_46 : decode cX9_floods 46 = .ok (.aload_n 0, 1) := by decide +kernel
theorem dX9_floods_47 : decode cX9_floods 47 = .ok (.iload_n 1, 1) := by decide +kernel
theorem dX9_floods_48 : decode cX9_floods 48 = .ok (.iload 6, 2) := by decide +kernel
theorem dX9_floods_50 : decode cX9_floods 50 = .ok (.bipush 32, 2) := by decide +kernel
theorem dX9_floods_52 : decode cX9_floods 52 = .ok (.irem, 1) := by decide +kernel
theorem dX9_floods_53 : decode cX9_floods 53 = .ok (.iload 6, 2) := by decide +kernel
theorem dX9_floods_55 : decode cX9_floods 55 = .ok (.bipush 32, 2) := by decide +kernel
theorem dX9_floods_57 : decode cX9_floods 57 = .ok (.idiv, 1) := by decide +kernel
theorem dX9_floods_58 : decode cX9_floods 58 = .ok (.iload 5, 2) := by decide +kernel
theorem dX9_floods_60 : decode cX9_floods 60 = .ok (.invokevirtual 75, 3) := by decide +kernel
theorem dX9_floods_63 : decode cX9_floods 63 = .ok (.istore 7, 2) := by decide +kernel
theorem dX9_floods_65 : decode cX9_floods 65 = .ok (.iinc 6 1, 3) := by decide +kernel
theorem dX9_floods_68 : decode cX9_floods 68 = .ok (.goto (-40), 3) := by decide +kernel
theorem dX9_floods_71 : decode cX9_floods 71 = .ok (.iload 4, 2) := by decide +kernel
theorem dX9_floods_73 : decode cX9_floods 73 = .ok (.ireturn, 1) := by decide +kernel
theorem dX9_flood_0 : decode cX9_flood 0 = .ok (.iload_n 1, 1) := by decide +kernel
theorem dX9_flood_1 : decode cX9_flood 1 = .ok (.invokestatic 79, 3) := by decide +kernel
theorem dX9_flood_4 : decode cX9_flood 4 = .ok (.ifCond .eq 11, 3) := by decide +kernel
theorem dX9_flood_7 : decode cX9_flood 7 = .ok (.iload_n 2, 1) := by decide +kernel
theorem dX9_flood_8 : decode cX9_flood 8 = .ok (.iload_n 3, 1) := by decide +kernel
theorem dX9_flood_9 : decode cX9_flood 9 = .ok (.invokestatic 107, 3) := by decide +kernel
theorem dX9_flood_12 : decode cX9_flood 12 = .ok (.ifCond .ne 10, 3) := by decide +kernel
theorem dX9_flood_15 : decode cX9_flood 15 = .ok (.aload_n 0, 1) := by decide +kernel
theorem dX9_flood_16 : decode cX9_flood 16 = .ok (.bipush (-2), 2) := by decide +kernel
theorem dX9_flood_18 : decode cX9_flood 18 = .ok (.invokevirtual 83, 3) := by decide +kernel
theorem dX9_flood_21 : decode cX9_flood 21 = .ok (.ireturn, 1) := by decide +kernel
theorem dX9_flood_22 : decode cX9_flood 22 = .ok (.aload_n 0, 1) := by decide +kernel
theorem dX9_flood_23 : decode cX9_flood 23 = .ok (.iload_n 2, 1) := by decide +kernel
theorem dX9_flood_24 : decode cX9_flood 24 = .ok (.iload_n 3, 1) := by decide +kernel
theorem dX9_flood_25 : decode cX9_flood 25 = .ok (.invokevirtual 166, 3) := by decide +kernel
theorem dX9_flood_28 : decode cX9_flood 28 = .ok (.ifCond .ne 8, 3) := by decide +kernel
theorem dX9_flood_31 : decode cX9_flood 31 = .ok (.aload_n 0, 1) := by decide +kernel
theorem dX9_flood_32 : decode cX9_flood 32 = .ok (.invokevirtual 169, 3) := by decide +kernel
theorem dX9_flood_35 : decode cX9_flood 35 = .ok (.ireturn, 1) := by decide +kernel
theorem dX9_flood_36 : decode cX9_flood 36 = .ok (.aload_n 0, 1) := by decide +kernel
theorem dX9_flood_37 : decode cX9_flood 37 = .ok (.invokevirtual 87, 3) := by decide +kernel
theorem dX9_flood_40 : decode cX9_flood 40 = .ok (.aload_n 0, 1) := by decide +kernel
theorem dX9_flood_41 : decode cX9_flood 41 = .ok (.iload_n 1, 1) := by decide +kernel
theorem dX9_flood_42 : decode cX9_flood 42 = .ok (.iload_n 2, 1) := by decide +kernel
theorem dX9_flood_43 : decode cX9_flood 43 = .ok (.iload_n 3, 1) := by decide +kernel
theorem dX9_flood_44 : decode cX9_flood 44 = .ok (.invokevirtual 172, 3) := by decide +kernel
theorem dX9_flood_47 : decode cX9_flood 47 = .ok (.ireturn, 1) := by decide +kernel
theorem dX9_rectangles_0 : decode cX9_rectangles 0 = .ok (.iconst 0, 1) := by decide +kernel
theorem dX9_rectangles_1 : decode cX9_rectangles 1 = .ok (.istore 7, 2) := by decide +kernel
theorem dX9_rectangles_3 : decode cX9_rectangles 3 = .ok (.iconst 0, 1) := by decide +kernel
theorem dX9_rectangles_4 : decode cX9_rectangles 4 = .ok (.istore 8, 2) := by decide +kernel
theorem dX9_rectangles_6 : decode cX9_rectangles 6 = .ok (.iload 8, 2) := by decide +kernel
theorem dX9_rectangles_8 : decode cX9_rectangles 8 = .ok (.iload 5, 2) := by decide +kernel
theorem dX9_rectangles_10 : decode cX9_rectangles 10 = .ok (.if_icmp .ge 46, 3) := by decide +kernel
theorem dX9_rectangles_13 : decode cX9_rectangles 13 = .ok (.iconst 0, 1) := by decide +kernel
theorem dX9_rectangles_14 : decode cX9_rectangles 14 = .ok (.istore 9, 2) := by decide +kernel
theorem dX9_rectangles_16 : decode cX9_rectangles 16 = .ok (.iload 9, 2) := by decide +kernel
theorem dX9_rectangles_18 : decode cX9_rectangles 18 = .ok (.iload 4, 2) := by decide +kernel
theorem dX9_rectangles_20 : decode cX9_rectangles 20 = .ok (.if_icmp .ge 30, 3) := by decide +kernel
theorem dX9_rectangles_23 : decode cX9_rectangles 23 = .ok (.iload 7, 2) := by decide +kernel
theorem dX9_rectangles_25 : decode cX9_rectangles 25 = .ok (.aload_n 0, 1) := by decide +kernel
theorem dX9_rectangles_26 : decode cX9_rectangles 26 = .ok (.iload_n 1, 1) := by decide +kernel
theorem dX9_rectangles_27 : decode cX9_rectangles 27 = .ok (.iload_n 2, 1) := by decide +kernel
theorem dX9_rectangles_28 : decode cX9_rectangles 28 = .ok (.iload 9, 2) := by decide +kernel
theorem dX9_rectangles_30 : decode cX9_rectangles 30 = .ok (.iadd, 1) := by decide +kernel
theorem dX9_rectangles_31 : decode cX9_rectangles 31 = .ok (.iload_n 3, 1) := by decide +kernel
theorem dX9_rectangles_32 : decode cX9_rectangles 32 = .ok (.iload 8, 2) := by decide +kernel
theorem dX9_rectangles_34 : decode cX9_rectangles 34 = .ok (.iadd, 1) := by decide +kernel
theorem dX9_rectangles_35 : decode cX9_rectangles 35 = .ok (.iconst 1, 1) := by decide +kernel
theorem dX9_rectangles_36 : decode cX9_rectangles 36 = .ok (.iload 6, 2) := by decide +kernel
theorem dX9_rectangles_38 : decode cX9_rectangles 38 = .ok (.invokevirtual 131, 3) := by decide +kernel
theorem dX9_rectangles_41 : decode cX9_rectangles 41 = .ok (.iadd, 1) := by decide +kernel
theorem dX9_rectangles_42 : decode cX9_rectangles 42 = .ok (.istore 7, 2) := by decide +kernel
theorem dX9_rectangles_44 : decode cX9_rectangles 44 = .ok (.iinc 9 1, 3) := by decide +kernel
theorem dX9_rectangles_47 : decode cX9_rectangles 47 = .ok (.goto (-31), 3) := by decide +kernel
theorem dX9_rectangles_50 : decode cX9_rectangles 50 = .ok (.iinc 8 1, 3) := by decide +kernel
theorem dX9_rectangles_53 : decode cX9_rectangles 53 = .ok (.goto (-47), 3) := by decide +kernel
theorem dX9_rectangles_56 : decode cX9_rectangles 56 = .ok (.iload 7, 2) := by decide +kernel
theorem dX9_rectangles_58 : decode cX9_rectangles 58 = .ok (.ireturn, 1) := by decide +kernel
theorem dX9_rectangle_0 : decode cX9_rectangle 0 = .ok (.iload_n 1, 1) := by decide +kernel
theorem dX9_rectangle_1 : decode cX9_rectangle 1 = .ok (.invokestatic 79, 3) := by decide +kernel
theorem dX9_rectangle_4 : decode cX9_rectangle 4 = .ok (.ifCond .eq 29, 3) := by decide +kernel
theorem dX9_rectangle_7 : decode cX9_rectangle 7 = .ok (.iload_n 2, 1) := by decide +kernel
theorem dX9_rectangle_8 : decode cX9_rectangle 8 = .ok (.iload_n 3, 1) := by decide +kernel
theorem dX9_rectangle_9 : decode cX9_rectangle 9 = .ok (.invokestatic 107, 3) := by decide +kernel
theorem dX9_rectangle_12 : decode cX9_rectangle 12 = .ok (.ifCond .eq 21, 3) := by decide +kernel
theorem dX9_rectangle_15 : decode cX9_rectangle 15 = .ok (.iload 4, 2) := by decide +kernel
theorem dX9_rectangle_17 : decode cX9_rectangle 17 = .ok (.iload 5, 2) := by decide +kernel
theorem dX9_rectangle_19 : decode cX9_rectangle 19 = .ok (.invokestatic 110, 3) := by decide +kernel
theorem dX9_rectangle_22 : decode cX9_rectangle 22 = .ok (.ifCond .eq 11, 3) := by decide +kernel
theorem dX9_rectangle_25 : decode cX9_rectangle 25 = .ok (.iload 6, 2) := by decide +kernel
theorem dX9_rectangle_27 : decode cX9_rectangle 27 = .ok (.invokestatic 135, 3) := by decide +kernel
theorem dX9_rectangle_30 : decode cX9_rectangle 30 = .ok (.ifCond .ne 10, 3) := by decide +kernel
theorem dX9_rectangle_33 : decode cX9_rectangle 33 = .ok (.aload_n 0, 1) := by decide +kernel
theorem dX9_rectangle_34 : decode cX9_rectangle 34 = .ok (.bipush (-2), 2) := by decide +kernel
theorem dX9_rectangle_36 : decode cX9_rectangle 36 = .ok (.invokevirtual 83, 3) := by decide +kernel
theorem dX9_rectangle_39 : decode cX9_rectangle 39 = .ok (.ireturn, 1) := by decide +kernel
theorem dX9_rectangle_40 : decode cX9_rectangle 40 = .ok (.aload_n 0, 1) := by decide +kernel
theorem dX9_rectangle_41 : decode cX9_rectangle 41 = .ok (.invokevirtual 87, 3) := by decide +kernel
theorem dX9_rectangle_44 : decode cX9_rectangle 44 = .ok (.aload_n 0, 1) := by decide +kernel
theorem dX9_rectangle_45 : decode cX9_rectangle 45 = .ok (.iload_n 1, 1) := by decide +kernel
theorem dX9_rectangle_46 : decode cX9_rectangle 46 = .ok (.iload_n 2, 1) := by decide +kernel
theorem dX9_rectangle_47 : decode cX9_rectangle 47 = .ok (.iload_n 3, 1) := by decide +kernel
theorem dX9_rectangle_48 : decode cX9_rectangle 48 = .ok (.iload 4, 2) := by decide +kernel
theorem dX9_rectangle_50 : decode cX9_rectangle 50 = .ok (.iload 5, 2) := by decide +kernel
theorem dX9_rectangle_52 : decode cX9_rectangle 52 = .ok (.iload 6, 2) := by decide +kernel
theorem dX9_rectangle_54 : decode cX9_rectangle 54 = .ok (.invokevirtual 175, 3) := by decide +kernel
theorem dX9_rectangle_57 : decode cX9_rectangle 57 = .ok (.ireturn, 1) := by decide +kernel
theorem dX9_letters_0 : decode cX9_letters 0 = .ok (.iconst 0, 1) := by decide +kernel
theorem dX9_letters_1 : decode cX9_letters 1 = .ok (.istore 6, 2) := by decide +kernel
theorem dX9_letters_3 : decode cX9_letters 3 = .ok (.iconst 0, 1) := by decide +kernel
theorem dX9_letters_4 : decode cX9_letters 4 = .ok (.istore 7, 2) := by decide +kernel
theorem dX9_letters_6 : decode cX9_letters 6 = .ok (.iload 7, 2) := by decide +kernel
theorem dX9_letters_8 : decode cX9_letters 8 = .ok (.iconst 4, 1) := by decide +kernel
theorem dX9_letters_9 : decode cX9_letters 9 = .ok (.if_icmp .ge 71, 3) := by decide +kernel
theorem dX9_letters_12 : decode cX9_letters 12 = .ok (.iconst 5, 1) := by decide +kernel
theorem dX9_letters_13 : decode cX9_letters 13 = .ok (.iload_n 2, 1) := by decide +kernel
theorem dX9_letters_14 : decode cX9_letters 14 = .ok (.imul, 1) := by decide +kernel
theorem dX9_letters_15 : decode cX9_letters 15 = .ok (.iconst 3, 1) := by decide +kernel
theorem dX9_letters_16 : decode cX9_letters 16 = .ok (.iload 7, 2) := by decide +kernel
theorem dX9_letters_18 : decode cX9_letters 18 = .ok (.imul, 1) := by decide +kernel
theorem dX9_letters_19 : decode cX9_letters 19 = .ok (.iadd, 1) := by decide +kernel
theorem dX9_letters_20 : decode cX9_letters 20 = .ok (.iload_n 2, 1) := by decide +kernel
theorem dX9_letters_21 : decode cX9_letters 21 = .ok (.iconst 3, 1) := by decide +kernel
theorem dX9_letters_22 : decode cX9_letters 22 = .ok (.idiv, 1) := by decide +kernel
theorem dX9_letters_23 : decode cX9_letters 23 = .ok (.iadd, 1) := by decide +kernel
theorem dX9_letters_24 : decode cX9_letters 24 = .ok (.bipush 16, 2) := by decide +kernel
theorem dX9_letters_26 : decode cX9_letters 26 = .ok (.irem, 1) := by decide +kernel
theorem dX9_letters_27 : decode cX9_letters 27 = .ok (.istore 8, 2) := by decide +kernel
theorem dX9_letters_29 : decode cX9_letters 29 = .ok (.iconst 0, 1) := by decide +kernel
theorem dX9_letters_30 : decode cX9_letters 30 = .ok (.istore 9, 2) := by decide +kernel
theorem dX9_letters_32 : decode cX9_letters 32 = .ok (.iload 9, 2) := by decide +kernel
theorem dX9_letters_34 : decode cX9_letters 34 = .ok (.iconst 4, 1) := by decide +kernel
theorem dX9_letters_35 : decode cX9_letters 35 = .ok (.if_icmp .ge 39, 3) := by decide +kernel
theorem dX9_letters_38 : decode cX9_letters 38 = .ok (.iload 6, 2) := by decide +kernel
theorem dX9_letters_40 : decode cX9_letters 40 = .ok (.aload_n 0, 1) := by decide +kernel
theorem dX9_letters_41 : decode cX9_letters 41 = .ok (.iload_n 1, 1) := by decide +kernel
theorem dX9_letters_42 : decode cX9_letters 42 = .ok (.iload_n 3, 1) := by decide +kernel
theorem dX9_letters_43 : decode cX9_letters 43 = .ok (.iload 9, 2) := by decide +kernel
theorem dX9_letters_45 : decode cX9_letters 45 = .ok (.iadd, 1) := by decide +kernel
theorem dX9_letters_46 : decode cX9_letters 46 = .ok (.iload 4, 2) := by decide +kernel
theorem dX9_letters_48 : decode cX9_letters 48 = .ok (.iload 7, 2) := by decide +kernel
theorem dX9_letters_50 : decode cX9_letters 50 = .ok (.iadd, 1) := by decide +kernel
theorem dX9_letters_51 : decode cX9_letters 51 = .ok (.iload 8, 2) := by decide +kernel
theorem dX9_letters_53 : decode cX9_letters 53 = .ok (.iconst 3, 1) := by decide +kernel
theorem dX9_letters_54 : decode cX9_letters 54 = .ok (.iload 9, 2) := by decide +kernel
theorem dX9_letters_56 : decode cX9_letters 56 = .ok (.isub, 1) := by decide +kernel
theorem dX9_letters_57 : decode cX9_letters 57 = .ok (.ishr, 1) := by decide +kernel
theorem dX9_letters_58 : decode cX9_letters 58 = .ok (.iconst 1, 1) := by decide +kernel
theorem dX9_letters_59 : decode cX9_letters 59 = .ok (.iand, 1) := by decide +kernel
theorem dX9_letters_60 : decode cX9_letters 60 = .ok (.iload 5, 2) := by decide +kernel
theorem dX9_letters_62 : decode cX9_letters 62 = .ok (.invokevirtual 131, 3) := by decide +kernel
theorem dX9_letters_65 : decode cX9_letters 65 = .ok (.iadd, 1) := by decide +kernel
theorem dX9_letters_66 : decode cX9_letters 66 = .ok (.istore 6, 2) := by decide +kernel
theorem dX9_letters_68 : decode cX9_letters 68 = .ok (.iinc 9 1, 3) := by decide +kernel
theorem dX9_letters_71 : decode cX9_letters 71 = .ok (.goto (-39), 3) := by decide +kernel
theorem dX9_letters_74 : decode cX9_letters 74 = .ok (.iinc 7 1, 3) := by decide +kernel
theorem dX9_letters_77 : decode cX9_letters 77 = .ok (.goto (-71), 3) := by decide +kernel
theorem dX9_letters_80 : decode cX9_letters 80 = .ok (.iload 6, 2) := by decide +kernel
theorem dX9_letters_82 : decode cX9_letters 82 = .ok (.ireturn, 1) := by decide +kernel
theorem dX9_letter_0 : decode cX9_letter 0 = .ok (.iload_n 1, 1) := by decide +kernel
theorem dX9_letter_1 : decode cX9_letter 1 = .ok (.invokestatic 79, 3) := by decide +kernel
theorem dX9_letter_4 : decode cX9_letter 4 = .ok (.ifCond .eq 32, 3) := by decide +kernel
theorem dX9_letter_7 : decode cX9_letter 7 = .ok (.iload_n 2, 1) := by decide +kernel
theorem dX9_letter_8 : decode cX9_letter 8 = .ok (.i2l, 1) := by decide +kernel
theorem dX9_letter_9 : decode cX9_letter 9 = .ok (.lconst 0, 1) := by decide +kernel
theorem dX9_letter_10 : decode cX9_letter 10 = .ok (.ldc2_w 178, 3) := by decide +kernel
theorem dX9_letter_13 : decode cX9_letter 13 = .ok (.invokestatic 37, 3) := by decide +kernel
theorem dX9_letter_16 : decode cX9_letter 16 = .ok (.ifCond .eq 20, 3) := by decide +kernel
theorem dX9_letter_19 : decode cX9_letter 19 = .ok (.iload_n 3, 1) := by decide +kernel
theorem dX9_letter_20 : decode cX9_letter 20 = .ok (.iload 4, 2) := by decide +kernel
theorem dX9_letter_22 : decode cX9_letter 22 = .ok (.invokestatic 107, 3) := by decide +kernel
theorem dX9_letter_25 : decode cX9_letter 25 = .ok (.ifCond .eq 11, 3) := by decide +kernel
theorem dX9_letter_28 : decode cX9_letter 28 = .ok (.iload 5, 2) := by decide +kernel
theorem dX9_letter_30 : decode cX9_letter 30 = .ok (.invokestatic 135, 3) := by decide +kernel
theorem dX9_letter_33 : decode cX9_letter 33 = .ok (.ifCond .ne 10, 3) := by decide +kernel
theorem dX9_letter_36 : decode cX9_letter 36 = .ok (.aload_n 0, 1) := by decide +kernel
theorem dX9_letter_37 : decode cX9_letter 37 = .ok (.bipush (-2), 2) := by decide +kernel
theorem dX9_letter_39 : decode cX9_letter 39 = .ok (.invokevirtual 83, 3) := by decide +kernel
theorem dX9_letter_42 : decode cX9_letter 42 = .ok (.ireturn, 1) := by decide +kernel
theorem dX9_letter_43 : decode cX9_letter 43 = .ok (.aload_n 0, 1) := by decide +kernel
theorem dX9_letter_44 : decode cX9_letter 44 = .ok (.invokevirtual 87, 3) := by decide +kernel
theorem dX9_letter_47 : decode cX9_letter 47 = .ok (.aload_n 0, 1) := by decide +kernel
theorem dX9_letter_48 : decode cX9_letter 48 = .ok (.iload_n 1, 1) := by decide +kernel
theorem dX9_letter_49 : decode cX9_letter 49 = .ok (.iload_n 2, 1) := by decide +kernel
theorem dX9_letter_50 : decode cX9_letter 50 = .ok (.iload_n 3, 1) := by decide +kernel
theorem dX9_letter_51 : decode cX9_letter 51 = .ok (.iload 4, 2) := by decide +kernel
theorem dX9_letter_53 : decode cX9_letter 53 = .ok (.iload 5, 2) := by decide +kernel
theorem dX9_letter_55 : decode cX9_letter 55 = .ok (.invokevirtual 180, 3) := by decide +kernel
theorem dX9_letter_58 : decode cX9_letter 58 = .ok (.ireturn, 1) := by decide +kernel
theorem dX9_joins_0 : decode cX9_joins 0 = .ok (.iload_n 1, 1) := by decide +kernel
theorem dX9_joins_1 : decode cX9_joins 1 = .ok (.invokestatic 79, 3) := by decide +kernel
theorem dX9_joins_4 : decode cX9_joins 4 = .ok (.ifCond .eq 17, 3) := by decide +kernel
theorem dX9_joins_7 : decode cX9_joins 7 = .ok (.iload_n 2, 1) := by decide +kernel
theorem dX9_joins_8 : decode cX9_joins 8 = .ok (.invokestatic 79, 3) := by decide +kernel
theorem dX9_joins_11 : decode cX9_joins 11 = .ok (.ifCond .eq 10, 3) := by decide +kernel
theorem dX9_joins_14 : decode cX9_joins 14 = .ok (.iload_n 3, 1) := by decide +kernel
theorem dX9_joins_15 : decode cX9_joins 15 = .ok (.invokestatic 135, 3) := by decide +kernel
theorem dX9_joins_18 : decode cX9_joins 18 = .ok (.ifCond .ne 10, 3) := by decide +kernel
theorem dX9_joins_21 : decode cX9_joins 21 = .ok (.aload_n 0, 1) := by decide +kernel
theorem dX9_joins_22 : decode cX9_joins 22 = .ok (.bipush (-2), 2) := by decide +kernel
theorem dX9_joins_24 : decode cX9_joins 24 = .ok (.invokevirtual 83, 3) := by decide +kernel
theorem dX9_joins_27 : decode cX9_joins 27 = .ok (.ireturn, 1) := by decide +kernel
theorem dX9_joins_28 : decode cX9_joins 28 = .ok (.aload_n 0, 1) := by decide +kernel
theorem dX9_joins_29 : decode cX9_joins 29 = .ok (.invokevirtual 87, 3) := by decide +kernel
theorem dX9_joins_32 : decode cX9_joins 32 = .ok (.aload_n 0, 1) := by decide +kernel
theorem dX9_joins_33 : decode cX9_joins 33 = .ok (.iload_n 1, 1) := by decide +kernel
theorem dX9_joins_34 : decode cX9_joins 34 = .ok (.iconst 0, 1) := by decide +kernel
theorem dX9_joins_35 : decode cX9_joins 35 = .ok (.iconst 0, 1) := by decide +kernel
theorem dX9_joins_36 : decode cX9_joins 36 = .ok (.bipush 32, 2) := by decide +kernel
theorem dX9_joins_38 : decode cX9_joins 38 = .ok (.bipush 24, 2) := by decide +kernel
theorem dX9_joins_40 : decode cX9_joins 40 = .ok (.iload_n 2, 1) := by decide +kernel
theorem dX9_joins_41 : decode cX9_joins 41 = .ok (.iconst 0, 1) := by decide +kernel
theorem dX9_joins_42 : decode cX9_joins 42 = .ok (.iconst 0, 1) := by decide +kernel
theorem dX9_joins_43 : decode cX9_joins 43 = .ok (.iload_n 3, 1) := by decide +kernel
theorem dX9_joins_44 : decode cX9_joins 44 = .ok (.invokevirtual 138, 3) := by decide +kernel
theorem dX9_joins_47 : decode cX9_joins 47 = .ok (.ireturn, 1) := by decide +kernel
theorem dX9_sides_0 : decode cX9_sides 0 = .ok (.aload_n 0, 1) := by decide +kernel
theorem dX9_sides_1 : decode cX9_sides 1 = .ok (.iload_n 1, 1) := by decide +kernel
theorem dX9_sides_2 : decode cX9_sides 2 = .ok (.iload_n 2, 1) := by decide +kernel
theorem dX9_sides_3 : decode cX9_sides 3 = .ok (.iconst 1, 1) := by decide +kernel
theorem dX9_sides_4 : decode cX9_sides 4 = .ok (.iadd, 1) := by decide +kernel
theorem dX9_sides_5 : decode cX9_sides 5 = .ok (.iload_n 3, 1) := by decide +kernel
theorem dX9_sides_6 : decode cX9_sides 6 = .ok (.invokevirtual 128, 3) := by decide +kernel
theorem dX9_sides_9 : decode cX9_sides 9 = .ok (.aload_n 0, 1) := by decide +kernel
theorem dX9_sides_10 : decode cX9_sides 10 = .ok (.iload_n 1, 1) := by decide +kernel
theorem dX9_sides_11 : decode cX9_sides 11 = .ok (.iload_n 2, 1) := by decide +kernel
theorem dX9_sides_12 : decode cX9_sides 12 = .ok (.iconst 1, 1) := by decide +kernel
theorem dX9_sides_13 : decode cX9_sides 13 = .ok (.isub, 1) := by decide +kernel
theorem dX9_sides_14 : decode cX9_sides 14 = .ok (.iload_n 3, 1) := by decide +kernel
theorem dX9_sides_15 : decode cX9_sides 15 = .ok (.invokevirtual 128, 3) := by decide +kernel
theorem dX9_sides_18 : decode cX9_sides 18 = .ok (.iadd, 1) := by decide +kernel
theorem dX9_sides_19 : decode cX9_sides 19 = .ok (.aload_n 0, 1) := by decide +kernel
theorem dX9_sides_20 : decode cX9_sides 20 = .ok (.iload_n 1, 1) := by decide +kernel
theorem dX9_sides_21 : decode cX9_sides 21 = .ok (.iload_n 2, 1) := by decide +kernel
theorem dX9_sides_22 : decode cX9_sides 22 = .ok (.iload_n 3, 1) := by decide +kernel
theorem dX9_sides_23 : decode cX9_sides 23 = .ok (.iconst 1, 1) := by decide +kernel
theorem dX9_sides_24 : decode cX9_sides 24 = .ok (.iadd, 1) := by decide +kernel
theorem dX9_sides_25 : decode cX9_sides 25 = .ok (.invokevirtual 128, 3) := by decide +kernel
theorem dX9_sides_28 : decode cX9_sides 28 = .ok (.iadd, 1) := by decide +kernel
theorem dX9_sides_29 : decode cX9_sides 29 = .ok (.aload_n 0, 1) := by decide +kernel
theorem dX9_sides_30 : decode cX9_sides 30 = .ok (.iload_n 1, 1) := by decide +kernel
theorem dX9_sides_31 : decode cX9_sides 31 = .ok (.iload_n 2, 1) := by decide +kernel
theorem dX9_sides_32 : decode cX9_sides 32 = .ok (.iload_n 3, 1) := by decide +kernel
theorem dX9_sides_33 : decode cX9_sides 33 = .ok (.iconst 1, 1) := by decide +kernel
theorem dX9_sides_34 : decode cX9_sides 34 = .ok (.isub, 1) := by decide +kernel
theorem dX9_sides_35 : decode cX9_sides 35 = .ok (.invokevirtual 128, 3) := by decide +kernel
theorem dX9_sides_38 : decode cX9_sides 38 = .ok (.iadd, 1) := by decide +kernel
theorem dX9_sides_39 : decode cX9_sides 39 = .ok (.ireturn, 1) := by decide +kernel
theorem dX9_changed_0 : decode cX9_changed 0 = .ok (.aload_n 0, 1) := by decide +kernel
theorem dX9_changed_1 : decode cX9_changed 1 = .ok (.iload_n 1, 1) := by decide +kernel
theorem dX9_changed_2 : decode cX9_changed 2 = .ok (.iload_n 3, 1) := by decide +kernel
theorem dX9_changed_3 : decode cX9_changed 3 = .ok (.iload 4, 2) := by decide +kernel
theorem dX9_changed_5 : decode cX9_changed 5 = .ok (.invokevirtual 128, 3) := by decide +kernel
theorem dX9_changed_8 : decode cX9_changed 8 = .ok (.istore 5, 2) := by decide +kernel
theorem dX9_changed_10 : decode cX9_changed 10 = .ok (.aload_n 0, 1) := by decide +kernel
theorem dX9_changed_11 : decode cX9_changed 11 = .ok (.iload_n 1, 1) := by decide +kernel
theorem dX9_changed_12 : decode cX9_changed 12 = .ok (.iload_n 3, 1) := by decide +kernel
theorem dX9_changed_13 : decode cX9_changed 13 = .ok (.iload 4, 2) := by decide +kernel
theorem dX9_changed_15 : decode cX9_changed 15 = .ok (.invokevirtual 183, 3) := by decide +kernel
theorem dX9_changed_18 : decode cX9_changed 18 = .ok (.istore 6, 2) := by decide +kernel
theorem dX9_changed_20 : decode cX9_changed 20 = .ok (.iload_n 2, 1) := by decide +kernel
theorem dX9_changed_21 : decode cX9_changed 21 = .ok (.tableswitch 87 0 3 #[31, 43, 55, 69], 31) := by decide +kernel
theorem dX9_changed_52 : decode cX9_changed 52 = .ok (.aload_n 0, 1) := by decide +kernel
theorem dX9_changed_53 : decode cX9_changed 53 = .ok (.iload_n 1, 1) := by decide +kernel
theorem dX9_changed_54 : decode cX9_changed 54 = .ok (.bipush 31, 2) := by decide +kernel
theorem dX9_changed_56 : decode cX9_changed 56 = .ok (.iload_n 3, 1) := by decide +kernel
theorem dX9_changed_57 : decode cX9_changed 57 = .ok (.isub, 1) := by decide +kernel
theorem dX9_changed_58 : decode cX9_changed 58 = .ok (.iload 4, 2) := by decide +kernel
theorem dX9_changed_60 : decode cX9_changed 60 = .ok (.invokevirtual 128, 3) := by decide +kernel
theorem dX9_changed_63 : decode cX9_changed 63 = .ok (.ireturn, 1) := by decide +kernel
theorem dX9_changed_64 : decode cX9_changed 64 = .ok (.aload_n 0, 1) := by decide +kernel
theorem dX9_changed_65 : decode cX9_changed 65 = .ok (.iload_n 1, 1) := by decide +kernel
theorem dX9_changed_66 : decode cX9_changed 66 = .ok (.iload_n 3, 1) := by decide +kernel
theorem dX9_changed_67 : decode cX9_changed 67 = .ok (.bipush 23, 2) := by decide +kernel
theorem dX9_changed_69 : decode cX9_changed 69 = .ok (.iload 4, 2) := by decide +kernel
theorem dX9_changed_71 : decode cX9_changed 71 = .ok (.isub, 1) := by decide +kernel
theorem dX9_changed_72 : decode cX9_changed 72 = .ok (.invokevirtual 128, 3) := by decide +kernel
theorem dX9_changed_75 : decode cX9_changed 75 = .ok (.ireturn, 1) := by decide +kernel
theorem dX9_changed_76 : decode cX9_changed 76 = .ok (.iload 5, 2) := by decide +kernel
theorem dX9_changed_78 : decode cX9_changed 78 = .ok (.iload 6, 2) := by decide +kernel
theorem dX9_changed_80 : decode cX9_changed 80 = .ok (.iadd, 1) := by decide +kernel
theorem dX9_changed_81 : decode cX9_changed 81 = .ok (.ifCond .le 7, 3) := by decide +kernel
theorem dX9_changed_84 : decode cX9_changed 84 = .ok (.iconst 1, 1) := by decide +kernel
theorem dX9_changed_85 : decode cX9_changed 85 = .ok (.goto 4, 3) := by decide +kernel
theorem dX9_changed_88 : decode cX9_changed 88 = .ok (.iconst 0, 1) := by decide +kernel
theorem dX9_changed_89 : decode cX9_changed 89 = .ok (.ireturn, 1) := by decide +kernel
theorem dX9_changed_90 : decode cX9_changed 90 = .ok (.iload 5, 2) := by decide +kernel
theorem dX9_changed_92 : decode cX9_changed 92 = .ok (.iconst 1, 1) := by decide +kernel
theorem dX9_changed_93 : decode cX9_changed 93 = .ok (.if_icmp .ne 13, 3) := by decide +kernel
theorem dX9_changed_96 : decode cX9_changed 96 = .ok (.iload 6, 2) := by decide +kernel
theorem dX9_changed_98 : decode cX9_changed 98 = .ok (.iconst 4, 1) := by decide +kernel
theorem dX9_changed_99 : decode cX9_changed 99 = .ok (.if_icmp .ne 7, 3) := by decide +kernel
theorem dX9_changed_102 : decode cX9_changed 102 = .ok (.iconst 1, 1) := by decide +kernel
theorem dX9_changed_103 : decode cX9_changed 103 = .ok (.goto 4, 3) := by decide +kernel
theorem dX9_changed_106 : decode cX9_changed 106 = .ok (.iconst 0, 1) := by decide +kernel
theorem dX9_changed_107 : decode cX9_changed 107 = .ok (.ireturn, 1) := by decide +kernel
theorem dX9_changed_108 : decode cX9_changed 108 = .ok (.iload 5, 2) := by decide +kernel
theorem dX9_changed_110 : decode cX9_changed 110 = .ok (.iconst 1, 1) := by decide +kernel
theorem dX9_changed_111 : decode cX9_changed 111 = .ok (.if_icmp .ne 13, 3) := by decide +kernel
theorem dX9_changed_114 : decode cX9_changed 114 = .ok (.iload 6, 2) := by decide +kernel
theorem dX9_changed_116 : decode cX9_changed 116 = .ok (.iconst 4, 1) := by decide +kernel
theorem dX9_changed_117 : decode cX9_changed 117 = .ok (.if_icmp .ge 7, 3) := by decide +kernel
theorem dX9_changed_120 : decode cX9_changed 120 = .ok (.iconst 1, 1) := by decide +kernel
theorem dX9_changed_121 : decode cX9_changed 121 = .ok (.goto 4, 3) := by decide +kernel
theorem dX9_changed_124 : decode cX9_changed 124 = .ok (.iconst 0, 1) := by decide +kernel
theorem dX9_changed_125 : decode cX9_changed 125 = .ok (.ireturn, 1) := by decide +kernel
theorem dX9_changes_0 : decode cX9_changes 0 = .ok (.iload_n 1, 1) := by decide +kernel
theorem dX9_changes_1 : decode cX9_changes 1 = .ok (.invokestatic 79, 3) := by decide +kernel
theorem dX9_changes_4 : decode cX9_changes 4 = .ok (.ifCond .eq 15, 3) := by decide +kernel
theorem dX9_changes_7 : decode cX9_changes 7 = .ok (.iload_n 2, 1) := by decide +kernel
theorem dX9_changes_8 : decode cX9_changes 8 = .ok (.i2l, 1) := by decide +kernel
theorem dX9_changes_9 : decode cX9_changes 9 = .ok (.lconst 0, 1) := by decide +kernel
theorem dX9_changes_10 : decode cX9_changes 10 = .ok (.ldc2_w 186, 3) := by decide +kernel
theorem dX9_changes_13 : decode cX9_changes 13 = .ok (.invokestatic 37, 3) := by decide +kernel
theorem dX9_changes_16 : decode cX9_changes 16 = .ok (.ifCond .ne 10, 3) := by decide +kernel
theorem dX9_changes_19 : decode cX9_changes 19 = .ok (.aload_n 0, 1) := by decide +kernel
theorem dX9_changes_20 : decode cX9_changes 20 = .ok (.bipush (-2), 2) := by decide +kernel
theorem dX9_changes_22 : decode cX9_changes 22 = .ok (.invokevirtual 83, 3) := by decide +kernel
theorem dX9_changes_25 : decode cX9_changes 25 = .ok (.ireturn, 1) := by decide +kernel
theorem dX9_changes_26 : decode cX9_changes 26 = .ok (.iconst 0, 1) := by decide +kernel
theorem dX9_changes_27 : decode cX9_changes 27 = .ok (.istore_n 3, 1) := by decide +kernel
theorem dX9_changes_28 : decode cX9_changes 28 = .ok (.aload_n 0, 1) := by decide +kernel
theorem dX9_changes_29 : decode cX9_changes 29 = .ok (.invokevirtual 87, 3) := by decide +kernel
theorem dX9_changes_32 : decode cX9_changes 32 = .ok (.aload_n 0, 1) := by decide +kernel
theorem dX9_changes_33 : decode cX9_changes 33 = .ok (.aload_n 0, 1) := by decide +kernel
theorem dX9_changes_34 : decode cX9_changes 34 = .ok (.getfield 19, 3) := by decide +kernel
theorem dX9_changes_37 : decode cX9_changes 37 = .ok (.invokevirtual 124, 3) := by decide +kernel
theorem dX9_changes_40 : decode cX9_changes 40 = .ok (.iconst 0, 1) := by decide +kernel
theorem dX9_changes_41 : decode cX9_changes 41 = .ok (.istore 4, 2) := by decide +kernel
theorem dX9_changes_43 : decode cX9_changes 43 = .ok (.iload 4, 2) := by decide +kernel
theorem dX9_changes_45 : decode cX9_changes 45 = .ok (.bipush 24, 2) := by decide +kernel
theorem dX9_changes_47 : decode cX9_changes 47 = .ok (.if_icmp .ge 47, 3) := by decide +kernel
theorem dX9_changes_50 : decode cX9_changes 50 = .ok (.iconst 0, 1) := by decide +kernel
theorem dX9_changes_51 : decode cX9_changes 51 = .ok (.istore 5, 2) := by decide +kernel
theorem dX9_changes_53 : decode cX9_changes 53 = .ok (.iload 5, 2) := by decide +kernel
theorem dX9_changes_55 : decode cX9_changes 55 = .ok (.bipush 32, 2) := by decide +kernel
theorem dX9_changes_57 : decode cX9_changes 57 = .ok (.if_icmp .ge 31, 3) := by decide +kernel
theorem dX9_changes_60 : decode cX9_changes 60 = .ok (.iload_n 3, 1) := by decide +kernel
theorem dX9_changes_61 : decode cX9_changes 61 = .ok (.aload_n 0, 1) := by decide +kernel
theorem dX9_changes_62 : decode cX9_changes 62 = .ok (.iload_n 1, 1) := by decide +kernel
theorem dX9_changes_63 : decode cX9_changes 63 = .ok (.iload 5, 2) := by decide +kernel
theorem dX9_changes_65 : decode cX9_changes 65 = .ok (.iload 4, 2) := by decide +kernel
theorem dX9_changes_67 : decode cX9_changes 67 = .ok (.aload_n 0, 1) := by decide +kernel
theorem dX9_changes_68 : decode cX9_changes 68 = .ok (.iload_n 1, 1) := by decide +kernel
theorem dX9_changes_69 : decode cX9_changes 69 = .ok (.iload_n 2, 1) := by decide +kernel
theorem dX9_changes_70 : decode cX9_changes 70 = .ok (.iload 5, 2) := by decide +kernel
theorem dX9_changes_72 : decode cX9_changes 72 = .ok (.iload 4, 2) := by decide +kernel
theorem dX9_changes_74 : decode cX9_changes 74 = .ok (.invokevirtual 188, 3) := by decide +kernel
theorem dX9_changes_77 : decode cX9_changes 77 = .ok (.invokevirtual 75, 3) := by decide +kernel
theorem dX9_changes_80 : decode cX9_changes 80 = .ok (.iadd, 1) := by decide +kernel
theorem dX9_changes_81 : decode cX9_changes 81 = .ok (.istore_n 3, 1) := by decide +kernel
theorem dX9_changes_82 : decode cX9_changes 82 = .ok (.iinc 5 1, 3) := by decide +kernel
theorem dX9_changes_85 : decode cX9_changes 85 = .ok (.goto (-32), 3) := by decide +kernel
theorem dX9_changes_88 : decode cX9_changes 88 = .ok (.iinc 4 1, 3) := by decide +kernel
theorem dX9_changes_91 : decode cX9_changes 91 = .ok (.goto (-48), 3) := by decide +kernel
theorem dX9_changes_94 : decode cX9_changes 94 = .ok (.iload_n 3, 1) := by decide +kernel
theorem dX9_changes_95 : decode cX9_changes 95 = .ok (.ireturn, 1) := by decide +kernel
theorem dX9_rolls_0 : decode cX9_rolls 0 = .ok (.iload_n 1, 1) := by decide +kernel
theorem dX9_rolls_1 : decode cX9_rolls 1 = .ok (.invokestatic 79, 3) := by decide +kernel
theorem dX9_rolls_4 : decode cX9_rolls 4 = .ok (.ifCond .eq 31, 3) := by decide +kernel
theorem dX9_rolls_7 : decode cX9_rolls 7 = .ok (.iload_n 2, 1) := by decide +kernel
theorem dX9_rolls_8 : decode cX9_rolls 8 = .ok (.i2l, 1) := by decide +kernel
theorem dX9_rolls_9 : decode cX9_rolls 9 = .ok (.ldc2_w 191, 3) := by decide +kernel
theorem dX9_rolls_12 : decode cX9_rolls 12 = .ok (.ldc2_w 49, 3) := by decide +kernel
theorem dX9_rolls_15 : decode cX9_rolls 15 = .ok (.invokestatic 37, 3) := by decide +kernel
theorem dX9_rolls_18 : decode cX9_rolls 18 = .ok (.ifCond .eq 17, 3) := by decide +kernel
theorem dX9_rolls_21 : decode cX9_rolls 21 = .ok (.iload_n 3, 1) := by decide +kernel
theorem dX9_rolls_22 : decode cX9_rolls 22 = .ok (.i2l, 1) := by decide +kernel
theorem dX9_rolls_23 : decode cX9_rolls 23 = .ok (.ldc2_w 191, 3) := by decide +kernel
theorem dX9_rolls_26 : decode cX9_rolls 26 = .ok (.ldc2_w 49, 3) := by decide +kernel
theorem dX9_rolls_29 : decode cX9_rolls 29 = .ok (.invokestatic 37, 3) := by decide +kernel
theorem dX9_rolls_32 : decode cX9_rolls 32 = .ok (.ifCond .ne 10, 3) := by decide +kernel
theorem dX9_rolls_35 : decode cX9_rolls 35 = .ok (.aload_n 0, 1) := by decide +kernel
theorem dX9_rolls_36 : decode cX9_rolls 36 = .ok (.bipush (-2), 2) := by decide +kernel
theorem dX9_rolls_38 : decode cX9_rolls 38 = .ok (.invokevirtual 83, 3) := by decide +kernel
theorem dX9_rolls_41 : decode cX9_rolls 41 = .ok (.ireturn, 1) := by decide +kernel
theorem dX9_rolls_42 : decode cX9_rolls 42 = .ok (.iconst 0, 1) := by decide +kernel
theorem dX9_rolls_43 : decode cX9_rolls 43 = .ok (.istore 4, 2) := by decide +kernel
theorem dX9_rolls_45 : decode cX9_rolls 45 = .ok (.aload_n 0, 1) := by decide +kernel
theorem dX9_rolls_46 : decode cX9_rolls 46 = .ok (.invokevirtual 87, 3) := by decide +kernel
theorem dX9_rolls_49 : decode cX9_rolls 49 = .ok (.aload_n 0, 1) := by decide +kernel
theorem dX9_rolls_50 : decode cX9_rolls 50 = .ok (.aload_n 0, 1) := by decide +kernel
theorem dX9_rolls_51 : decode cX9_rolls 51 = .ok (.getfield 19, 3) := by decide +kernel
theorem dX9_rolls_54 : decode cX9_rolls 54 = .ok (.invokevirtual 124, 3) := by decide +kernel
theorem dX9_rolls_57 : decode cX9_rolls 57 = .ok (.iconst 0, 1) := by decide +kernel
theorem dX9_rolls_58 : decode cX9_rolls 58 = .ok (.istore 5, 2) := by decide +kernel
theorem dX9_rolls_60 : decode cX9_rolls 60 = .ok (.iload 5, 2) := by decide +kernel
theorem dX9_rolls_62 : decode cX9_rolls 62 = .ok (.bipush 24, 2) := by decide +kernel
theorem dX9_rolls_64 : decode cX9_rolls 64 = .ok (.if_icmp .ge 64, 3) := by decide +kernel
theorem dX9_rolls_67 : decode cX9_rolls 67 = .ok (.iconst 0, 1) := by decide +kernel
theorem dX9_rolls_68 : decode cX9_rolls 68 = .ok (.istore 6, 2) := by decide +kernel
theorem dX9_rolls_70 : decode cX9_rolls 70 = .ok (.iload 6, 2) := by decide +kernel
theorem dX9_rolls_72 : decode cX9_rolls 72 = .ok (.bipush 32, 2) := by decide +kernel
theorem dX9_rolls_74 : decode cX9_rolls 74 = .ok (.if_icmp .ge 48, 3) := by decide +kernel
theorem dX9_rolls_77 : decode cX9_rolls 77 = .ok (.iload 4, 2) := by decide +kernel
theorem dX9_rolls_79 : decode cX9_rolls 79 = .ok (.aload_n 0, 1) := by decide +kernel
theorem dX9_rolls_80 : decode cX9_rolls 80 = .ok (.iload_n 1, 1) := by decide +kernel
theorem dX9_rolls_81 : decode cX9_rolls 81 = .ok (.iload 6, 2) := by decide +kernel
theorem dX9_rolls_83 : decode cX9_rolls 83 = .ok (.iload 5, 2) := by decide +kernel
theorem dX9_rolls_85 : decode cX9_rolls 85 = .ok (.aload_n 0, 1) := by decide +kernel
theorem dX9_rolls_86 : decode cX9_rolls 86 = .ok (.iload_n 1, 1) := by decide +kernel
theorem dX9_rolls_87 : decode cX9_rolls 87 = .ok (.iload 6, 2) := by decide +kernel
theorem dX9_rolls_89 : decode cX9_rolls 89 = .ok (.iload_n 2, 1) := by decide +kernel
theorem dX9_rolls_90 : decode cX9_rolls 90 = .ok (.isub, 1) := by decide +kernel
theorem dX9_rolls_91 : decode cX9_rolls 91 = .ok (.bipush 64, 2) := by decide +kernel
theorem dX9_rolls_93 : decode cX9_rolls 93 = .ok (.iadd, 1) := by decide +kernel
theorem dX9_rolls_94 : decode cX9_rolls 94 = .ok (.bipush 32, 2) := by decide +kernel
theorem dX9_rolls_96 : decode cX9_rolls 96 = .ok (.irem, 1) := by decide +kernel
theorem dX9_rolls_97 : decode cX9_rolls 97 = .ok (.iload 5, 2) := by decide +kernel
theorem dX9_rolls_99 : decode cX9_rolls 99 = .ok (.iload_n 3, 1) := by decide +kernel
theorem dX9_rolls_100 : decode cX9_rolls 100 = .ok (.isub, 1) := by decide +kernel
theorem dX9_rolls_101 : decode cX9_rolls 101 = .ok (.bipush 48, 2) := by decide +kernel
theorem dX9_rolls_103 : decode cX9_rolls 103 = .ok (.iadd, 1) := by decide +kernel
theorem dX9_rolls_104 : decode cX9_rolls 104 = .ok (.bipush 24, 2) := by decide +kernel
theorem dX9_rolls_106 : decode cX9_rolls 106 = .ok (.irem, 1) := by decide +kernel
theorem dX9_rolls_107 : decode cX9_rolls 107 = .ok (.invokevirtual 128, 3) := by decide +kernel
theorem dX9_rolls_110 : decode cX9_rolls 110 = .ok (.invokevirtual 75, 3) := by decide +kernel
theorem dX9_rolls_113 : decode cX9_rolls 113 = .ok (.iadd, 1) := by decide +kernel
theorem dX9_rolls_114 : decode cX9_rolls 114 = .ok (.istore 4, 2) := by decide +kernel
theorem dX9_rolls_116 : decode cX9_rolls 116 = .ok (.iinc 6 1, 3) := by decide +kernel
theorem dX9_rolls_119 : decode cX9_rolls 119 = .ok (.goto (-49), 3) := by decide +kernel
theorem dX9_rolls_122 : decode cX9_rolls 122 = .ok (.iinc 5 1, 3) := by decide +kernel
theorem dX9_rolls_125 : decode cX9_rolls 125 = .ok (.goto (-65), 3) := by decide +kernel
theorem dX9_rolls_128 : decode cX9_rolls 128 = .ok (.iload 4, 2) := by decide +kernel
theorem dX9_rolls_130 : decode cX9_rolls 130 = .ok (.ireturn, 1) := by decide +kernel
theorem dX9_at_0 : decode cX9_at 0 = .ok (.iload_n 1, 1) := by decide +kernel
theorem dX9_at_1 : decode cX9_at 1 = .ok (.invokestatic 79, 3) := by decide +kernel
theorem dX9_at_4 : decode cX9_at 4 = .ok (.ifCond .eq 13, 3) := by decide +kernel
theorem dX9_at_7 : decode cX9_at 7 = .ok (.aload_n 0, 1) := by decide +kernel
theorem dX9_at_8 : decode cX9_at 8 = .ok (.iload_n 1, 1) := by decide +kernel
theorem dX9_at_9 : decode cX9_at 9 = .ok (.iload_n 2, 1) := by decide +kernel
theorem dX9_at_10 : decode cX9_at 10 = .ok (.iload_n 3, 1) := by decide +kernel
theorem dX9_at_11 : decode cX9_at 11 = .ok (.invokevirtual 65, 3) := by decide +kernel
theorem dX9_at_14 : decode cX9_at 14 = .ok (.goto 9, 3) := by decide +kernel
theorem dX9_at_17 : decode cX9_at 17 = .ok (.aload_n 0, 1) := by decide +kernel
theorem dX9_at_18 : decode cX9_at 18 = .ok (.bipush (-2), 2) := by decide +kernel
theorem dX9_at_20 : decode cX9_at 20 = .ok (.invokevirtual 83, 3) := by decide +kernel
theorem dX9_at_23 : decode cX9_at 23 = .ok (.ireturn, 1) := by decide +kernel
theorem dX9_row_0 : decode cX9_row 0 = .ok (.iload_n 1, 1) := by decide +kernel
theorem dX9_row_1 : decode cX9_row 1 = .ok (.invokestatic 79, 3) := by decide +kernel
theorem dX9_row_4 : decode cX9_row 4 = .ok (.ifCond .eq 29, 3) := by decide +kernel
theorem dX9_row_7 : decode cX9_row 7 = .ok (.iload_n 2, 1) := by decide +kernel
theorem dX9_row_8 : decode cX9_row 8 = .ok (.i2l, 1) := by decide +kernel
theorem dX9_row_9 : decode cX9_row 9 = .ok (.lconst 0, 1) := by decide +kernel
theorem dX9_row_10 : decode cX9_row 10 = .ok (.ldc2_w 51, 3) := by decide +kernel
theorem dX9_row_13 : decode cX9_row 13 = .ok (.invokestatic 37, 3) := by decide +kernel
theorem dX9_row_16 : decode cX9_row 16 = .ok (.ifCond .eq 17, 3) := by decide +kernel
theorem dX9_row_19 : decode cX9_row 19 = .ok (.aload_n 0, 1) := by decide +kernel
theorem dX9_row_20 : decode cX9_row 20 = .ok (.getfield 7, 3) := by decide +kernel
theorem dX9_row_23 : decode cX9_row 23 = .ok (.bipush 24, 2) := by decide +kernel
theorem dX9_row_25 : decode cX9_row 25 = .ok (.iload_n 1, 1) := by decide +kernel
theorem dX9_row_26 : decode cX9_row 26 = .ok (.imul, 1) := by decide +kernel
theorem dX9_row_27 : decode cX9_row 27 = .ok (.iload_n 2, 1) := by decide +kernel
theorem dX9_row_28 : decode cX9_row 28 = .ok (.iadd, 1) := by decide +kernel
theorem dX9_row_29 : decode cX9_row 29 = .ok (.iaload, 1) := by decide +kernel
theorem dX9_row_30 : decode cX9_row 30 = .ok (.goto 8, 3) := by decide +kernel
theorem dX9_row_33 : decode cX9_row 33 = .ok (.aload_n 0, 1) := by decide +kernel
theorem dX9_row_34 : decode cX9_row 34 = .ok (.iconst 0, 1) := by decide +kernel
theorem dX9_row_35 : decode cX9_row 35 = .ok (.invokevirtual 83, 3) := by decide +kernel
theorem dX9_row_38 : decode cX9_row 38 = .ok (.ireturn, 1) := by decide +kernel
theorem dX9_partsOf_0 : decode cX9_partsOf 0 = .ok (.iconst 0, 1) := by decide +kernel
theorem dX9_partsOf_1 : decode cX9_partsOf 1 = .ok (.istore_n 2, 1) := by decide +kernel
theorem dX9_partsOf_2 : decode cX9_partsOf 2 = .ok (.aload_n 0, 1) := by decide +kernel
theorem dX9_partsOf_3 : decode cX9_partsOf 3 = .ok (.invokevirtual 159, 3) := by decide +kernel
theorem dX9_partsOf_6 : decode cX9_partsOf 6 = .ok (.iconst 0, 1) := by decide +kernel
theorem dX9_partsOf_7 : decode cX9_partsOf 7 = .ok (.istore_n 3, 1) := by decide +kernel
theorem dX9_partsOf_8 : decode cX9_partsOf 8 = .ok (.iload_n 3, 1) := by decide +kernel
theorem dX9_partsOf_9 : decode cX9_partsOf 9 = .ok (.sipush 768, 3) := by decide +kernel
theorem dX9_partsOf_12 : decode cX9_partsOf 12 = .ok (.if_icmp .ge 54, 3) := by decide +kernel
theorem dX9_partsOf_15 : decode cX9_partsOf 15 = .ok (.aload_n 0, 1) := by decide +kernel
theorem dX9_partsOf_16 : decode cX9_partsOf 16 = .ok (.getfield 25, 3) := by decide +kernel
theorem dX9_partsOf_19 : decode cX9_partsOf 19 = .ok (.iload_n 3, 1) := by decide +kernel
theorem dX9_partsOf_20 : decode cX9_partsOf 20 = .ok (.baload, 1) := by decide +kernel
theorem dX9_partsOf_21 : decode cX9_partsOf 21 = .ok (.ifCond .ne 39, 3) := by decide +kernel
theorem dX9_partsOf_24 : decode cX9_partsOf 24 = .ok (.aload_n 0, 1) := by decide +kernel
theorem dX9_partsOf_25 : decode cX9_partsOf 25 = .ok (.iload_n 1, 1) := by decide +kernel
theorem dX9_partsOf_26 : decode cX9_partsOf 26 = .ok (.iload_n 3, 1) := by decide +kernel
theorem dX9_partsOf_27 : decode cX9_partsOf 27 = .ok (.bipush 32, 2) := by decide +kernel
theorem dX9_partsOf_29 : decode cX9_partsOf 29 = .ok (.irem, 1) := by decide +kernel
theorem dX9_partsOf_30 : decode cX9_partsOf 30 = .ok (.iload_n 3, 1) := by decide +kernel
theorem dX9_partsOf_31 : decode cX9_partsOf 31 = .ok (.bipush 32, 2) := by decide +kernel
theorem dX9_partsOf_33 : decode cX9_partsOf 33 = .ok (.idiv, 1) := by decide +kernel
theorem dX9_partsOf_34 : decode cX9_partsOf 34 = .ok (.invokevirtual 65, 3) := by decide +kernel
theorem dX9_partsOf_37 : decode cX9_partsOf 37 = .ok (.iconst 1, 1) := by decide +kernel
theorem dX9_partsOf_38 : decode cX9_partsOf 38 = .ok (.if_icmp .ne 22, 3) := by decide +kernel
theorem dX9_partsOf_41 : decode cX9_partsOf 41 = .ok (.aload_n 0, 1) := by decide +kernel
theorem dX9_partsOf_42 : decode cX9_partsOf 42 = .ok (.iload_n 1, 1) := by decide +kernel
theorem dX9_partsOf_43 : decode cX9_partsOf 43 = .ok (.iload_n 3, 1) := by decide +kernel
theorem dX9_partsOf_44 : decode cX9_partsOf 44 = .ok (.bipush 32, 2) := by decide +kernel
theorem dX9_partsOf_46 : decode cX9_partsOf 46 = .ok (.irem, 1) := by decide +kernel
theorem dX9_partsOf_47 : decode cX9_partsOf 47 = .ok (.iload_n 3, 1) := by decide +kernel
theorem dX9_partsOf_48 : decode cX9_partsOf 48 = .ok (.bipush 32, 2) := by decide +kernel
theorem dX9_partsOf_50 : decode cX9_partsOf 50 = .ok (.idiv, 1) := by decide +kernel
theorem dX9_partsOf_51 : decode cX9_partsOf 51 = .ok (.iconst 0, 1) := by decide +kernel
theorem dX9_partsOf_52 : decode cX9_partsOf 52 = .ok (.invokevirtual 162, 3) := by decide +kernel
theorem dX9_partsOf_55 : decode cX9_partsOf 55 = .ok (.istore 4, 2) := by decide +kernel
theorem dX9_partsOf_57 : decode cX9_partsOf 57 = .ok (.iinc 2 1, 3) := by decide +kernel
theorem dX9_partsOf_60 : decode cX9_partsOf 60 = .ok (.iinc 3 1, 3) := by decide +kernel
theorem dX9_partsOf_63 : decode cX9_partsOf 63 = .ok (.goto (-55), 3) := by decide +kernel
theorem dX9_partsOf_66 : decode cX9_partsOf 66 = .ok (.iload_n 2, 1) := by decide +kernel
theorem dX9_partsOf_67 : decode cX9_partsOf 67 = .ok (.ireturn, 1) := by decide +kernel
theorem dX9_edge_0 : decode cX9_edge 0 = .ok (.iconst (-1), 1) := by decide +kernel
theorem dX9_edge_1 : decode cX9_edge 1 = .ok (.istore 4, 2) := by decide +kernel
theorem dX9_edge_3 : decode cX9_edge 3 = .ok (.iconst 0, 1) := by decide +kernel
theorem dX9_edge_4 : decode cX9_edge 4 = .ok (.istore 5, 2) := by decide +kernel
theorem dX9_edge_6 : decode cX9_edge 6 = .ok (.iload 5, 2) := by decide +kernel
theorem dX9_edge_8 : decode cX9_edge 8 = .ok (.sipush 768, 3) := by decide +kernel
theorem dX9_edge_11 : decode cX9_edge 11 = .ok (.if_icmp .ge 95, 3) := by decide +kernel
theorem dX9_edge_14 : decode cX9_edge 14 = .ok (.iload_n 2, 1) := by decide +kernel
theorem dX9_edge_15 : decode cX9_edge 15 = .ok (.ifCond .eq 11, 3) := by decide +kernel
theorem dX9_edge_18 : decode cX9_edge 18 = .ok (.iload 5, 2) := by decide +kernel
theorem dX9_edge_20 : decode cX9_edge 20 = .ok (.bipush 32, 2) := by decide +kernel
theorem dX9_edge_22 : decode cX9_edge 22 = .ok (.irem, 1) := by decide +kernel
theorem dX9_edge_23 : decode cX9_edge 23 = .ok (.goto 8, 3) := by decide +kernel
theorem dX9_edge_26 : decode cX9_edge 26 = .ok (.iload 5, 2) := by decide +kernel
theorem dX9_edge_28 : decode cX9_edge 28 = .ok (.bipush 32, 2) := by decide +kernel
theorem dX9_edge_30 : decode cX9_edge 30 = .ok (.idiv, 1) := by decide +kernel
theorem dX9_edge_31 : decode cX9_edge 31 = .ok (.istore 6, 2) := by decide +kernel
theorem dX9_edge_33 : decode cX9_edge 33 = .ok (.iload 4, 2) := by decide +kernel
theorem dX9_edge_35 : decode cX9_edge 35 = .ok (.iconst (-1), 1) := by decide +kernel
theorem dX9_edge_36 : decode cX9_edge 36 = .ok (.if_icmp .eq 24, 3) := by decide +kernel
theorem dX9_edge_39 : decode cX9_edge 39 = .ok (.iload_n 3, 1) := by decide +kernel
theorem dX9_edge_40 : decode cX9_edge 40 = .ok (.ifCond .eq 13, 3) := by decide +kernel
theorem dX9_edge_43 : decode cX9_edge 43 = .ok (.iload 6, 2) := by decide +kernel
theorem dX9_edge_45 : decode cX9_edge 45 = .ok (.iload 4, 2) := by decide +kernel
theorem dX9_edge_47 : decode cX9_edge 47 = .ok (.if_icmp .ge 17, 3) := by decide +kernel
theorem dX9_edge_50 : decode cX9_edge 50 = .ok (.goto 10, 3) := by decide +kernel
theorem dX9_edge_53 : decode cX9_edge 53 = .ok (.iload 6, 2) := by decide +kernel
theorem dX9_edge_55 : decode cX9_edge 55 = .ok (.iload 4, 2) := by decide +kernel
theorem dX9_edge_57 : decode cX9_edge 57 = .ok (.if_icmp .le 7, 3) := by decide +kernel
theorem dX9_edge_60 : decode cX9_edge 60 = .ok (.iconst 1, 1) := by decide +kernel
theorem dX9_edge_61 : decode cX9_edge 61 = .ok (.goto 4, 3) := by decide +kernel
theorem dX9_edge_64 : decode cX9_edge 64 = .ok (.iconst 0, 1) := by decide +kernel
theorem dX9_edge_65 : decode cX9_edge 65 = .ok (.istore 7, 2) := by decide +kernel
theorem dX9_edge_67 : decode cX9_edge 67 = .ok (.iload 7, 2) := by decide +kernel
theorem dX9_edge_69 : decode cX9_edge 69 = .ok (.ifCond .eq 27, 3) := by decide +kernel
theorem dX9_edge_72 : decode cX9_edge 72 = .ok (.aload_n 0, 1) := by decide +kernel
theorem dX9_edge_73 : decode cX9_edge 73 = .ok (.iload_n 1, 1) := by decide +kernel
theorem dX9_edge_74 : decode cX9_edge 74 = .ok (.iload 5, 2) := by decide +kernel
theorem dX9_edge_76 : decode cX9_edge 76 = .ok (.bipush 32, 2) := by decide +kernel
theorem dX9_edge_78 : decode cX9_edge 78 = .ok (.irem, 1) := by decide +kernel
theorem dX9_edge_79 : decode cX9_edge 79 = .ok (.iload 5, 2) := by decide +kernel
theorem dX9_edge_81 : decode cX9_edge 81 = .ok (.bipush 32, 2) := by decide +kernel
theorem dX9_edge_83 : decode cX9_edge 83 = .ok (.idiv, 1) := by decide +kernel
theorem dX9_edge_84 : decode cX9_edge 84 = .ok (.invokevirtual 65, 3) := by decide +kernel
theorem dX9_edge_87 : decode cX9_edge 87 = .ok (.iconst 1, 1) := by decide +kernel
theorem dX9_edge_88 : decode cX9_edge 88 = .ok (.if_icmp .ne 8, 3) := by decide +kernel
theorem dX9_edge_91 : decode cX9_edge 91 = .ok (.iload 6, 2) := by decide +kernel
theorem dX9_edge_93 : decode cX9_edge 93 = .ok (.goto 5, 3) := by decide +kernel
theorem dX9_edge_96 : decode cX9_edge 96 = .ok (.iload 4, 2) := by decide +kernel
theorem dX9_edge_98 : decode cX9_edge 98 = .ok (.istore 4, 2) := by decide +kernel
theorem dX9_edge_100 : decode cX9_edge 100 = .ok (.iinc 5 1, 3) := by decide +kernel
theorem dX9_edge_103 : decode cX9_edge 103 = .ok (.goto (-97), 3) := by decide +kernel
theorem dX9_edge_106 : decode cX9_edge 106 = .ok (.iload 4, 2) := by decide +kernel
theorem dX9_edge_108 : decode cX9_edge 108 = .ok (.ireturn, 1) := by decide +kernel
theorem dX9_openDots_0 : decode cX9_openDots 0 = .ok (.iconst 0, 1) := by decide +kernel
theorem dX9_openDots_1 : decode cX9_openDots 1 = .ok (.istore_n 1, 1) := by decide +kernel
theorem dX9_openDots_2 : decode cX9_openDots 2 = .ok (.iconst 0, 1) := by decide +kernel
theorem dX9_openDots_3 : decode cX9_openDots 3 = .ok (.istore_n 2, 1) := by decide +kernel
theorem dX9_openDots_4 : decode cX9_openDots 4 = .ok (.iload_n 2, 1) := by decide +kernel
theorem dX9_openDots_5 : decode cX9_openDots 5 = .ok (.sipush 768, 3) := by decide +kernel
theorem dX9_openDots_8 : decode cX9_openDots 8 = .ok (.if_icmp .ge 32, 3) := by decide +kernel
theorem dX9_openDots_11 : decode cX9_openDots 11 = .ok (.iload_n 1, 1) := by decide +kernel
theorem dX9_openDots_12 : decode cX9_openDots 12 = .ok (.aload_n 0, 1) := by decide +kernel
theorem dX9_openDots_13 : decode cX9_openDots 13 = .ok (.iload_n 2, 1) := by decide +kernel
theorem dX9_openDots_14 : decode cX9_openDots 14 = .ok (.bipush 32, 2) := by decide +kernel
theorem dX9_openDots_16 : decode cX9_openDots 16 = .ok (.irem, 1) := by decide +kernel
theorem dX9_openDots_17 : decode cX9_openDots 17 = .ok (.iload_n 2, 1) := by decide +kernel
theorem dX9_openDots_18 : decode cX9_openDots 18 = .ok (.bipush 32, 2) := by decide +kernel
theorem dX9_openDots_20 : decode cX9_openDots 20 = .ok (.idiv, 1) := by decide +kernel
theorem dX9_openDots_21 : decode cX9_openDots 21 = .ok (.invokevirtual 69, 3) := by decide +kernel
theorem dX9_openDots_24 : decode cX9_openDots 24 = .ok (.ifCond .eq 7, 3) := by decide +kernel
theorem dX9_openDots_27 : decode cX9_openDots 27 = .ok (.iconst 1, 1) := by decide +kernel
theorem dX9_openDots_28 : decode cX9_openDots 28 = .ok (.goto 4, 3) := by decide +kernel
theorem dX9_openDots_31 : decode cX9_openDots 31 = .ok (.iconst 0, 1) := by decide +kernel
theorem dX9_openDots_32 : decode cX9_openDots 32 = .ok (.iadd, 1) := by decide +kernel
theorem dX9_openDots_33 : decode cX9_openDots 33 = .ok (.istore_n 1, 1) := by decide +kernel
theorem dX9_openDots_34 : decode cX9_openDots 34 = .ok (.iinc 2 1, 3) := by decide +kernel
theorem dX9_openDots_37 : decode cX9_openDots 37 = .ok (.goto (-33), 3) := by decide +kernel
theorem dX9_openDots_40 : decode cX9_openDots 40 = .ok (.iload_n 1, 1) := by decide +kernel
theorem dX9_openDots_41 : decode cX9_openDots 41 = .ok (.ireturn, 1) := by decide +kernel
theorem dX9_of_0 : decode cX9_of 0 = .ok (.iload_n 1, 1) := by decide +kernel
theorem dX9_of_1 : decode cX9_of 1 = .ok (.invokestatic 79, 3) := by decide +kernel
theorem dX9_of_4 : decode cX9_of 4 = .ok (.ifCond .eq 15, 3) := by decide +kernel
theorem dX9_of_7 : decode cX9_of 7 = .ok (.iload_n 2, 1) := by decide +kernel
theorem dX9_of_8 : decode cX9_of 8 = .ok (.i2l, 1) := by decide +kernel
theorem dX9_of_9 : decode cX9_of 9 = .ok (.lconst 0, 1) := by decide +kernel
theorem dX9_of_10 : decode cX9_of 10 = .ok (.ldc2_w 193, 3) := by decide +kernel
theorem dX9_of_13 : decode cX9_of 13 = .ok (.invokestatic 37, 3) := by decide +kernel
theorem dX9_of_16 : decode cX9_of 16 = .ok (.ifCond .ne 10, 3) := by decide +kernel
theorem dX9_of_19 : decode cX9_of 19 = .ok (.aload_n 0, 1) := by decide +kernel
theorem dX9_of_20 : decode cX9_of 20 = .ok (.bipush (-2), 2) := by decide +kernel
theorem dX9_of_22 : decode cX9_of 22 = .ok (.invokevirtual 83, 3) := by decide +kernel
theorem dX9_of_25 : decode cX9_of 25 = .ok (.ireturn, 1) := by decide +kernel
theorem dX9_of_26 : decode cX9_of 26 = .ok (.iload_n 2, 1) := by decide +kernel
theorem dX9_of_27 : decode cX9_of 27 = .ok (.ifCond .ne 11, 3) := by decide +kernel
theorem dX9_of_30 : decode cX9_of 30 = .ok (.aload_n 0, 1) := by decide +kernel
theorem dX9_of_31 : decode cX9_of 31 = .ok (.iload_n 1, 1) := by decide +kernel
theorem dX9_of_32 : decode cX9_of 32 = .ok (.invokevirtual 104, 3) := by decide +kernel
theorem dX9_of_35 : decode cX9_of 35 = .ok (.goto 55, 3) := by decide +kernel
theorem dX9_of_38 : decode cX9_of 38 = .ok (.iload_n 2, 1) := by decide +kernel
theorem dX9_of_39 : decode cX9_of 39 = .ok (.iconst 1, 1) := by decide +kernel
theorem dX9_of_40 : decode cX9_of 40 = .ok (.if_icmp .ne 11, 3) := by decide +kernel
theorem dX9_of_43 : decode cX9_of 43 = .ok (.aload_n 0, 1) := by decide +kernel
theorem dX9_of_44 : decode cX9_of 44 = .ok (.iload_n 1, 1) := by decide +kernel
theorem dX9_of_45 : decode cX9_of 45 = .ok (.invokevirtual 195, 3) := by decide +kernel
theorem dX9_of_48 : decode cX9_of 48 = .ok (.goto 42, 3) := by decide +kernel
theorem dX9_of_51 : decode cX9_of 51 = .ok (.iload_n 2, 1) := by decide +kernel
theorem dX9_of_52 : decode cX9_of 52 = .ok (.bipush 6, 2) := by decide +kernel
theorem dX9_of_54 : decode cX9_of 54 = .ok (.if_icmp .ne 10, 3) := by decide +kernel
theorem dX9_of_57 : decode cX9_of 57 = .ok (.aload_n 0, 1) := by decide +kernel
theorem dX9_of_58 : decode cX9_of 58 = .ok (.invokevirtual 198, 3) := by decide +kernel
theorem dX9_of_61 : decode cX9_of 61 = .ok (.goto 29, 3) := by decide +kernel
theorem dX9_of_64 : decode cX9_of 64 = .ok (.aload_n 0, 1) := by decide +kernel
theorem dX9_of_65 : decode cX9_of 65 = .ok (.iload_n 1, 1) := by decide +kernel
theorem dX9_of_66 : decode cX9_of 66 = .ok (.iload_n 2, 1) := by decide +kernel
theorem dX9_of_67 : decode cX9_of 67 = .ok (.iconst 4, 1) := by decide +kernel
theorem dX9_of_68 : decode cX9_of 68 = .ok (.if_icmp .ge 7, 3) := by decide +kernel
theorem dX9_of_71 : decode cX9_of 71 = .ok (.iconst 1, 1) := by decide +kernel
theorem dX9_of_72 : decode cX9_of 72 = .ok (.goto 4, 3) := by decide +kernel
theorem dX9_of_75 : decode cX9_of 75 = .ok (.iconst 0, 1) := by decide +kernel
theorem dX9_of_76 : decode cX9_of 76 = .ok (.iload_n 2, 1) := by decide +kernel
theorem dX9_of_77 : decode cX9_of 77 = .ok (.iconst 2, 1) := by decide +kernel
theorem dX9_of_78 : decode cX9_of 78 = .ok (.irem, 1) := by decide +kernel
theorem dX9_of_79 : decode cX9_of 79 = .ok (.ifCond .ne 7, 3) := by decide +kernel
theorem dX9_of_82 : decode cX9_of 82 = .ok (.iconst 1, 1) := by decide +kernel
theorem dX9_of_83 : decode cX9_of 83 = .ok (.goto 4, 3) := by decide +kernel
theorem dX9_of_86 : decode cX9_of 86 = .ok (.iconst 0, 1) := by decide +kernel
theorem dX9_of_87 : decode cX9_of 87 = .ok (.invokevirtual 201, 3) := by decide +kernel
theorem dX9_of_90 : decode cX9_of 90 = .ok (.ireturn, 1) := by decide +kernel
theorem dX9_count_0 : decode cX9_count 0 = .ok (.iload_n 1, 1) := by decide +kernel
theorem dX9_count_1 : decode cX9_count 1 = .ok (.invokestatic 79, 3) := by decide +kernel
theorem dX9_count_4 : decode cX9_count 4 = .ok (.ifCond .eq 21, 3) := by decide +kernel
theorem dX9_count_7 : decode cX9_count 7 = .ok (.iload_n 2, 1) := by decide +kernel
theorem dX9_count_8 : decode cX9_count 8 = .ok (.iload_n 3, 1) := by decide +kernel
theorem dX9_count_9 : decode cX9_count 9 = .ok (.invokestatic 107, 3) := by decide +kernel
theorem dX9_count_12 : decode cX9_count 12 = .ok (.ifCond .eq 13, 3) := by decide +kernel
theorem dX9_count_15 : decode cX9_count 15 = .ok (.iload 4, 2) := by decide +kernel
theorem dX9_count_17 : decode cX9_count 17 = .ok (.iload 5, 2) := by decide +kernel
theorem dX9_count_19 : decode cX9_count 19 = .ok (.invokestatic 110, 3) := by decide +kernel
theorem dX9_count_22 : decode cX9_count 22 = .ok (.ifCond .ne 10, 3) := by decide +kernel
theorem dX9_count_25 : decode cX9_count 25 = .ok (.aload_n 0, 1) := by decide +kernel
theorem dX9_count_26 : decode cX9_count 26 = .ok (.bipush (-2), 2) := by decide +kernel
theorem dX9_count_28 : decode cX9_count 28 = .ok (.invokevirtual 83, 3) := by decide +kernel
theorem dX9_count_31 : decode cX9_count 31 = .ok (.ireturn, 1) := by decide +kernel
theorem dX9_count_32 : decode cX9_count 32 = .ok (.iconst 0, 1) := by decide +kernel
theorem dX9_count_33 : decode cX9_count 33 = .ok (.istore 6, 2) := by decide +kernel
theorem dX9_count_35 : decode cX9_count 35 = .ok (.iconst 0, 1) := by decide +kernel
theorem dX9_count_36 : decode cX9_count 36 = .ok (.istore 7, 2) := by decide +kernel
theorem dX9_count_38 : decode cX9_count 38 = .ok (.iload 7, 2) := by decide +kernel
theorem dX9_count_40 : decode cX9_count 40 = .ok (.iload 5, 2) := by decide +kernel
theorem dX9_count_42 : decode cX9_count 42 = .ok (.if_icmp .ge 43, 3) := by decide +kernel
theorem dX9_count_45 : decode cX9_count 45 = .ok (.iconst 0, 1) := by decide +kernel
theorem dX9_count_46 : decode cX9_count 46 = .ok (.istore 8, 2) := by decide +kernel
theorem dX9_count_48 : decode cX9_count 48 = .ok (.iload 8, 2) := by decide +kernel
theorem dX9_count_50 : decode cX9_count 50 = .ok (.iload 4, 2) := by decide +kernel
theorem dX9_count_52 : decode cX9_count 52 = .ok (.if_icmp .ge 27, 3) := by decide +kernel
theorem dX9_count_55 : decode cX9_count 55 = .ok (.iload 6, 2) := by decide +kernel
theorem dX9_count_57 : decode cX9_count 57 = .ok (.aload_n 0, 1) := by decide +kernel
theorem dX9_count_58 : decode cX9_count 58 = .ok (.iload_n 1, 1) := by decide +kernel
theorem dX9_count_59 : decode cX9_count 59 = .ok (.iload_n 2, 1) := by decide +kernel
theorem dX9_count_60 : decode cX9_count 60 = .ok (.iload 8, 2) := by decide +kernel
theorem dX9_count_62 : decode cX9_count 62 = .ok (.iadd, 1) := by decide +kernel
theorem dX9_count_63 : decode cX9_count 63 = .ok (.iload_n 3, 1) := by decide +kernel
theorem dX9_count_64 : decode cX9_count 64 = .ok (.iload 7, 2) := by decide +kernel
theorem dX9_count_66 : decode cX9_count 66 = .ok (.iadd, 1) := by decide +kernel
theorem dX9_count_67 : decode cX9_count 67 = .ok (.invokevirtual 65, 3) := by decide +kernel
theorem dX9_count_70 : decode cX9_count 70 = .ok (.iadd, 1) := by decide +kernel
theorem dX9_count_71 : decode cX9_count 71 = .ok (.istore 6, 2) := by decide +kernel
theorem dX9_count_73 : decode cX9_count 73 = .ok (.iinc 8 1, 3) := by decide +kernel
theorem dX9_count_76 : decode cX9_count 76 = .ok (.goto (-28), 3) := by decide +kernel
theorem dX9_count_79 : decode cX9_count 79 = .ok (.iinc 7 1, 3) := by decide +kernel
theorem dX9_count_82 : decode cX9_count 82 = .ok (.goto (-44), 3) := by decide +kernel
theorem dX9_count_85 : decode cX9_count 85 = .ok (.iload 6, 2) := by decide +kernel
theorem dX9_count_87 : decode cX9_count 87 = .ok (.ireturn, 1) := by decide +kernel
theorem dX9_unlike_0 : decode cX9_unlike 0 = .ok (.iload_n 1, 1) := by decide +kernel
theorem dX9_unlike_1 : decode cX9_unlike 1 = .ok (.invokestatic 79, 3) := by decide +kernel
theorem dX9_unlike_4 : decode cX9_unlike 4 = .ok (.ifCond .eq 10, 3) := by decide +kernel
theorem dX9_unlike_7 : decode cX9_unlike 7 = .ok (.iload_n 2, 1) := by decide +kernel
theorem dX9_unlike_8 : decode cX9_unlike 8 = .ok (.invokestatic 79, 3) := by decide +kernel
theorem dX9_unlike_11 : decode cX9_unlike 11 = .ok (.ifCond .ne 10, 3) := by decide +kernel
theorem dX9_unlike_14 : decode cX9_unlike 14 = .ok (.aload_n 0, 1) := by decide +kernel
theorem dX9_unlike_15 : decode cX9_unlike 15 = .ok (.bipush (-2), 2) := by decide +kernel
theorem dX9_unlike_17 : decode cX9_unlike 17 = .ok (.invokevirtual 83, 3) := by decide +kernel
theorem dX9_unlike_20 : decode cX9_unlike 20 = .ok (.ireturn, 1) := by decide +kernel
theorem dX9_unlike_21 : decode cX9_unlike 21 = .ok (.iconst 0, 1) := by decide +kernel
theorem dX9_unlike_22 : decode cX9_unlike 22 = .ok (.istore_n 3, 1) := by decide +kernel
theorem dX9_unlike_23 : decode cX9_unlike 23 = .ok (.iconst 0, 1) := by decide +kernel
theorem dX9_unlike_24 : decode cX9_unlike 24 = .ok (.istore 4, 2) := by decide +kernel
theorem dX9_unlike_26 : decode cX9_unlike 26 = .ok (.iload 4, 2) := by decide +kernel
theorem dX9_unlike_28 : decode cX9_unlike 28 = .ok (.sipush 768, 3) := by decide +kernel
theorem dX9_unlike_31 : decode cX9_unlike 31 = .ok (.if_icmp .ge 50, 3) := by decide +kernel
theorem dX9_unlike_34 : decode cX9_unlike 34 = .ok (.iload_n 3, 1) := by decide +kernel
theorem dX9_unlike_35 : decode cX9_unlike 35 = .ok (.aload_n 0, 1) := by decide +kernel
theorem dX9_unlike_36 : decode cX9_unlike 36 = .ok (.iload_n 1, 1) := by decide +kernel
theorem dX9_unlike_37 : decode cX9_unlike 37 = .ok (.iload 4, 2) := by decide +kernel
theorem dX9_unlike_39 : decode cX9_unlike 39 = .ok (.bipush 32, 2) := by decide +kernel
theorem dX9_unlike_41 : decode cX9_unlike 41 = .ok (.irem, 1) := by decide +kernel
theorem dX9_unlike_42 : decode cX9_unlike 42 = .ok (.iload 4, 2) := by decide +kernel
theorem dX9_unlike_44 : decode cX9_unlike 44 = .ok (.bipush 32, 2) := by decide +kernel
theorem dX9_unlike_46 : decode cX9_unlike 46 = .ok (.idiv, 1) := by decide +kernel
theorem dX9_unlike_47 : decode cX9_unlike 47 = .ok (.invokevirtual 65, 3) := by decide +kernel
theorem dX9_unlike_50 : decode cX9_unlike 50 = .ok (.aload_n 0, 1) := by decide +kernel
theorem dX9_unlike_51 : decode cX9_unlike 51 = .ok (.iload_n 2, 1) := by decide +kernel
theorem dX9_unlike_52 : decode cX9_unlike 52 = .ok (.iload 4, 2) := by decide +kernel
theorem dX9_unlike_54 : decode cX9_unlike 54 = .ok (.bipush 32, 2) := by decide +kernel
theorem dX9_unlike_56 : decode cX9_unlike 56 = .ok (.irem, 1) := by decide +kernel
theorem dX9_unlike_57 : decode cX9_unlike 57 = .ok (.iload 4, 2) := by decide +kernel
theorem dX9_unlike_59 : decode cX9_unlike 59 = .ok (.bipush 32, 2) := by decide +kernel
theorem dX9_unlike_61 : decode cX9_unlike 61 = .ok (.idiv, 1) := by decide +kernel
theorem dX9_unlike_62 : decode cX9_unlike 62 = .ok (.invokevirtual 65, 3) := by decide +kernel
theorem dX9_unlike_65 : decode cX9_unlike 65 = .ok (.if_icmp .ne 7, 3) := by decide +kernel
theorem dX9_unlike_68 : decode cX9_unlike 68 = .ok (.iconst 0, 1) := by decide +kernel
theorem dX9_unlike_69 : decode cX9_unlike 69 = .ok (.goto 4, 3) := by decide +kernel
theorem dX9_unlike_72 : decode cX9_unlike 72 = .ok (.iconst 1, 1) := by decide +kernel
theorem dX9_unlike_73 : decode cX9_unlike 73 = .ok (.iadd, 1) := by decide +kernel
theorem dX9_unlike_74 : decode cX9_unlike 74 = .ok (.istore_n 3, 1) := by decide +kernel
theorem dX9_unlike_75 : decode cX9_unlike 75 = .ok (.iinc 4 1, 3) := by decide +kernel
theorem dX9_unlike_78 : decode cX9_unlike 78 = .ok (.goto (-52), 3) := by decide +kernel
theorem dX9_unlike_81 : decode cX9_unlike 81 = .ok (.iload_n 3, 1) := by decide +kernel
theorem dX9_unlike_82 : decode cX9_unlike 82 = .ok (.ireturn, 1) := by decide +kernel
theorem dX9_isLike_0 : decode cX9_isLike 0 = .ok (.iconst 1, 1) := by decide +kernel
theorem dX9_isLike_1 : decode cX9_isLike 1 = .ok (.istore 9, 2) := by decide +kernel
theorem dX9_isLike_3 : decode cX9_isLike 3 = .ok (.iconst 0, 1) := by decide +kernel
theorem dX9_isLike_4 : decode cX9_isLike 4 = .ok (.istore 10, 2) := by decide +kernel
theorem dX9_isLike_6 : decode cX9_isLike 6 = .ok (.iload 10, 2) := by decide +kernel
theorem dX9_isLike_8 : decode cX9_isLike 8 = .ok (.iload 5, 2) := by decide +kernel
theorem dX9_isLike_10 : decode cX9_isLike 10 = .ok (.if_icmp .ge 74, 3) := by decide +kernel
theorem dX9_isLike_13 : decode cX9_isLike 13 = .ok (.iload 9, 2) := by decide +kernel
theorem dX9_isLike_15 : decode cX9_isLike 15 = .ok (.ifCond .eq 69, 3) := by decide +kernel
theorem dX9_isLike_18 : decode cX9_isLike 18 = .ok (.iconst 0, 1) := by decide +kernel
theorem dX9_isLike_19 : decode cX9_isLike 19 = .ok (.istore 11, 2) := by decide +kernel
theorem dX9_isLike_21 : decode cX9_isLike 21 = .ok (.iload 11, 2) := by decide +kernel
theorem dX9_isLike_23 : decode cX9_isLike 23 = .ok (.iload 4, 2) := by decide +kernel
theorem dX9_isLike_25 : decode cX9_isLike 25 = .ok (.if_icmp .ge 53, 3) := by decide +kernel
theorem dX9_isLike_28 : decode cX9_isLike 28 = .ok (.iload 9, 2) := by decide +kernel
theorem dX9_isLike_30 : decode cX9_isLike 30 = .ok (.ifCond .eq 48, 3) := by decide +kernel
theorem dX9_isLike_33 : decode cX9_isLike 33 = .ok (.aload_n 0, 1) := by decide +kernel
theorem dX9_isLike_34 : decode cX9_isLike 34 = .ok (.iload_n 1, 1) := by decide +kernel
theorem dX9_isLike_35 : decode cX9_isLike 35 = .ok (.iload_n 2, 1) := by decide +kernel
theorem dX9_isLike_36 : decode cX9_isLike 36 = .ok (.iload 11, 2) := by decide +kernel
theorem dX9_isLike_38 : decode cX9_isLike 38 = .ok (.iadd, 1) := by decide +kernel
theorem dX9_isLike_39 : decode cX9_isLike 39 = .ok (.iload_n 3, 1) := by decide +kernel
theorem dX9_isLike_40 : decode cX9_isLike 40 = .ok (.iload 10, 2) := by decide +kernel
theorem dX9_isLike_42 : decode cX9_isLike 42 = .ok (.iadd, 1) := by decide +kernel
theorem dX9_isLike_43 : decode cX9_isLike 43 = .ok (.invokevirtual 65, 3) := by decide +kernel
theorem dX9_isLike_46 : decode cX9_isLike 46 = .ok (.aload_n 0, 1) := by decide +kernel
theorem dX9_isLike_47 : decode cX9_isLike 47 = .ok (.iload 6, 2) := by decide +kernel
theorem dX9_isLike_49 : decode cX9_isLike 49 = .ok (.iload 7, 2) := by decide +kernel
theorem dX9_isLike_51 : decode cX9_isLike 51 = .ok (.iload 11, 2) := by decide +kernel
theorem dX9_isLike_53 : decode cX9_isLike 53 = .ok (.iadd, 1) := by decide +kernel
theorem dX9_isLike_54 : decode cX9_isLike 54 = .ok (.iload 8, 2) := by decide +kernel
theorem dX9_isLike_56 : decode cX9_isLike 56 = .ok (.iload 10, 2) := by decide +kernel
theorem dX9_isLike_58 : decode cX9_isLike 58 = .ok (.iadd, 1) := by decide +kernel
theorem dX9_isLike_59 : decode cX9_isLike 59 = .ok (.invokevirtual 65, 3) := by decide +kernel
theorem dX9_isLike_62 : decode cX9_isLike 62 = .ok (.if_icmp .ne 7, 3) := by decide +kernel
theorem dX9_isLike_65 : decode cX9_isLike 65 = .ok (.iconst 1, 1) := by decide +kernel
theorem dX9_isLike_66 : decode cX9_isLike 66 = .ok (.goto 4, 3) := by decide +kernel
theorem dX9_isLike_69 : decode cX9_isLike 69 = .ok (.iconst 0, 1) := by decide +kernel
theorem dX9_isLike_70 : decode cX9_isLike 70 = .ok (.istore 9, 2) := by decide +kernel
theorem dX9_isLike_72 : decode cX9_isLike 72 = .ok (.iinc 11 1, 3) := by decide +kernel
theorem dX9_isLike_75 : decode cX9_isLike 75 = .ok (.goto (-54), 3) := by decide +kernel
theorem dX9_isLike_78 : decode cX9_isLike 78 = .ok (.iinc 10 1, 3) := by decide +kernel
theorem dX9_isLike_81 : decode cX9_isLike 81 = .ok (.goto (-75), 3) := by decide +kernel
theorem dX9_isLike_84 : decode cX9_isLike 84 = .ok (.iload 9, 2) := by decide +kernel
theorem dX9_isLike_86 : decode cX9_isLike 86 = .ok (.ireturn, 1) := by decide +kernel
theorem dX9_finds_0 : decode cX9_finds 0 = .ok (.iload_n 1, 1) := by decide +kernel
theorem dX9_finds_1 : decode cX9_finds 1 = .ok (.invokestatic 79, 3) := by decide +kernel
theorem dX9_finds_4 : decode cX9_finds 4 = .ok (.ifCond .eq 67, 3) := by decide +kernel
theorem dX9_finds_7 : decode cX9_finds 7 = .ok (.iload 4, 2) := by decide +kernel
theorem dX9_finds_9 : decode cX9_finds 9 = .ok (.i2l, 1) := by decide +kernel
theorem dX9_finds_10 : decode cX9_finds 10 = .ok (.lconst 1, 1) := by decide +kernel
theorem dX9_finds_11 : decode cX9_finds 11 = .ok (.ldc2_w 205, 3) := by decide +kernel
theorem dX9_finds_14 : decode cX9_finds 14 = .ok (.invokestatic 37, 3) := by decide +kernel
theorem dX9_finds_17 : decode cX9_finds 17 = .ok (.ifCond .eq 54, 3) := by decide +kernel
theorem dX9_finds_20 : decode cX9_finds 20 = .ok (.iload 5, 2) := by decide +kernel
theorem dX9_finds_22 : decode cX9_finds 22 = .ok (.i2l, 1) := by decide +kernel
theorem dX9_finds_23 : decode cX9_finds 23 = .ok (.lconst 1, 1) := by decide +kernel
theorem dX9_finds_24 : decode cX9_finds 24 = .ok (.ldc2_w 205, 3) := by decide +kernel
theorem dX9_finds_27 : decode cX9_finds 27 = .ok (.invokestatic 37, 3) := by decide +kernel
theorem dX9_finds_30 : decode cX9_finds 30 = .ok (.ifCond .eq 41, 3) := by decide +kernel
theorem dX9_finds_33 : decode cX9_finds 33 = .ok (.iload_n 2, 1) := by decide +kernel
theorem dX9_finds_34 : decode cX9_finds 34 = .ok (.i2l, 1) := by decide +kernel
theorem dX9_finds_35 : decode cX9_finds 35 = .ok (.lconst 0, 1) := by decide +kernel
theorem dX9_finds_36 : decode cX9_finds 36 = .ok (.bipush 32, 2) := by decide +kernel
theorem dX9_finds_38 : decode cX9_finds 38 = .ok (.iload 4, 2) := by decide +kernel
theorem dX9_finds_40 : decode cX9_finds 40 = .ok (.isub, 1) := by decide +kernel
theorem dX9_finds_41 : decode cX9_finds 41 = .ok (.i2l, 1) := by decide +kernel
theorem dX9_finds_42 : decode cX9_finds 42 = .ok (.invokestatic 37, 3) := by decide +kernel
theorem dX9_finds_45 : decode cX9_finds 45 = .ok (.ifCond .eq 26, 3) := by decide +kernel
theorem dX9_finds_48 : decode cX9_finds 48 = .ok (.iload_n 3, 1) := by decide +kernel
theorem dX9_finds_49 : decode cX9_finds 49 = .ok (.i2l, 1) := by decide +kernel
theorem dX9_finds_50 : decode cX9_finds 50 = .ok (.lconst 0, 1) := by decide +kernel
theorem dX9_finds_51 : decode cX9_finds 51 = .ok (.bipush 24, 2) := by decide +kernel
theorem dX9_finds_53 : decode cX9_finds 53 = .ok (.iload 5, 2) := by decide +kernel
theorem dX9_finds_55 : decode cX9_finds 55 = .ok (.isub, 1) := by decide +kernel
theorem dX9_finds_56 : decode cX9_finds 56 = .ok (.i2l, 1) := by decide +kernel
theorem dX9_finds_57 : decode cX9_finds 57 = .ok (.invokestatic 37, 3) := by decide +kernel
theorem dX9_finds_60 : decode cX9_finds 60 = .ok (.ifCond .eq 11, 3) := by decide +kernel
theorem dX9_finds_63 : decode cX9_finds 63 = .ok (.iload 6, 2) := by decide +kernel
theorem dX9_finds_65 : decode cX9_finds 65 = .ok (.invokestatic 79, 3) := by decide +kernel
theorem dX9_finds_68 : decode cX9_finds 68 = .ok (.ifCond .ne 10, 3) := by decide +kernel
theorem dX9_finds_71 : decode cX9_finds 71 = .ok (.aload_n 0, 1) := by decide +kernel
theorem dX9_finds_72 : decode cX9_finds 72 = .ok (.bipush (-2), 2) := by decide +kernel
theorem dX9_finds_74 : decode cX9_finds 74 = .ok (.invokevirtual 83, 3) := by decide +kernel
theorem dX9_finds_77 : decode cX9_finds 77 = .ok (.ireturn, 1) := by decide +kernel
theorem dX9_finds_78 : decode cX9_finds 78 = .ok (.iconst 0, 1) := by decide +kernel
theorem dX9_finds_79 : decode cX9_finds 79 = .ok (.istore 7, 2) := by decide +kernel
theorem dX9_finds_81 : decode cX9_finds 81 = .ok (.iconst 0, 1) := by decide +kernel
theorem dX9_finds_82 : decode cX9_finds 82 = .ok (.istore 8, 2) := by decide +kernel
theorem dX9_finds_84 : decode cX9_finds 84 = .ok (.iload 8, 2) := by decide +kernel
theorem dX9_finds_86 : decode cX9_finds 86 = .ok (.iload 5, 2) := by decide +kernel
theorem dX9_finds_88 : decode cX9_finds 88 = .ok (.iadd, 1) := by decide +kernel
theorem dX9_finds_89 : decode cX9_finds 89 = .ok (.bipush 24, 2) := by decide +kernel
theorem dX9_finds_91 : decode cX9_finds 91 = .ok (.if_icmp .gt 58, 3) := by decide +kernel
theorem dX9_finds_94 : decode cX9_finds 94 = .ok (.iconst 0, 1) := by decide +kernel
theorem dX9_finds_95 : decode cX9_finds 95 = .ok (.istore 9, 2) := by decide +kernel
theorem dX9_finds_97 : decode cX9_finds 97 = .ok (.iload 9, 2) := by decide +kernel
theorem dX9_finds_99 : decode cX9_finds 99 = .ok (.iload 4, 2) := by decide +kernel
theorem dX9_finds_101 : decode cX9_finds 101 = .ok (.iadd, 1) := by decide +kernel
theorem dX9_finds_102 : decode cX9_finds 102 = .ok (.bipush 32, 2) := by decide +kernel
theorem dX9_finds_104 : decode cX9_finds 104 = .ok (.if_icmp .gt 39, 3) := by decide +kernel
theorem dX9_finds_107 : decode cX9_finds 107 = .ok (.iload 7, 2) := by decide +kernel
theorem dX9_finds_109 : decode cX9_finds 109 = .ok (.aload_n 0, 1) := by decide +kernel
theorem dX9_finds_110 : decode cX9_finds 110 = .ok (.iload_n 1, 1) := by decide +kernel
theorem dX9_finds_111 : decode cX9_finds 111 = .ok (.iload_n 2, 1) := by decide +kernel
theorem dX9_finds_112 : decode cX9_finds 112 = .ok (.iload_n 3, 1) := by decide +kernel
theorem dX9_finds_113 : decode cX9_finds 113 = .ok (.iload 4, 2) := by decide +kernel
theorem dX9_finds_115 : decode cX9_finds 115 = .ok (.iload 5, 2) := by decide +kernel
theorem dX9_finds_117 : decode cX9_finds 117 = .ok (.iload 6, 2) := by decide +kernel
theorem dX9_finds_119 : decode cX9_finds 119 = .ok (.iload 9, 2) := by decide +kernel
theorem dX9_finds_121 : decode cX9_finds 121 = .ok (.iload 8, 2) := by decide +kernel
theorem dX9_finds_123 : decode cX9_finds 123 = .ok (.invokevirtual 207, 3) := by decide +kernel
theorem dX9_finds_126 : decode cX9_finds 126 = .ok (.ifCond .eq 7, 3) := by decide +kernel
theorem dX9_finds_129 : decode cX9_finds 129 = .ok (.iconst 1, 1) := by decide +kernel
theorem dX9_finds_130 : decode cX9_finds 130 = .ok (.goto 4, 3) := by decide +kernel
theorem dX9_finds_133 : decode cX9_finds 133 = .ok (.iconst 0, 1) := by decide +kernel
theorem dX9_finds_134 : decode cX9_finds 134 = .ok (.iadd, 1) := by decide +kernel
theorem dX9_finds_135 : decode cX9_finds 135 = .ok (.istore 7, 2) := by decide +kernel
theorem dX9_finds_137 : decode cX9_finds 137 = .ok (.iinc 9 1, 3) := by decide +kernel
theorem dX9_finds_140 : decode cX9_finds 140 = .ok (.goto (-43), 3) := by decide +kernel
theorem dX9_finds_143 : decode cX9_finds 143 = .ok (.iinc 8 1, 3) := by decide +kernel
theorem dX9_finds_146 : decode cX9_finds 146 = .ok (.goto (-62), 3) := by decide +kernel
theorem dX9_finds_149 : decode cX9_finds 149 = .ok (.iload 7, 2) := by decide +kernel
theorem dX9_finds_151 : decode cX9_finds 151 = .ok (.ireturn, 1) := by decide +kernel
theorem dX9_open_0 : decode cX9_open 0 = .ok (.iload_n 1, 1) := by decide +kernel
theorem dX9_open_1 : decode cX9_open 1 = .ok (.iload_n 2, 1) := by decide +kernel
theorem dX9_open_2 : decode cX9_open 2 = .ok (.invokestatic 57, 3) := by decide +kernel
theorem dX9_open_5 : decode cX9_open 5 = .ok (.ifCond .ne 12, 3) := by decide +kernel
theorem dX9_open_8 : decode cX9_open 8 = .ok (.aload_n 0, 1) := by decide +kernel
theorem dX9_open_9 : decode cX9_open 9 = .ok (.bipush (-2), 2) := by decide +kernel
theorem dX9_open_11 : decode cX9_open 11 = .ok (.invokevirtual 83, 3) := by decide +kernel
theorem dX9_open_14 : decode cX9_open 14 = .ok (.goto 17, 3) := by decide +kernel
theorem dX9_open_17 : decode cX9_open 17 = .ok (.aload_n 0, 1) := by decide +kernel
theorem dX9_open_18 : decode cX9_open 18 = .ok (.iload_n 1, 1) := by decide +kernel
theorem dX9_open_19 : decode cX9_open 19 = .ok (.iload_n 2, 1) := by decide +kernel
theorem dX9_open_20 : decode cX9_open 20 = .ok (.invokevirtual 69, 3) := by decide +kernel
theorem dX9_open_23 : decode cX9_open 23 = .ok (.ifCond .eq 7, 3) := by decide +kernel
theorem dX9_open_26 : decode cX9_open 26 = .ok (.iconst 1, 1) := by decide +kernel
theorem dX9_open_27 : decode cX9_open 27 = .ok (.goto 4, 3) := by decide +kernel
theorem dX9_open_30 : decode cX9_open 30 = .ok (.iconst 0, 1) := by decide +kernel
theorem dX9_open_31 : decode cX9_open 31 = .ok (.ireturn, 1) := by decide +kernel
theorem dX9_type_0 : decode cX9_type 0 = .ok (.iload_n 1, 1) := by decide +kernel
theorem dX9_type_1 : decode cX9_type 1 = .ok (.i2l, 1) := by decide +kernel
theorem dX9_type_2 : decode cX9_type 2 = .ok (.lconst 0, 1) := by decide +kernel
theorem dX9_type_3 : decode cX9_type 3 = .ok (.ldc2_w 211, 3) := by decide +kernel
theorem dX9_type_6 : decode cX9_type 6 = .ok (.invokestatic 37, 3) := by decide +kernel
theorem dX9_type_9 : decode cX9_type 9 = .ok (.ifCond .ne 10, 3) := by decide +kernel
theorem dX9_type_12 : decode cX9_type 12 = .ok (.aload_n 0, 1) := by decide +kernel
theorem dX9_type_13 : decode cX9_type 13 = .ok (.bipush (-2), 2) := by decide +kernel
theorem dX9_type_15 : decode cX9_type 15 = .ok (.invokevirtual 83, 3) := by decide +kernel
theorem dX9_type_18 : decode cX9_type 18 = .ok (.ireturn, 1) := by decide +kernel
theorem dX9_type_19 : decode cX9_type 19 = .ok (.aload_n 0, 1) := by decide +kernel
theorem dX9_type_20 : decode cX9_type 20 = .ok (.getfield 213, 3) := by decide +kernel
theorem dX9_type_23 : decode cX9_type 23 = .ok (.bipush 120, 2) := by decide +kernel
theorem dX9_type_25 : decode cX9_type 25 = .ok (.if_icmp .ne 8, 3) := by decide +kernel
theorem dX9_type_28 : decode cX9_type 28 = .ok (.aload_n 0, 1) := by decide +kernel
theorem dX9_type_29 : decode cX9_type 29 = .ok (.invokevirtual 113, 3) := by decide +kernel
theorem dX9_type_32 : decode cX9_type 32 = .ok (.ireturn, 1) := by decide +kernel
theorem dX9_type_33 : decode cX9_type 33 = .ok (.aload_n 0, 1) := by decide +kernel
theorem dX9_type_34 : decode cX9_type 34 = .ok (.getfield 29, 3) := by decide +kernel
theorem dX9_type_37 : decode cX9_type 37 = .ok (.aload_n 0, 1) := by decide +kernel
theorem dX9_type_38 : decode cX9_type 38 = .ok (.getfield 213, 3) := by decide +kernel
theorem dX9_type_41 : decode cX9_type 41 = .ok (.iload_n 1, 1) := by decide +kernel
theorem dX9_type_42 : decode cX9_type 42 = .ok (.iastore, 1) := by decide +kernel
theorem dX9_type_43 : decode cX9_type 43 = .ok (.aload_n 0, 1) := by decide +kernel
theorem dX9_type_44 : decode cX9_type 44 = .ok (.dup, 1) := by decide +kernel
theorem dX9_type_45 : decode cX9_type 45 = .ok (.getfield 213, 3) := by decide +kernel
theorem dX9_type_48 : decode cX9_type 48 = .ok (.iconst 1, 1) := by decide +kernel
theorem dX9_type_49 : decode cX9_type 49 = .ok (.iadd, 1) := by decide +kernel
theorem dX9_type_50 : decode cX9_type 50 = .ok (.putfield 213, 3) := by decide +kernel
theorem dX9_type_53 : decode cX9_type 53 = .ok (.aload_n 0, 1) := by decide +kernel
theorem dX9_type_54 : decode cX9_type 54 = .ok (.getfield 213, 3) := by decide +kernel
theorem dX9_type_57 : decode cX9_type 57 = .ok (.ireturn, 1) := by decide +kernel
theorem dX9_clear_0 : decode cX9_clear 0 = .ok (.aload_n 0, 1) := by decide +kernel
theorem dX9_clear_1 : decode cX9_clear 1 = .ok (.getfield 213, 3) := by decide +kernel
theorem dX9_clear_4 : decode cX9_clear 4 = .ok (.istore_n 1, 1) := by decide +kernel
theorem dX9_clear_5 : decode cX9_clear 5 = .ok (.aload_n 0, 1) := by decide +kernel
theorem dX9_clear_6 : decode cX9_clear 6 = .ok (.iconst 0, 1) := by decide +kernel
theorem dX9_clear_7 : decode cX9_clear 7 = .ok (.putfield 213, 3) := by decide +kernel
theorem dX9_clear_10 : decode cX9_clear 10 = .ok (.iload_n 1, 1) := by decide +kernel
theorem dX9_clear_11 : decode cX9_clear 11 = .ok (.ireturn, 1) := by decide +kernel
theorem dX9_skip_0 : decode cX9_skip 0 = .ok (.aload_n 0, 1) := by decide +kernel
theorem dX9_skip_1 : decode cX9_skip 1 = .ok (.getfield 216, 3) := by decide +kernel
theorem dX9_skip_4 : decode cX9_skip 4 = .ok (.aload_n 0, 1) := by decide +kernel
theorem dX9_skip_5 : decode cX9_skip 5 = .ok (.getfield 213, 3) := by decide +kernel
theorem dX9_skip_8 : decode cX9_skip 8 = .ok (.if_icmp .ge 30, 3) := by decide +kernel
theorem dX9_skip_11 : decode cX9_skip 11 = .ok (.aload_n 0, 1) := by decide +kernel
theorem dX9_skip_12 : decode cX9_skip 12 = .ok (.getfield 29, 3) := by decide +kernel
theorem dX9_skip_15 : decode cX9_skip 15 = .ok (.aload_n 0, 1) := by decide +kernel
theorem dX9_skip_16 : decode cX9_skip 16 = .ok (.getfield 216, 3) := by decide +kernel
theorem dX9_skip_19 : decode cX9_skip 19 = .ok (.iaload, 1) := by decide +kernel
theorem dX9_skip_20 : decode cX9_skip 20 = .ok (.bipush 32, 2) := by decide +kernel
theorem dX9_skip_22 : decode cX9_skip 22 = .ok (.if_icmp .ne 16, 3) := by decide +kernel
theorem dX9_skip_25 : decode cX9_skip 25 = .ok (.aload_n 0, 1) := by decide +kernel
theorem dX9_skip_26 : decode cX9_skip 26 = .ok (.dup, 1) := by decide +kernel
theorem dX9_skip_27 : decode cX9_skip 27 = .ok (.getfield 216, 3) := by decide +kernel
theorem dX9_skip_30 : decode cX9_skip 30 = .ok (.iconst 1, 1) := by decide +kernel
theorem dX9_skip_31 : decode cX9_skip 31 = .ok (.iadd, 1) := by decide +kernel
theorem dX9_skip_32 : decode cX9_skip 32 = .ok (.putfield 216, 3) := by decide +kernel
theorem dX9_skip_35 : decode cX9_skip 35 = .ok (.goto (-35), 3) := by decide +kernel
theorem dX9_skip_38 : decode cX9_skip 38 = .ok (.return_, 1) := by decide +kernel
theorem dX9_isByte_0 : decode cX9_isByte 0 = .ok (.iload_n 1, 1) := by decide +kernel
theorem dX9_isByte_1 : decode cX9_isByte 1 = .ok (.aload_n 0, 1) := by decide +kernel
theorem dX9_isByte_2 : decode cX9_isByte 2 = .ok (.getfield 213, 3) := by decide +kernel
theorem dX9_isByte_5 : decode cX9_isByte 5 = .ok (.if_icmp .ge 24, 3) := by decide +kernel
theorem dX9_isByte_8 : decode cX9_isByte 8 = .ok (.aload_n 0, 1) := by decide +kernel
theorem dX9_isByte_9 : decode cX9_isByte 9 = .ok (.getfield 29, 3) := by decide +kernel
theorem dX9_isByte_12 : decode cX9_isByte 12 = .ok (.iload_n 1, 1) := by decide +kernel
theorem dX9_isByte_13 : decode cX9_isByte 13 = .ok (.iaload, 1) := by decide +kernel
theorem dX9_isByte_14 : decode cX9_isByte 14 = .ok (.i2l, 1) := by decide +kernel
theorem dX9_isByte_15 : decode cX9_isByte 15 = .ok (.iload_n 2, 1) := by decide +kernel
theorem dX9_isByte_16 : decode cX9_isByte 16 = .ok (.i2l, 1) := by decide +kernel
theorem dX9_isByte_17 : decode cX9_isByte 17 = .ok (.iload_n 3, 1) := by decide +kernel
theorem dX9_isByte_18 : decode cX9_isByte 18 = .ok (.i2l, 1) := by decide +kernel
theorem dX9_isByte_19 : decode cX9_isByte 19 = .ok (.invokestatic 37, 3) := by decide +kernel
theorem dX9_isByte_22 : decode cX9_isByte 22 = .ok (.ifCond .eq 7, 3) := by decide +kernel
theorem dX9_isByte_25 : decode cX9_isByte 25 = .ok (.iconst 1, 1) := by decide +kernel
theorem dX9_isByte_26 : decode cX9_isByte 26 = .ok (.goto 4, 3) := by decide +kernel
theorem dX9_isByte_29 : decode cX9_isByte 29 = .ok (.iconst 0, 1) := by decide +kernel
theorem dX9_isByte_30 : decode cX9_isByte 30 = .ok (.ireturn, 1) := by decide +kernel
theorem dX9_sortsOf_0 : decode cX9_sortsOf 0 = .ok (.iload_n 0, 1) := by decide +kernel
theorem dX9_sortsOf_1 : decode cX9_sortsOf 1 = .ok (.tableswitch 99 99 114 #[91, 99, 99, 85, 99, 99, 99, 99, 99, 82, 79, 99, 95, 99, 99, 88], 79) := by decide +kernel
theorem dX9_sortsOf_80 : decode cX9_sortsOf 80 = .ok (.ldc 219, 2) := by decide +kernel
theorem dX9_sortsOf_82 : decode cX9_sortsOf 82 = .ok (.ireturn, 1) := by decide +kernel
theorem dX9_sortsOf_83 : decode cX9_sortsOf 83 = .ok (.ldc 220, 2) := by decide +kernel
theorem dX9_sortsOf_85 : decode cX9_sortsOf 85 = .ok (.ireturn, 1) := by decide +kernel
theorem dX9_sortsOf_86 : decode cX9_sortsOf 86 = .ok (.bipush 110, 2) := by decide +kernel
theorem dX9_sortsOf_88 : decode cX9_sortsOf 88 = .ok (.ireturn, 1) := by decide +kernel
theorem dX9_sortsOf_89 : decode cX9_sortsOf 89 = .ok (.ldc 221, 2) := by decide +kernel
theorem dX9_sortsOf_91 : decode cX9_sortsOf 91 = .ok (.ireturn, 1) := by decide +kernel
theorem dX9_sortsOf_92 : decode cX9_sortsOf 92 = .ok (.sipush 31140, 3) := by decide +kernel
theorem dX9_sortsOf_95 : decode cX9_sortsOf 95 = .ok (.ireturn, 1) := by decide +kernel
theorem dX9_sortsOf_96 : decode cX9_sortsOf 96 = .ok (.sipush 2211, 3) := by decide +kernel
theorem dX9_sortsOf_99 : decode cX9_sortsOf 99 = .ok (.ireturn, 1) := by decide +kernel
theorem dX9_sortsOf_100 : decode cX9_sortsOf 100 = .ok (.iconst 0, 1) := by decide +kernel
theorem dX9_sortsOf_101 : decode cX9_sortsOf 101 = .ok (.ireturn, 1) := by decide +kernel
theorem dX9_manyOf_0 : decode cX9_manyOf 0 = .ok (.iload_n 0, 1) := by decide +kernel
theorem dX9_manyOf_1 : decode cX9_manyOf 1 = .ok (.bipush 109, 2) := by decide +kernel
theorem dX9_manyOf_3 : decode cX9_manyOf 3 = .ok (.if_icmp .ne 8, 3) := by decide +kernel
theorem dX9_manyOf_6 : decode cX9_manyOf 6 = .ok (.bipush 9, 2) := by decide +kernel
theorem dX9_manyOf_8 : decode cX9_manyOf 8 = .ok (.goto 61, 3) := by decide +kernel
theorem dX9_manyOf_11 : decode cX9_manyOf 11 = .ok (.iload_n 0, 1) := by decide +kernel
theorem dX9_manyOf_12 : decode cX9_manyOf 12 = .ok (.bipush 108, 2) := by decide +kernel
theorem dX9_manyOf_14 : decode cX9_manyOf 14 = .ok (.if_icmp .eq 9, 3) := by decide +kernel
theorem dX9_manyOf_17 : decode cX9_manyOf 17 = .ok (.iload_n 0, 1) := by decide +kernel
theorem dX9_manyOf_18 : decode cX9_manyOf 18 = .ok (.bipush 114, 2) := by decide +kernel
theorem dX9_manyOf_20 : decode cX9_manyOf 20 = .ok (.if_icmp .ne 8, 3) := by decide +kernel
theorem dX9_manyOf_23 : decode cX9_manyOf 23 = .ok (.bipush 6, 2) := by decide +kernel
theorem dX9_manyOf_25 : decode cX9_manyOf 25 = .ok (.goto 44, 3) := by decide +kernel
theorem dX9_manyOf_28 : decode cX9_manyOf 28 = .ok (.iload_n 0, 1) := by decide +kernel
theorem dX9_manyOf_29 : decode cX9_manyOf 29 = .ok (.bipush 102, 2) := by decide +kernel
theorem dX9_manyOf_31 : decode cX9_manyOf 31 = .ok (.if_icmp .ne 7, 3) := by decide +kernel
theorem dX9_manyOf_34 : decode cX9_manyOf 34 = .ok (.iconst 3, 1) := by decide +kernel
theorem dX9_manyOf_35 : decode cX9_manyOf 35 = .ok (.goto 34, 3) := by decide +kernel
theorem dX9_manyOf_38 : decode cX9_manyOf 38 = .ok (.iload_n 0, 1) := by decide +kernel
theorem dX9_manyOf_39 : decode cX9_manyOf 39 = .ok (.bipush 99, 2) := by decide +kernel
theorem dX9_manyOf_41 : decode cX9_manyOf 41 = .ok (.if_icmp .ne 7, 3) := by decide +kernel
theorem dX9_manyOf_44 : decode cX9_manyOf 44 = .ok (.iconst 5, 1) := by decide +kernel
theorem dX9_manyOf_45 : decode cX9_manyOf 45 = .ok (.goto 24, 3) := by decide +kernel
theorem dX9_manyOf_48 : decode cX9_manyOf 48 = .ok (.iload_n 0, 1) := by decide +kernel
theorem dX9_manyOf_49 : decode cX9_manyOf 49 = .ok (.bipush 111, 2) := by decide +kernel
theorem dX9_manyOf_51 : decode cX9_manyOf 51 = .ok (.if_icmp .ne 7, 3) := by decide +kernel
theorem dX9_manyOf_54 : decode cX9_manyOf 54 = .ok (.iconst 4, 1) := by decide +kernel
theorem dX9_manyOf_55 : decode cX9_manyOf 55 = .ok (.goto 14, 3) := by decide +kernel
theorem dX9_manyOf_58 : decode cX9_manyOf 58 = .ok (.iload_n 0, 1) := by decide +kernel
theorem dX9_manyOf_59 : decode cX9_manyOf 59 = .ok (.bipush 107, 2) := by decide +kernel
theorem dX9_manyOf_61 : decode cX9_manyOf 61 = .ok (.if_icmp .ne 7, 3) := by decide +kernel
theorem dX9_manyOf_64 : decode cX9_manyOf 64 = .ok (.iconst 0, 1) := by decide +kernel
theorem dX9_manyOf_65 : decode cX9_manyOf 65 = .ok (.goto 4, 3) := by decide +kernel
theorem dX9_manyOf_68 : decode cX9_manyOf 68 = .ok (.iconst (-1), 1) := by decide +kernel
theorem dX9_manyOf_69 : decode cX9_manyOf 69 = .ok (.ireturn, 1) := by decide +kernel
theorem dX9_isAs_0 : decode cX9_isAs 0 = .ok (.iload_n 0, 1) := by decide +kernel
theorem dX9_isAs_1 : decode cX9_isAs 1 = .ok (.ifCond .ne 15, 3) := by decide +kernel
theorem dX9_isAs_4 : decode cX9_isAs 4 = .ok (.iload_n 1, 1) := by decide +kernel
theorem dX9_isAs_5 : decode cX9_isAs 5 = .ok (.i2l, 1) := by decide +kernel
theorem dX9_isAs_6 : decode cX9_isAs 6 = .ok (.lconst 0, 1) := by decide +kernel
theorem dX9_isAs_7 : decode cX9_isAs 7 = .ok (.ldc2_w 35, 3) := by decide +kernel
theorem dX9_isAs_10 : decode cX9_isAs 10 = .ok (.invokestatic 37, 3) := by decide +kernel
theorem dX9_isAs_13 : decode cX9_isAs 13 = .ok (.goto 65, 3) := by decide +kernel
theorem dX9_isAs_16 : decode cX9_isAs 16 = .ok (.iload_n 0, 1) := by decide +kernel
theorem dX9_isAs_17 : decode cX9_isAs 17 = .ok (.iconst 1, 1) := by decide +kernel
theorem dX9_isAs_18 : decode cX9_isAs 18 = .ok (.if_icmp .ne 17, 3) := by decide +kernel
theorem dX9_isAs_21 : decode cX9_isAs 21 = .ok (.iload_n 1, 1) := by decide +kernel
theorem dX9_isAs_22 : decode cX9_isAs 22 = .ok (.i2l, 1) := by decide +kernel
theorem dX9_isAs_23 : decode cX9_isAs 23 = .ok (.ldc2_w 41, 3) := by decide +kernel
theorem dX9_isAs_26 : decode cX9_isAs 26 = .ok (.ldc2_w 43, 3) := by decide +kernel
theorem dX9_isAs_29 : decode cX9_isAs 29 = .ok (.invokestatic 37, 3) := by decide +kernel
theorem dX9_isAs_32 : decode cX9_isAs 32 = .ok (.goto 46, 3) := by decide +kernel
theorem dX9_isAs_35 : decode cX9_isAs 35 = .ok (.iload_n 0, 1) := by decide +kernel
theorem dX9_isAs_36 : decode cX9_isAs 36 = .ok (.iconst 2, 1) := by decide +kernel
theorem dX9_isAs_37 : decode cX9_isAs 37 = .ok (.if_icmp .ne 15, 3) := by decide +kernel
theorem dX9_isAs_40 : decode cX9_isAs 40 = .ok (.iload_n 1, 1) := by decide +kernel
theorem dX9_isAs_41 : decode cX9_isAs 41 = .ok (.i2l, 1) := by decide +kernel
theorem dX9_isAs_42 : decode cX9_isAs 42 = .ok (.lconst 1, 1) := by decide +kernel
theorem dX9_isAs_43 : decode cX9_isAs 43 = .ok (.ldc2_w 45, 3) := by decide +kernel
theorem dX9_isAs_46 : decode cX9_isAs 46 = .ok (.invokestatic 37, 3) := by decide +kernel
theorem dX9_isAs_49 : decode cX9_isAs 49 = .ok (.goto 29, 3) := by decide +kernel
theorem dX9_isAs_52 : decode cX9_isAs 52 = .ok (.iload_n 0, 1) := by decide +kernel
theorem dX9_isAs_53 : decode cX9_isAs 53 = .ok (.iconst 3, 1) := by decide +kernel
theorem dX9_isAs_54 : decode cX9_isAs 54 = .ok (.if_icmp .ne 15, 3) := by decide +kernel
theorem dX9_isAs_57 : decode cX9_isAs 57 = .ok (.iload_n 1, 1) := by decide +kernel
theorem dX9_isAs_58 : decode cX9_isAs 58 = .ok (.i2l, 1) := by decide +kernel
theorem dX9_isAs_59 : decode cX9_isAs 59 = .ok (.lconst 0, 1) := by decide +kernel
theorem dX9_isAs_60 : decode cX9_isAs 60 = .ok (.ldc2_w 47, 3) := by decide +kernel
theorem dX9_isAs_63 : decode cX9_isAs 63 = .ok (.invokestatic 37, 3) := by decide +kernel
theorem dX9_isAs_66 : decode cX9_isAs 66 = .ok (.goto 12, 3) := by decide +kernel
theorem dX9_isAs_69 : decode cX9_isAs 69 = .ok (.iload_n 1, 1) := by decide +kernel
theorem dX9_isAs_70 : decode cX9_isAs 70 = .ok (.i2l, 1) := by decide +kernel
theorem dX9_isAs_71 : decode cX9_isAs 71 = .ok (.lconst 0, 1) := by decide +kernel
theorem dX9_isAs_72 : decode cX9_isAs 72 = .ok (.ldc2_w 178, 3) := by decide +kernel
theorem dX9_isAs_75 : decode cX9_isAs 75 = .ok (.invokestatic 37, 3) := by decide +kernel
theorem dX9_isAs_78 : decode cX9_isAs 78 = .ok (.ireturn, 1) := by decide +kernel
theorem dX9_takes_0 : decode cX9_takes 0 = .ok (.aload_n 0, 1) := by decide +kernel
theorem dX9_takes_1 : decode cX9_takes 1 = .ok (.getfield 216, 3) := by decide +kernel
theorem dX9_takes_4 : decode cX9_takes 4 = .ok (.istore_n 3, 1) := by decide +kernel
theorem dX9_takes_5 : decode cX9_takes 5 = .ok (.aload_n 0, 1) := by decide +kernel
theorem dX9_takes_6 : decode cX9_takes 6 = .ok (.invokevirtual 222, 3) := by decide +kernel
theorem dX9_takes_9 : decode cX9_takes 9 = .ok (.aload_n 0, 1) := by decide +kernel
theorem dX9_takes_10 : decode cX9_takes 10 = .ok (.getfield 216, 3) := by decide +kernel
theorem dX9_takes_13 : decode cX9_takes 13 = .ok (.istore 4, 2) := by decide +kernel
theorem dX9_takes_15 : decode cX9_takes 15 = .ok (.aload_n 0, 1) := by decide +kernel
theorem dX9_takes_16 : decode cX9_takes 16 = .ok (.iload 4, 2) := by decide +kernel
theorem dX9_takes_18 : decode cX9_takes 18 = .ok (.bipush 45, 2) := by decide +kernel
theorem dX9_takes_20 : decode cX9_takes 20 = .ok (.bipush 45, 2) := by decide +kernel
theorem dX9_takes_22 : decode cX9_takes 22 = .ok (.invokevirtual 225, 3) := by decide +kernel
theorem dX9_takes_25 : decode cX9_takes 25 = .ok (.istore 5, 2) := by decide +kernel
theorem dX9_takes_27 : decode cX9_takes 27 = .ok (.iload_n 1, 1) := by decide +kernel
theorem dX9_takes_28 : decode cX9_takes 28 = .ok (.ifCond .eq 14, 3) := by decide +kernel
theorem dX9_takes_31 : decode cX9_takes 31 = .ok (.iload 4, 2) := by decide +kernel
theorem dX9_takes_33 : decode cX9_takes 33 = .ok (.iload_n 3, 1) := by decide +kernel
theorem dX9_takes_34 : decode cX9_takes 34 = .ok (.if_icmp .gt 8, 3) := by decide +kernel
theorem dX9_takes_37 : decode cX9_takes 37 = .ok (.iload 5, 2) := by decide +kernel
theorem dX9_takes_39 : decode cX9_takes 39 = .ok (.ifCond .eq 7, 3) := by decide +kernel
theorem dX9_takes_42 : decode cX9_takes 42 = .ok (.iconst 1, 1) := by decide +kernel
theorem dX9_takes_43 : decode cX9_takes 43 = .ok (.goto 4, 3) := by decide +kernel
theorem dX9_takes_46 : decode cX9_takes 46 = .ok (.iconst 0, 1) := by decide +kernel
theorem dX9_takes_47 : decode cX9_takes 47 = .ok (.istore 6, 2) := by decide +kernel
theorem dX9_takes_49 : decode cX9_takes 49 = .ok (.iload 5, 2) := by decide +kernel
theorem dX9_takes_51 : decode cX9_takes 51 = .ok (.ifCond .eq 10, 3) := by decide +kernel
theorem dX9_takes_54 : decode cX9_takes 54 = .ok (.iload 4, 2) := by decide +kernel
theorem dX9_takes_56 : decode cX9_takes 56 = .ok (.iconst 1, 1) := by decide +kernel
theorem dX9_takes_57 : decode cX9_takes 57 = .ok (.iadd, 1) := by decide +kernel
theorem dX9_takes_58 : decode cX9_takes 58 = .ok (.goto 5, 3) := by decide +kernel
theorem dX9_takes_61 : decode cX9_takes 61 = .ok (.iload 4, 2) := by decide +kernel
theorem dX9_takes_63 : decode cX9_takes 63 = .ok (.istore 7, 2) := by decide +kernel
theorem dX9_takes_65 : decode cX9_takes 65 = .ok (.iconst 0, 1) := by decide +kernel
theorem dX9_takes_66 : decode cX9_takes 66 = .ok (.istore 8, 2) := by decide +kernel
theorem dX9_takes_68 : decode cX9_takes 68 = .ok (.iconst 0, 1) := by decide +kernel
theorem dX9_takes_69 : decode cX9_takes 69 = .ok (.istore 9, 2) := by decide +kernel
theorem dX9_takes_71 : decode cX9_takes 71 = .ok (.aload_n 0, 1) := by decide +kernel
theorem dX9_takes_72 : decode cX9_takes 72 = .ok (.iload 7, 2) := by decide +kernel
theorem dX9_takes_74 : decode cX9_takes 74 = .ok (.bipush 48, 2) := by decide +kernel
theorem dX9_takes_76 : decode cX9_takes 76 = .ok (.bipush 57, 2) := by decide +kernel
theorem dX9_takes_78 : decode cX9_takes 78 = .ok (.invokevirtual 225, 3) := by decide +kernel
theorem dX9_takes_81 : decode cX9_takes 81 = .ok (.ifCond .eq 41, 3) := by decide +kernel
theorem dX9_takes_84 : decode cX9_takes 84 = .ok (.iload 9, 2) := by decide +kernel
theorem dX9_takes_86 : decode cX9_takes 86 = .ok (.iconst 3, 1) := by decide +kernel
theorem dX9_takes_87 : decode cX9_takes 87 = .ok (.if_icmp .ge 22, 3) := by decide +kernel
theorem dX9_takes_90 : decode cX9_takes 90 = .ok (.bipush 10, 2) := by decide +kernel
theorem dX9_takes_92 : decode cX9_takes 92 = .ok (.iload 8, 2) := by decide +kernel
theorem dX9_takes_94 : decode cX9_takes 94 = .ok (.imul, 1) := by decide +kernel
theorem dX9_takes_95 : decode cX9_takes 95 = .ok (.aload_n 0, 1) := by decide +kernel
theorem dX9_takes_96 : decode cX9_takes 96 = .ok (.getfield 29, 3) := by decide +kernel
theorem dX9_takes_99 : decode cX9_takes 99 = .ok (.iload 7, 2) := by decide +kernel
theorem dX9_takes_101 : decode cX9_takes 101 = .ok (.iaload, 1) := by decide +kernel
theorem dX9_takes_102 : decode cX9_takes 102 = .ok (.iadd, 1) := by decide +kernel
theorem dX9_takes_103 : decode cX9_takes 103 = .ok (.bipush 48, 2) := by decide +kernel
theorem dX9_takes_105 : decode cX9_takes 105 = .ok (.isub, 1) := by decide +kernel
theorem dX9_takes_106 : decode cX9_takes 106 = .ok (.goto 5, 3) := by decide +kernel
theorem dX9_takes_109 : decode cX9_takes 109 = .ok (.iload 8, 2) := by decide +kernel
theorem dX9_takes_111 : decode cX9_takes 111 = .ok (.istore 8, 2) := by decide +kernel
theorem dX9_takes_113 : decode cX9_takes 113 = .ok (.iinc 9 1, 3) := by decide +kernel
theorem dX9_takes_116 : decode cX9_takes 116 = .ok (.iinc 7 1, 3) := by decide +kernel
theorem dX9_takes_119 : decode cX9_takes 119 = .ok (.goto (-48), 3) := by decide +kernel
theorem dX9_takes_122 : decode cX9_takes 122 = .ok (.iload 6, 2) := by decide +kernel
theorem dX9_takes_124 : decode cX9_takes 124 = .ok (.ifCond .eq 40, 3) := by decide +kernel
theorem dX9_takes_127 : decode cX9_takes 127 = .ok (.iload 9, 2) := by decide +kernel
theorem dX9_takes_129 : decode cX9_takes 129 = .ok (.i2l, 1) := by decide +kernel
theorem dX9_takes_130 : decode cX9_takes 130 = .ok (.lconst 1, 1) := by decide +kernel
theorem dX9_takes_131 : decode cX9_takes 131 = .ok (.ldc2_w 229, 3) := by decide +kernel
theorem dX9_takes_134 : decode cX9_takes 134 = .ok (.invokestatic 37, 3) := by decide +kernel
theorem dX9_takes_137 : decode cX9_takes 137 = .ok (.ifCond .eq 27, 3) := by decide +kernel
theorem dX9_takes_140 : decode cX9_takes 140 = .ok (.iload_n 2, 1) := by decide +kernel
theorem dX9_takes_141 : decode cX9_takes 141 = .ok (.iload 5, 2) := by decide +kernel
theorem dX9_takes_143 : decode cX9_takes 143 = .ok (.ifCond .eq 9, 3) := by decide +kernel
theorem dX9_takes_146 : decode cX9_takes 146 = .ok (.iload 8, 2) := by decide +kernel
theorem dX9_takes_148 : decode cX9_takes 148 = .ok (.ineg, 1) := by decide +kernel
theorem dX9_takes_149 : decode cX9_takes 149 = .ok (.goto 5, 3) := by decide +kernel
theorem dX9_takes_152 : decode cX9_takes 152 = .ok (.iload 8, 2) := by decide +kernel
theorem dX9_takes_154 : decode cX9_takes 154 = .ok (.invokestatic 231, 3) := by decide +kernel
theorem dX9_takes_157 : decode cX9_takes 157 = .ok (.ifCond .eq 7, 3) := by decide +kernel
theorem dX9_takes_160 : decode cX9_takes 160 = .ok (.iconst 1, 1) := by decide +kernel
theorem dX9_takes_161 : decode cX9_takes 161 = .ok (.goto 4, 3) := by decide +kernel
theorem dX9_takes_164 : decode cX9_takes 164 = .ok (.iconst 0, 1) := by decide +kernel
theorem dX9_takes_165 : decode cX9_takes 165 = .ok (.istore 10, 2) := by decide +kernel
theorem dX9_takes_167 : decode cX9_takes 167 = .ok (.aload_n 0, 1) := by decide +kernel
theorem dX9_takes_168 : decode cX9_takes 168 = .ok (.getfield 32, 3) := by decide +kernel
theorem dX9_takes_171 : decode cX9_takes 171 = .ok (.iload_n 1, 1) := by decide +kernel
theorem dX9_takes_172 : decode cX9_takes 172 = .ok (.iload 5, 2) := by decide +kernel
theorem dX9_takes_174 : decode cX9_takes 174 = .ok (.ifCond .eq 9, 3) := by decide +kernel
theorem dX9_takes_177 : decode cX9_takes 177 = .ok (.iload 8, 2) := by decide +kernel
theorem dX9_takes_179 : decode cX9_takes 179 = .ok (.ineg, 1) := by decide +kernel
theorem dX9_takes_180 : decode cX9_takes 180 = .ok (.goto 5, 3) := by decide +kernel
theorem dX9_takes_183 : decode cX9_takes 183 = .ok (.iload 8, 2) := by decide +kernel
theorem dX9_takes_185 : decode cX9_takes 185 = .ok (.iastore, 1) := by decide +kernel
theorem dX9_takes_186 : decode cX9_takes 186 = .ok (.aload_n 0, 1) := by decide +kernel
theorem dX9_takes_187 : decode cX9_takes 187 = .ok (.iload 10, 2) := by decide +kernel
theorem dX9_takes_189 : decode cX9_takes 189 = .ok (.ifCond .eq 8, 3) := by decide +kernel
theorem dX9_takes_192 : decode cX9_takes 192 = .ok (.iload 7, 2) := by decide +kernel
theorem dX9_takes_194 : decode cX9_takes 194 = .ok (.goto 5, 3) := by decide +kernel
theorem dX9_takes_197 : decode cX9_takes 197 = .ok (.iload 4, 2) := by decide +kernel
theorem dX9_takes_199 : decode cX9_takes 199 = .ok (.putfield 216, 3) := by decide +kernel
theorem dX9_takes_202 : decode cX9_takes 202 = .ok (.iload 10, 2) := by decide +kernel
theorem dX9_takes_204 : decode cX9_takes 204 = .ok (.ireturn, 1) := by decide +kernel
theorem dX9_reads_0 : decode cX9_reads 0 = .ok (.aload_n 0, 1) := by decide +kernel
theorem dX9_reads_1 : decode cX9_reads 1 = .ok (.invokevirtual 222, 3) := by decide +kernel
theorem dX9_reads_4 : decode cX9_reads 4 = .ok (.aload_n 0, 1) := by decide +kernel
theorem dX9_reads_5 : decode cX9_reads 5 = .ok (.getfield 216, 3) := by decide +kernel
theorem dX9_reads_8 : decode cX9_reads 8 = .ok (.istore_n 2, 1) := by decide +kernel
theorem dX9_reads_9 : decode cX9_reads 9 = .ok (.iload_n 2, 1) := by decide +kernel
theorem dX9_reads_10 : decode cX9_reads 10 = .ok (.aload_n 0, 1) := by decide +kernel
theorem dX9_reads_11 : decode cX9_reads 11 = .ok (.getfield 213, 3) := by decide +kernel
theorem dX9_reads_14 : decode cX9_reads 14 = .ok (.if_icmp .ge 12, 3) := by decide +kernel
theorem dX9_reads_17 : decode cX9_reads 17 = .ok (.aload_n 0, 1) := by decide +kernel
theorem dX9_reads_18 : decode cX9_reads 18 = .ok (.getfield 29, 3) := by decide +kernel
theorem dX9_reads_21 : decode cX9_reads 21 = .ok (.iload_n 2, 1) := by decide +kernel
theorem dX9_reads_22 : decode cX9_reads 22 = .ok (.iaload, 1) := by decide +kernel
theorem dX9_reads_23 : decode cX9_reads 23 = .ok (.goto 4, 3) := by decide +kernel
theorem dX9_reads_26 : decode cX9_reads 26 = .ok (.iconst (-1), 1) := by decide +kernel
theorem dX9_reads_27 : decode cX9_reads 27 = .ok (.istore_n 3, 1) := by decide +kernel
theorem dX9_reads_28 : decode cX9_reads 28 = .ok (.iload_n 3, 1) := by decide +kernel
theorem dX9_reads_29 : decode cX9_reads 29 = .ok (.invokestatic 234, 3) := by decide +kernel
theorem dX9_reads_32 : decode cX9_reads 32 = .ok (.istore 4, 2) := by decide +kernel
theorem dX9_reads_34 : decode cX9_reads 34 = .ok (.iload 4, 2) := by decide +kernel
theorem dX9_reads_36 : decode cX9_reads 36 = .ok (.iconst (-1), 1) := by decide +kernel
theorem dX9_reads_37 : decode cX9_reads 37 = .ok (.if_icmp .eq 14, 3) := by decide +kernel
theorem dX9_reads_40 : decode cX9_reads 40 = .ok (.iload_n 3, 1) := by decide +kernel
theorem dX9_reads_41 : decode cX9_reads 41 = .ok (.bipush 111, 2) := by decide +kernel
theorem dX9_reads_43 : decode cX9_reads 43 = .ok (.if_icmp .ne 10, 3) := by decide +kernel
theorem dX9_reads_46 : decode cX9_reads 46 = .ok (.iload_n 1, 1) := by decide +kernel
theorem dX9_reads_47 : decode cX9_reads 47 = .ok (.iconst 4, 1) := by decide +kernel
theorem dX9_reads_48 : decode cX9_reads 48 = .ok (.if_icmp .ne 5, 3) := by decide +kernel
theorem dX9_reads_51 : decode cX9_reads 51 = .ok (.iconst (-1), 1) := by decide +kernel
theorem dX9_reads_52 : decode cX9_reads 52 = .ok (.ireturn, 1) := by decide +kernel
theorem dX9_reads_53 : decode cX9_reads 53 = .ok (.aload_n 0, 1) := by decide +kernel
theorem dX9_reads_54 : decode cX9_reads 54 = .ok (.dup, 1) := by decide +kernel
theorem dX9_reads_55 : decode cX9_reads 55 = .ok (.getfield 216, 3) := by decide +kernel
theorem dX9_reads_58 : decode cX9_reads 58 = .ok (.iconst 1, 1) := by decide +kernel
theorem dX9_reads_59 : decode cX9_reads 59 = .ok (.iadd, 1) := by decide +kernel
theorem dX9_reads_60 : decode cX9_reads 60 = .ok (.putfield 216, 3) := by decide +kernel
theorem dX9_reads_63 : decode cX9_reads 63 = .ok (.iload_n 3, 1) := by decide +kernel
theorem dX9_reads_64 : decode cX9_reads 64 = .ok (.invokestatic 237, 3) := by decide +kernel
theorem dX9_reads_67 : decode cX9_reads 67 = .ok (.istore 5, 2) := by decide +kernel
theorem dX9_reads_69 : decode cX9_reads 69 = .ok (.iconst 0, 1) := by decide +kernel
theorem dX9_reads_70 : decode cX9_reads 70 = .ok (.istore 6, 2) := by decide +kernel
theorem dX9_reads_72 : decode cX9_reads 72 = .ok (.iload 6, 2) := by decide +kernel
theorem dX9_reads_74 : decode cX9_reads 74 = .ok (.iload 4, 2) := by decide +kernel
theorem dX9_reads_76 : decode cX9_reads 76 = .ok (.if_icmp .ge 32, 3) := by decide +kernel
theorem dX9_reads_79 : decode cX9_reads 79 = .ok (.aload_n 0, 1) := by decide +kernel
theorem dX9_reads_80 : decode cX9_reads 80 = .ok (.iload 6, 2) := by decide +kernel
theorem dX9_reads_82 : decode cX9_reads 82 = .ok (.iload 5, 2) := by decide +kernel
theorem dX9_reads_84 : decode cX9_reads 84 = .ok (.bipush 10, 2) := by decide +kernel
theorem dX9_reads_86 : decode cX9_reads 86 = .ok (.irem, 1) := by decide +kernel
theorem dX9_reads_87 : decode cX9_reads 87 = .ok (.invokevirtual 240, 3) := by decide +kernel
theorem dX9_reads_90 : decode cX9_reads 90 = .ok (.ifCond .ne 5, 3) := by decide +kernel
theorem dX9_reads_93 : decode cX9_reads 93 = .ok (.iconst (-1), 1) := by decide +kernel
theorem dX9_reads_94 : decode cX9_reads 94 = .ok (.ireturn, 1) := by decide +kernel
theorem dX9_reads_95 : decode cX9_reads 95 = .ok (.iload 5, 2) := by decide +kernel
theorem dX9_reads_97 : decode cX9_reads 97 = .ok (.bipush 10, 2) := by decide +kernel
theorem dX9_reads_99 : decode cX9_reads 99 = .ok (.idiv, 1) := by decide +kernel
theorem dX9_reads_100 : decode cX9_reads 100 = .ok (.istore 5, 2) := by decide +kernel
theorem dX9_reads_102 : decode cX9_reads 102 = .ok (.iinc 6 1, 3) := by decide +kernel
theorem dX9_reads_105 : decode cX9_reads 105 = .ok (.goto (-33), 3) := by decide +kernel
theorem dX9_reads_108 : decode cX9_reads 108 = .ok (.aload_n 0, 1) := by decide +kernel
theorem dX9_reads_109 : decode cX9_reads 109 = .ok (.invokevirtual 222, 3) := by decide +kernel
theorem dX9_reads_112 : decode cX9_reads 112 = .ok (.aload_n 0, 1) := by decide +kernel
theorem dX9_reads_113 : decode cX9_reads 113 = .ok (.aload_n 0, 1) := by decide +kernel
theorem dX9_reads_114 : decode cX9_reads 114 = .ok (.getfield 216, 3) := by decide +kernel
theorem dX9_reads_117 : decode cX9_reads 117 = .ok (.bipush 59, 2) := by decide +kernel
theorem dX9_reads_119 : decode cX9_reads 119 = .ok (.bipush 59, 2) := by decide +kernel
theorem dX9_reads_121 : decode cX9_reads 121 = .ok (.invokevirtual 225, 3) := by decide +kernel
theorem dX9_reads_124 : decode cX9_reads 124 = .ok (.ifCond .ne 5, 3) := by decide +kernel
theorem dX9_reads_127 : decode cX9_reads 127 = .ok (.iconst (-1), 1) := by decide +kernel
theorem dX9_reads_128 : decode cX9_reads 128 = .ok (.ireturn, 1) := by decide +kernel
theorem dX9_reads_129 : decode cX9_reads 129 = .ok (.aload_n 0, 1) := by decide +kernel
theorem dX9_reads_130 : decode cX9_reads 130 = .ok (.dup, 1) := by decide +kernel
theorem dX9_reads_131 : decode cX9_reads 131 = .ok (.getfield 216, 3) := by decide +kernel
theorem dX9_reads_134 : decode cX9_reads 134 = .ok (.iconst 1, 1) := by decide +kernel
theorem dX9_reads_135 : decode cX9_reads 135 = .ok (.iadd, 1) := by decide +kernel
theorem dX9_reads_136 : decode cX9_reads 136 = .ok (.putfield 216, 3) := by decide +kernel
theorem dX9_reads_139 : decode cX9_reads 139 = .ok (.iload_n 3, 1) := by decide +kernel
theorem dX9_reads_140 : decode cX9_reads 140 = .ok (.ireturn, 1) := by decide +kernel
theorem dX9_doesOne_0 : decode cX9_doesOne 0 = .ok (.aload_n 0, 1) := by decide +kernel
theorem dX9_doesOne_1 : decode cX9_doesOne 1 = .ok (.getfield 32, 3) := by decide +kernel
theorem dX9_doesOne_4 : decode cX9_doesOne 4 = .ok (.iconst 0, 1) := by decide +kernel
theorem dX9_doesOne_5 : decode cX9_doesOne 5 = .ok (.iaload, 1) := by decide +kernel
theorem dX9_doesOne_6 : decode cX9_doesOne 6 = .ok (.istore_n 2, 1) := by decide +kernel
theorem dX9_doesOne_7 : decode cX9_doesOne 7 = .ok (.iload_n 1, 1) := by decide +kernel
theorem dX9_doesOne_8 : decode cX9_doesOne 8 = .ok (.tableswitch 305 99 114 #[250, 305, 305, 173, 305, 305, 305, 305, 305, 137, 80, 305, 280, 305, 305, 214], 80) := by decide +kernel
theorem dX9_doesOne_88 : decode cX9_doesOne 88 = .ok (.aload_n 0, 1) := by decide +kernel
theorem dX9_doesOne_89 : decode cX9_doesOne 89 = .ok (.iload_n 2, 1) := by decide +kernel
theorem dX9_doesOne_90 : decode cX9_doesOne 90 = .ok (.aload_n 0, 1) := by decide +kernel
theorem dX9_doesOne_91 : decode cX9_doesOne 91 = .ok (.getfield 32, 3) := by decide +kernel
theorem dX9_doesOne_94 : decode cX9_doesOne 94 = .ok (.iconst 1, 1) := by decide +kernel
theorem dX9_doesOne_95 : decode cX9_doesOne 95 = .ok (.iaload, 1) := by decide +kernel
theorem dX9_doesOne_96 : decode cX9_doesOne 96 = .ok (.aload_n 0, 1) := by decide +kernel
theorem dX9_doesOne_97 : decode cX9_doesOne 97 = .ok (.getfield 32, 3) := by decide +kernel
theorem dX9_doesOne_100 : decode cX9_doesOne 100 = .ok (.iconst 2, 1) := by decide +kernel
theorem dX9_doesOne_101 : decode cX9_doesOne 101 = .ok (.iaload, 1) := by decide +kernel
theorem dX9_doesOne_102 : decode cX9_doesOne 102 = .ok (.aload_n 0, 1) := by decide +kernel
theorem dX9_doesOne_103 : decode cX9_doesOne 103 = .ok (.getfield 32, 3) := by decide +kernel
theorem dX9_doesOne_106 : decode cX9_doesOne 106 = .ok (.iconst 3, 1) := by decide +kernel
theorem dX9_doesOne_107 : decode cX9_doesOne 107 = .ok (.iaload, 1) := by decide +kernel
theorem dX9_doesOne_108 : decode cX9_doesOne 108 = .ok (.aload_n 0, 1) := by decide +kernel
theorem dX9_doesOne_109 : decode cX9_doesOne 109 = .ok (.getfield 32, 3) := by decide +kernel
theorem dX9_doesOne_112 : decode cX9_doesOne 112 = .ok (.iconst 4, 1) := by decide +kernel
theorem dX9_doesOne_113 : decode cX9_doesOne 113 = .ok (.iaload, 1) := by decide +kernel
theorem dX9_doesOne_114 : decode cX9_doesOne 114 = .ok (.aload_n 0, 1) := by decide +kernel
theorem dX9_doesOne_115 : decode cX9_doesOne 115 = .ok (.getfield 32, 3) := by decide +kernel
theorem dX9_doesOne_118 : decode cX9_doesOne 118 = .ok (.iconst 5, 1) := by decide +kernel
theorem dX9_doesOne_119 : decode cX9_doesOne 119 = .ok (.iaload, 1) := by decide +kernel
theorem dX9_doesOne_120 : decode cX9_doesOne 120 = .ok (.aload_n 0, 1) := by decide +kernel
theorem dX9_doesOne_121 : decode cX9_doesOne 121 = .ok (.getfield 32, 3) := by decide +kernel
theorem dX9_doesOne_124 : decode cX9_doesOne 124 = .ok (.bipush 6, 2) := by decide +kernel
theorem dX9_doesOne_126 : decode cX9_doesOne 126 = .ok (.iaload, 1) := by decide +kernel
theorem dX9_doesOne_127 : decode cX9_doesOne 127 = .ok (.aload_n 0, 1) := by decide +kernel
theorem dX9_doesOne_128 : decode cX9_doesOne 128 = .ok (.getfield 32, 3) := by decide +kernel
theorem dX9_doesOne_131 : decode cX9_doesOne 131 = .ok (.bipush 7, 2) := by decide +kernel
theorem dX9_doesOne_133 : decode cX9_doesOne 133 = .ok (.iaload, 1) := by decide +kernel
theorem dX9_doesOne_134 : decode cX9_doesOne 134 = .ok (.aload_n 0, 1) := by decide +kernel
theorem dX9_doesOne_135 : decode cX9_doesOne 135 = .ok (.getfield 32, 3) := by decide +kernel
theorem dX9_doesOne_138 : decode cX9_doesOne 138 = .ok (.bipush 8, 2) := by decide +kernel
theorem dX9_doesOne_140 : decode cX9_doesOne 140 = .ok (.iaload, 1) := by decide +kernel
theorem dX9_doesOne_141 : decode cX9_doesOne 141 = .ok (.invokevirtual 138, 3) := by decide +kernel
theorem dX9_doesOne_144 : decode cX9_doesOne 144 = .ok (.ireturn, 1) := by decide +kernel
theorem dX9_doesOne_145 : decode cX9_doesOne 145 = .ok (.aload_n 0, 1) := by decide +kernel
theorem dX9_doesOne_146 : decode cX9_doesOne 146 = .ok (.iload_n 2, 1) := by decide +kernel
theorem dX9_doesOne_147 : decode cX9_doesOne 147 = .ok (.aload_n 0, 1) := by decide +kernel
theorem dX9_doesOne_148 : decode cX9_doesOne 148 = .ok (.getfield 32, 3) := by decide +kernel
theorem dX9_doesOne_151 : decode cX9_doesOne 151 = .ok (.iconst 1, 1) := by decide +kernel
theorem dX9_doesOne_152 : decode cX9_doesOne 152 = .ok (.iaload, 1) := by decide +kernel
theorem dX9_doesOne_153 : decode cX9_doesOne 153 = .ok (.aload_n 0, 1) := by decide +kernel
theorem dX9_doesOne_154 : decode cX9_doesOne 154 = .ok (.getfield 32, 3) := by decide +kernel
theorem dX9_doesOne_157 : decode cX9_doesOne 157 = .ok (.iconst 2, 1) := by decide +kernel
theorem dX9_doesOne_158 : decode cX9_doesOne 158 = .ok (.iaload, 1) := by decide +kernel
theorem dX9_doesOne_159 : decode cX9_doesOne 159 = .ok (.aload_n 0, 1) := by decide +kernel
theorem dX9_doesOne_160 : decode cX9_doesOne 160 = .ok (.getfield 32, 3) := by decide +kernel
theorem dX9_doesOne_163 : decode cX9_doesOne 163 = .ok (.iconst 3, 1) := by decide +kernel
theorem dX9_doesOne_164 : decode cX9_doesOne 164 = .ok (.iaload, 1) := by decide +kernel
theorem dX9_doesOne_165 : decode cX9_doesOne 165 = .ok (.aload_n 0, 1) := by decide +kernel
theorem dX9_doesOne_166 : decode cX9_doesOne 166 = .ok (.getfield 32, 3) := by decide +kernel
theorem dX9_doesOne_169 : decode cX9_doesOne 169 = .ok (.iconst 4, 1) := by decide +kernel
theorem dX9_doesOne_170 : decode cX9_doesOne 170 = .ok (.iaload, 1) := by decide +kernel
theorem dX9_doesOne_171 : decode cX9_doesOne 171 = .ok (.aload_n 0, 1) := by decide +kernel
theorem dX9_doesOne_172 : decode cX9_doesOne 172 = .ok (.getfield 32, 3) := by decide +kernel
theorem dX9_doesOne_175 : decode cX9_doesOne 175 = .ok (.iconst 5, 1) := by decide +kernel
theorem dX9_doesOne_176 : decode cX9_doesOne 176 = .ok (.iaload, 1) := by decide +kernel
theorem dX9_doesOne_177 : decode cX9_doesOne 177 = .ok (.invokevirtual 148, 3) := by decide +kernel
theorem dX9_doesOne_180 : decode cX9_doesOne 180 = .ok (.ireturn, 1) := by decide +kernel
theorem dX9_doesOne_181 : decode cX9_doesOne 181 = .ok (.aload_n 0, 1) := by decide +kernel
theorem dX9_doesOne_182 : decode cX9_doesOne 182 = .ok (.aload_n 0, 1) := by decide +kernel
theorem dX9_doesOne_183 : decode cX9_doesOne 183 = .ok (.getfield 32, 3) := by decide +kernel
theorem dX9_doesOne_186 : decode cX9_doesOne 186 = .ok (.iconst 1, 1) := by decide +kernel
theorem dX9_doesOne_187 : decode cX9_doesOne 187 = .ok (.iaload, 1) := by decide +kernel
theorem dX9_doesOne_188 : decode cX9_doesOne 188 = .ok (.aload_n 0, 1) := by decide +kernel
theorem dX9_doesOne_189 : decode cX9_doesOne 189 = .ok (.getfield 32, 3) := by decide +kernel
theorem dX9_doesOne_192 : decode cX9_doesOne 192 = .ok (.iconst 2, 1) := by decide +kernel
theorem dX9_doesOne_193 : decode cX9_doesOne 193 = .ok (.iaload, 1) := by decide +kernel
theorem dX9_doesOne_194 : decode cX9_doesOne 194 = .ok (.invokevirtual 166, 3) := by decide +kernel
theorem dX9_doesOne_197 : decode cX9_doesOne 197 = .ok (.ifCond .eq 23, 3) := by decide +kernel
theorem dX9_doesOne_200 : decode cX9_doesOne 200 = .ok (.aload_n 0, 1) := by decide +kernel
theorem dX9_doesOne_201 : decode cX9_doesOne 201 = .ok (.iload_n 2, 1) := by decide +kernel
theorem dX9_doesOne_202 : decode cX9_doesOne 202 = .ok (.aload_n 0, 1) := by decide +kernel
theorem dX9_doesOne_203 : decode cX9_doesOne 203 = .ok (.getfield 32, 3) := by decide +kernel
theorem dX9_doesOne_206 : decode cX9_doesOne 206 = .ok (.iconst 1, 1) := by decide +kernel
theorem dX9_doesOne_207 : decode cX9_doesOne 207 = .ok (.iaload, 1) := by decide +kernel
theorem dX9_doesOne_208 : decode cX9_doesOne 208 = .ok (.aload_n 0, 1) := by decide +kernel
theorem dX9_doesOne_209 : decode cX9_doesOne 209 = .ok (.getfield 32, 3) := by decide +kernel
theorem dX9_doesOne_212 : decode cX9_doesOne 212 = .ok (.iconst 2, 1) := by decide +kernel
theorem dX9_doesOne_213 : decode cX9_doesOne 213 = .ok (.iaload, 1) := by decide +kernel
theorem dX9_doesOne_214 : decode cX9_doesOne 214 = .ok (.invokevirtual 172, 3) := by decide +kernel
theorem dX9_doesOne_217 : decode cX9_doesOne 217 = .ok (.goto 4, 3) := by decide +kernel
theorem dX9_doesOne_220 : decode cX9_doesOne 220 = .ok (.iconst 0, 1) := by decide +kernel
theorem dX9_doesOne_221 : decode cX9_doesOne 221 = .ok (.ireturn, 1) := by decide +kernel
theorem dX9_doesOne_222 : decode cX9_doesOne 222 = .ok (.aload_n 0, 1) := by decide +kernel
theorem dX9_doesOne_223 : decode cX9_doesOne 223 = .ok (.iload_n 2, 1) := by decide +kernel
theorem dX9_doesOne_224 : decode cX9_doesOne 224 = .ok (.aload_n 0, 1) := by decide +kernel
theorem dX9_doesOne_225 : decode cX9_doesOne 225 = .ok (.getfield 32, 3) := by decide +kernel
theorem dX9_doesOne_228 : decode cX9_doesOne 228 = .ok (.iconst 1, 1) := by decide +kernel
theorem dX9_doesOne_229 : decode cX9_doesOne 229 = .ok (.iaload, 1) := by decide +kernel
theorem dX9_doesOne_230 : decode cX9_doesOne 230 = .ok (.aload_n 0, 1) := by decide +kernel
theorem dX9_doesOne_231 : decode cX9_doesOne 231 = .ok (.getfield 32, 3) := by decide +kernel
theorem dX9_doesOne_234 : decode cX9_doesOne 234 = .ok (.iconst 2, 1) := by decide +kernel
theorem dX9_doesOne_235 : decode cX9_doesOne 235 = .ok (.iaload, 1) := by decide +kernel
theorem dX9_doesOne_236 : decode cX9_doesOne 236 = .ok (.aload_n 0, 1) := by decide +kernel
theorem dX9_doesOne_237 : decode cX9_doesOne 237 = .ok (.getfield 32, 3) := by decide +kernel
theorem dX9_doesOne_240 : decode cX9_doesOne 240 = .ok (.iconst 3, 1) := by decide +kernel
theorem dX9_doesOne_241 : decode cX9_doesOne 241 = .ok (.iaload, 1) := by decide +kernel
theorem dX9_doesOne_242 : decode cX9_doesOne 242 = .ok (.aload_n 0, 1) := by decide +kernel
theorem dX9_doesOne_243 : decode cX9_doesOne 243 = .ok (.getfield 32, 3) := by decide +kernel
theorem dX9_doesOne_246 : decode cX9_doesOne 246 = .ok (.iconst 4, 1) := by decide +kernel
theorem dX9_doesOne_247 : decode cX9_doesOne 247 = .ok (.iaload, 1) := by decide +kernel
theorem dX9_doesOne_248 : decode cX9_doesOne 248 = .ok (.aload_n 0, 1) := by decide +kernel
theorem dX9_doesOne_249 : decode cX9_doesOne 249 = .ok (.getfield 32, 3) := by decide +kernel
theorem dX9_doesOne_252 : decode cX9_doesOne 252 = .ok (.iconst 5, 1) := by decide +kernel
theorem dX9_doesOne_253 : decode cX9_doesOne 253 = .ok (.iaload, 1) := by decide +kernel
theorem dX9_doesOne_254 : decode cX9_doesOne 254 = .ok (.invokevirtual 175, 3) := by decide +kernel
theorem dX9_doesOne_257 : decode cX9_doesOne 257 = .ok (.ireturn, 1) := by decide +kernel
theorem dX9_doesOne_258 : decode cX9_doesOne 258 = .ok (.aload_n 0, 1) := by decide +kernel
theorem dX9_doesOne_259 : decode cX9_doesOne 259 = .ok (.iload_n 2, 1) := by decide +kernel
theorem dX9_doesOne_260 : decode cX9_doesOne 260 = .ok (.aload_n 0, 1) := by decide +kernel
theorem dX9_doesOne_261 : decode cX9_doesOne 261 = .ok (.getfield 32, 3) := by decide +kernel
theorem dX9_doesOne_264 : decode cX9_doesOne 264 = .ok (.iconst 1, 1) := by decide +kernel
theorem dX9_doesOne_265 : decode cX9_doesOne 265 = .ok (.iaload, 1) := by decide +kernel
theorem dX9_doesOne_266 : decode cX9_doesOne 266 = .ok (.aload_n 0, 1) := by decide +kernel
theorem dX9_doesOne_267 : decode cX9_doesOne 267 = .ok (.getfield 32, 3) := by decide +kernel
theorem dX9_doesOne_270 : decode cX9_doesOne 270 = .ok (.iconst 2, 1) := by decide +kernel
theorem dX9_doesOne_271 : decode cX9_doesOne 271 = .ok (.iaload, 1) := by decide +kernel
theorem dX9_doesOne_272 : decode cX9_doesOne 272 = .ok (.aload_n 0, 1) := by decide +kernel
theorem dX9_doesOne_273 : decode cX9_doesOne 273 = .ok (.getfield 32, 3) := by decide +kernel
theorem dX9_doesOne_276 : decode cX9_doesOne 276 = .ok (.iconst 3, 1) := by decide +kernel
theorem dX9_doesOne_277 : decode cX9_doesOne 277 = .ok (.iaload, 1) := by decide +kernel
theorem dX9_doesOne_278 : decode cX9_doesOne 278 = .ok (.aload_n 0, 1) := by decide +kernel
theorem dX9_doesOne_279 : decode cX9_doesOne 279 = .ok (.getfield 32, 3) := by decide +kernel
theorem dX9_doesOne_282 : decode cX9_doesOne 282 = .ok (.iconst 4, 1) := by decide +kernel
theorem dX9_doesOne_283 : decode cX9_doesOne 283 = .ok (.iaload, 1) := by decide +kernel
theorem dX9_doesOne_284 : decode cX9_doesOne 284 = .ok (.invokevirtual 180, 3) := by decide +kernel
theorem dX9_doesOne_287 : decode cX9_doesOne 287 = .ok (.ireturn, 1) := by decide +kernel
theorem dX9_doesOne_288 : decode cX9_doesOne 288 = .ok (.aload_n 0, 1) := by decide +kernel
theorem dX9_doesOne_289 : decode cX9_doesOne 289 = .ok (.iload_n 2, 1) := by decide +kernel
theorem dX9_doesOne_290 : decode cX9_doesOne 290 = .ok (.aload_n 0, 1) := by decide +kernel
theorem dX9_doesOne_291 : decode cX9_doesOne 291 = .ok (.getfield 32, 3) := by decide +kernel
theorem dX9_doesOne_294 : decode cX9_doesOne 294 = .ok (.iconst 1, 1) := by decide +kernel
theorem dX9_doesOne_295 : decode cX9_doesOne 295 = .ok (.iaload, 1) := by decide +kernel
theorem dX9_doesOne_296 : decode cX9_doesOne 296 = .ok (.aload_n 0, 1) := by decide +kernel
theorem dX9_doesOne_297 : decode cX9_doesOne 297 = .ok (.getfield 32, 3) := by decide +kernel
theorem dX9_doesOne_300 : decode cX9_doesOne 300 = .ok (.iconst 2, 1) := by decide +kernel
theorem dX9_doesOne_301 : decode cX9_doesOne 301 = .ok (.iaload, 1) := by decide +kernel
theorem dX9_doesOne_302 : decode cX9_doesOne 302 = .ok (.aload_n 0, 1) := by decide +kernel
theorem dX9_doesOne_303 : decode cX9_doesOne 303 = .ok (.getfield 32, 3) := by decide +kernel
theorem dX9_doesOne_306 : decode cX9_doesOne 306 = .ok (.iconst 3, 1) := by decide +kernel
theorem dX9_doesOne_307 : decode cX9_doesOne 307 = .ok (.iaload, 1) := by decide +kernel
theorem dX9_doesOne_308 : decode cX9_doesOne 308 = .ok (.invokevirtual 117, 3) := by decide +kernel
theorem dX9_doesOne_311 : decode cX9_doesOne 311 = .ok (.iconst 0, 1) := by decide +kernel
theorem dX9_doesOne_312 : decode cX9_doesOne 312 = .ok (.ireturn, 1) := by decide +kernel
theorem dX9_doesOne_313 : decode cX9_doesOne 313 = .ok (.iconst 0, 1) := by decide +kernel
theorem dX9_doesOne_314 : decode cX9_doesOne 314 = .ok (.aload_n 0, 1) := by decide +kernel
theorem dX9_doesOne_315 : decode cX9_doesOne 315 = .ok (.invokevirtual 121, 3) := by decide +kernel
theorem dX9_doesOne_318 : decode cX9_doesOne 318 = .ok (.imul, 1) := by decide +kernel
theorem dX9_doesOne_319 : decode cX9_doesOne 319 = .ok (.ireturn, 1) := by decide +kernel
theorem dX9_goesThrough_0 : decode cX9_goesThrough 0 = .ok (.iconst 0, 1) := by decide +kernel
theorem dX9_goesThrough_1 : decode cX9_goesThrough 1 = .ok (.istore_n 2, 1) := by decide +kernel
theorem dX9_goesThrough_2 : decode cX9_goesThrough 2 = .ok (.aload_n 0, 1) := by decide +kernel
theorem dX9_goesThrough_3 : decode cX9_goesThrough 3 = .ok (.getfield 7, 3) := by decide +kernel
theorem dX9_goesThrough_6 : decode cX9_goesThrough 6 = .ok (.bipush 96, 2) := by decide +kernel
theorem dX9_goesThrough_8 : decode cX9_goesThrough 8 = .ok (.iaload, 1) := by decide +kernel
theorem dX9_goesThrough_9 : decode cX9_goesThrough 9 = .ok (.istore_n 3, 1) := by decide +kernel
theorem dX9_goesThrough_10 : decode cX9_goesThrough 10 = .ok (.iconst 1, 1) := by decide +kernel
theorem dX9_goesThrough_11 : decode cX9_goesThrough 11 = .ok (.istore 4, 2) := by decide +kernel
theorem dX9_goesThrough_13 : decode cX9_goesThrough 13 = .ok (.aload_n 0, 1) := by decide +kernel
theorem dX9_goesThrough_14 : decode cX9_goesThrough 14 = .ok (.iconst 0, 1) := by decide +kernel
theorem dX9_goesThrough_15 : decode cX9_goesThrough 15 = .ok (.putfield 216, 3) := by decide +kernel
theorem dX9_goesThrough_18 : decode cX9_goesThrough 18 = .ok (.iload 4, 2) := by decide +kernel
theorem dX9_goesThrough_20 : decode cX9_goesThrough 20 = .ok (.ifCond .eq 86, 3) := by decide +kernel
theorem dX9_goesThrough_23 : decode cX9_goesThrough 23 = .ok (.aload_n 0, 1) := by decide +kernel
theorem dX9_goesThrough_24 : decode cX9_goesThrough 24 = .ok (.iload_n 3, 1) := by decide +kernel
theorem dX9_goesThrough_25 : decode cX9_goesThrough 25 = .ok (.invokevirtual 243, 3) := by decide +kernel
theorem dX9_goesThrough_28 : decode cX9_goesThrough 28 = .ok (.istore 5, 2) := by decide +kernel
theorem dX9_goesThrough_30 : decode cX9_goesThrough 30 = .ok (.iload 5, 2) := by decide +kernel
theorem dX9_goesThrough_32 : decode cX9_goesThrough 32 = .ok (.iconst (-1), 1) := by decide +kernel
theorem dX9_goesThrough_33 : decode cX9_goesThrough 33 = .ok (.if_icmp .ne 5, 3) := by decide +kernel
theorem dX9_goesThrough_36 : decode cX9_goesThrough 36 = .ok (.iconst (-1), 1) := by decide +kernel
theorem dX9_goesThrough_37 : decode cX9_goesThrough 37 = .ok (.ireturn, 1) := by decide +kernel
theorem dX9_goesThrough_38 : decode cX9_goesThrough 38 = .ok (.iload 5, 2) := by decide +kernel
theorem dX9_goesThrough_40 : decode cX9_goesThrough 40 = .ok (.bipush 107, 2) := by decide +kernel
theorem dX9_goesThrough_42 : decode cX9_goesThrough 42 = .ok (.if_icmp .ne 7, 3) := by decide +kernel
theorem dX9_goesThrough_45 : decode cX9_goesThrough 45 = .ok (.iconst 0, 1) := by decide +kernel
theorem dX9_goesThrough_46 : decode cX9_goesThrough 46 = .ok (.goto 17, 3) := by decide +kernel
theorem dX9_goesThrough_49 : decode cX9_goesThrough 49 = .ok (.iload 5, 2) := by decide +kernel
theorem dX9_goesThrough_51 : decode cX9_goesThrough 51 = .ok (.bipush 111, 2) := by decide +kernel
theorem dX9_goesThrough_53 : decode cX9_goesThrough 53 = .ok (.if_icmp .ne 9, 3) := by decide +kernel
theorem dX9_goesThrough_56 : decode cX9_goesThrough 56 = .ok (.iload_n 3, 1) := by decide +kernel
theorem dX9_goesThrough_57 : decode cX9_goesThrough 57 = .ok (.iconst 1, 1) := by decide +kernel
theorem dX9_goesThrough_58 : decode cX9_goesThrough 58 = .ok (.iadd, 1) := by decide +kernel
theorem dX9_goesThrough_59 : decode cX9_goesThrough 59 = .ok (.goto 4, 3) := by decide +kernel
theorem dX9_goesThrough_62 : decode cX9_goesThrough 62 = .ok (.iload_n 3, 1) := by decide +kernel
theorem dX9_goesThrough_63 : decode cX9_goesThrough 63 = .ok (.istore_n 3, 1) := by decide +kernel
theorem dX9_goesThrough_64 : decode cX9_goesThrough 64 = .ok (.iload_n 2, 1) := by decide +kernel
theorem dX9_goesThrough_65 : decode cX9_goesThrough 65 = .ok (.iload_n 1, 1) := by decide +kernel
theorem dX9_goesThrough_66 : decode cX9_goesThrough 66 = .ok (.ifCond .eq 12, 3) := by decide +kernel
theorem dX9_goesThrough_69 : decode cX9_goesThrough 69 = .ok (.aload_n 0, 1) := by decide +kernel
theorem dX9_goesThrough_70 : decode cX9_goesThrough 70 = .ok (.iload 5, 2) := by decide +kernel
theorem dX9_goesThrough_72 : decode cX9_goesThrough 72 = .ok (.invokevirtual 246, 3) := by decide +kernel
theorem dX9_goesThrough_75 : decode cX9_goesThrough 75 = .ok (.goto 4, 3) := by decide +kernel
theorem dX9_goesThrough_78 : decode cX9_goesThrough 78 = .ok (.iconst 0, 1) := by decide +kernel
theorem dX9_goesThrough_79 : decode cX9_goesThrough 79 = .ok (.iadd, 1) := by decide +kernel
theorem dX9_goesThrough_80 : decode cX9_goesThrough 80 = .ok (.istore_n 2, 1) := by decide +kernel
theorem dX9_goesThrough_81 : decode cX9_goesThrough 81 = .ok (.aload_n 0, 1) := by decide +kernel
theorem dX9_goesThrough_82 : decode cX9_goesThrough 82 = .ok (.invokevirtual 222, 3) := by decide +kernel
theorem dX9_goesThrough_85 : decode cX9_goesThrough 85 = .ok (.aload_n 0, 1) := by decide +kernel
theorem dX9_goesThrough_86 : decode cX9_goesThrough 86 = .ok (.getfield 216, 3) := by decide +kernel
theorem dX9_goesThrough_89 : decode cX9_goesThrough 89 = .ok (.aload_n 0, 1) := by decide +kernel
theorem dX9_goesThrough_90 : decode cX9_goesThrough 90 = .ok (.getfield 213, 3) := by decide +kernel
theorem dX9_goesThrough_93 : decode cX9_goesThrough 93 = .ok (.if_icmp .ge 7, 3) := by decide +kernel
theorem dX9_goesThrough_96 : decode cX9_goesThrough 96 = .ok (.iconst 1, 1) := by decide +kernel
theorem dX9_goesThrough_97 : decode cX9_goesThrough 97 = .ok (.goto 4, 3) := by decide +kernel
theorem dX9_goesThrough_100 : decode cX9_goesThrough 100 = .ok (.iconst 0, 1) := by decide +kernel
theorem dX9_goesThrough_101 : decode cX9_goesThrough 101 = .ok (.istore 4, 2) := by decide +kernel
theorem dX9_goesThrough_103 : decode cX9_goesThrough 103 = .ok (.goto (-85), 3) := by decide +kernel
theorem dX9_goesThrough_106 : decode cX9_goesThrough 106 = .ok (.iload_n 2, 1) := by decide +kernel
theorem dX9_goesThrough_107 : decode cX9_goesThrough 107 = .ok (.ireturn, 1) := by decide +kernel
theorem dX9_does_0 : decode cX9_does 0 = .ok (.aload_n 0, 1) := by decide +kernel
theorem dX9_does_1 : decode cX9_does 1 = .ok (.iconst 0, 1) := by decide +kernel
theorem dX9_does_2 : decode cX9_does 2 = .ok (.invokevirtual 249, 3) := by decide +kernel
theorem dX9_does_5 : decode cX9_does 5 = .ok (.iconst (-1), 1) := by decide +kernel
theorem dX9_does_6 : decode cX9_does 6 = .ok (.if_icmp .ne 11, 3) := by decide +kernel
theorem dX9_does_9 : decode cX9_does 9 = .ok (.bipush (-10), 2) := by decide +kernel
theorem dX9_does_11 : decode cX9_does 11 = .ok (.aload_n 0, 1) := by decide +kernel
theorem dX9_does_12 : decode cX9_does 12 = .ok (.getfield 216, 3) := by decide +kernel
theorem dX9_does_15 : decode cX9_does 15 = .ok (.isub, 1) := by decide +kernel
theorem dX9_does_16 : decode cX9_does 16 = .ok (.ireturn, 1) := by decide +kernel
theorem dX9_does_17 : decode cX9_does 17 = .ok (.aload_n 0, 1) := by decide +kernel
theorem dX9_does_18 : decode cX9_does 18 = .ok (.invokevirtual 87, 3) := by decide +kernel
theorem dX9_does_21 : decode cX9_does 21 = .ok (.aload_n 0, 1) := by decide +kernel
theorem dX9_does_22 : decode cX9_does 22 = .ok (.iconst 1, 1) := by decide +kernel
theorem dX9_does_23 : decode cX9_does 23 = .ok (.invokevirtual 249, 3) := by decide +kernel
theorem dX9_does_26 : decode cX9_does 26 = .ok (.ireturn, 1) := by decide +kernel
theorem dX9_back_0 : decode cX9_back 0 = .ok (.aload_n 0, 1) := by decide +kernel
theorem dX9_back_1 : decode cX9_back 1 = .ok (.getfield 53, 3) := by decide +kernel
theorem dX9_back_4 : decode cX9_back 4 = .ok (.ifCond .ne 8, 3) := by decide +kernel
theorem dX9_back_7 : decode cX9_back 7 = .ok (.aload_n 0, 1) := by decide +kernel
theorem dX9_back_8 : decode cX9_back 8 = .ok (.invokevirtual 169, 3) := by decide +kernel
theorem dX9_back_11 : decode cX9_back 11 = .ok (.ireturn, 1) := by decide +kernel
theorem dX9_back_12 : decode cX9_back 12 = .ok (.aload_n 0, 1) := by decide +kernel
theorem dX9_back_13 : decode cX9_back 13 = .ok (.dup, 1) := by decide +kernel
theorem dX9_back_14 : decode cX9_back 14 = .ok (.getfield 53, 3) := by decide +kernel
theorem dX9_back_17 : decode cX9_back 17 = .ok (.iconst 1, 1) := by decide +kernel
theorem dX9_back_18 : decode cX9_back 18 = .ok (.isub, 1) := by decide +kernel
theorem dX9_back_19 : decode cX9_back 19 = .ok (.putfield 53, 3) := by decide +kernel
theorem dX9_back_22 : decode cX9_back 22 = .ok (.iconst 0, 1) := by decide +kernel
theorem dX9_back_23 : decode cX9_back 23 = .ok (.istore_n 1, 1) := by decide +kernel
theorem dX9_back_24 : decode cX9_back 24 = .ok (.iload_n 1, 1) := by decide +kernel
theorem dX9_back_25 : decode cX9_back 25 = .ok (.bipush 97, 2) := by decide +kernel
theorem dX9_back_27 : decode cX9_back 27 = .ok (.if_icmp .ge 29, 3) := by decide +kernel
theorem dX9_back_30 : decode cX9_back 30 = .ok (.aload_n 0, 1) := by decide +kernel
theorem dX9_back_31 : decode cX9_back 31 = .ok (.getfield 7, 3) := by decide +kernel
theorem dX9_back_34 : decode cX9_back 34 = .ok (.iload_n 1, 1) := by decide +kernel
theorem dX9_back_35 : decode cX9_back 35 = .ok (.aload_n 0, 1) := by decide +kernel
theorem dX9_back_36 : decode cX9_back 36 = .ok (.getfield 13, 3) := by decide +kernel
theorem dX9_back_39 : decode cX9_back 39 = .ok (.bipush 97, 2) := by decide +kernel
theorem dX9_back_41 : decode cX9_back 41 = .ok (.aload_n 0, 1) := by decide +kernel
theorem dX9_back_42 : decode cX9_back 42 = .ok (.getfield 53, 3) := by decide +kernel
theorem dX9_back_45 : decode cX9_back 45 = .ok (.imul, 1) := by decide +kernel
theorem dX9_back_46 : decode cX9_back 46 = .ok (.iload_n 1, 1) := by decide +kernel
theorem dX9_back_47 : decode cX9_back 47 = .ok (.iadd, 1) := by decide +kernel
theorem dX9_back_48 : decode cX9_back 48 = .ok (.iaload, 1) := by decide +kernel
theorem dX9_back_49 : decode cX9_back 49 = .ok (.iastore, 1) := by decide +kernel
theorem dX9_back_50 : decode cX9_back 50 = .ok (.iinc 1 1, 3) := by decide +kernel
theorem dX9_back_53 : decode cX9_back 53 = .ok (.goto (-29), 3) := by decide +kernel
theorem dX9_back_56 : decode cX9_back 56 = .ok (.aload_n 0, 1) := by decide +kernel
theorem dX9_back_57 : decode cX9_back 57 = .ok (.getfield 53, 3) := by decide +kernel
theorem dX9_back_60 : decode cX9_back 60 = .ok (.ireturn, 1) := by decide +kernel
theorem dX9_toldOf_0 : decode cX9_toldOf 0 = .ok (.iload_n 1, 1) := by decide +kernel
theorem dX9_toldOf_1 : decode cX9_toldOf 1 = .ok (.iconst 3, 1) := by decide +kernel
theorem dX9_toldOf_2 : decode cX9_toldOf 2 = .ok (.if_icmp .ge 12, 3) := by decide +kernel
theorem dX9_toldOf_5 : decode cX9_toldOf 5 = .ok (.aload_n 0, 1) := by decide +kernel
theorem dX9_toldOf_6 : decode cX9_toldOf 6 = .ok (.getfield 16, 3) := by decide +kernel
theorem dX9_toldOf_9 : decode cX9_toldOf 9 = .ok (.iload_n 1, 1) := by decide +kernel
theorem dX9_toldOf_10 : decode cX9_toldOf 10 = .ok (.iaload, 1) := by decide +kernel
theorem dX9_toldOf_11 : decode cX9_toldOf 11 = .ok (.goto 34, 3) := by decide +kernel
theorem dX9_toldOf_14 : decode cX9_toldOf 14 = .ok (.iload_n 1, 1) := by decide +kernel
theorem dX9_toldOf_15 : decode cX9_toldOf 15 = .ok (.iconst 3, 1) := by decide +kernel
theorem dX9_toldOf_16 : decode cX9_toldOf 16 = .ok (.if_icmp .ne 10, 3) := by decide +kernel
theorem dX9_toldOf_19 : decode cX9_toldOf 19 = .ok (.aload_n 0, 1) := by decide +kernel
theorem dX9_toldOf_20 : decode cX9_toldOf 20 = .ok (.getfield 213, 3) := by decide +kernel
theorem dX9_toldOf_23 : decode cX9_toldOf 23 = .ok (.goto 22, 3) := by decide +kernel
theorem dX9_toldOf_26 : decode cX9_toldOf 26 = .ok (.iload_n 1, 1) := by decide +kernel
theorem dX9_toldOf_27 : decode cX9_toldOf 27 = .ok (.iconst 4, 1) := by decide +kernel
theorem dX9_toldOf_28 : decode cX9_toldOf 28 = .ok (.if_icmp .ne 13, 3) := by decide +kernel
theorem dX9_toldOf_31 : decode cX9_toldOf 31 = .ok (.aload_n 0, 1) := by decide +kernel
theorem dX9_toldOf_32 : decode cX9_toldOf 32 = .ok (.getfield 7, 3) := by decide +kernel
theorem dX9_toldOf_35 : decode cX9_toldOf 35 = .ok (.bipush 96, 2) := by decide +kernel
theorem dX9_toldOf_37 : decode cX9_toldOf 37 = .ok (.iaload, 1) := by decide +kernel
theorem dX9_toldOf_38 : decode cX9_toldOf 38 = .ok (.goto 7, 3) := by decide +kernel
theorem dX9_toldOf_41 : decode cX9_toldOf 41 = .ok (.aload_n 0, 1) := by decide +kernel
theorem dX9_toldOf_42 : decode cX9_toldOf 42 = .ok (.getfield 53, 3) := by decide +kernel
theorem dX9_toldOf_45 : decode cX9_toldOf 45 = .ok (.ireturn, 1) := by decide +kernel
theorem dX9_told_0 : decode cX9_told 0 = .ok (.iload_n 1, 1) := by decide +kernel
theorem dX9_told_1 : decode cX9_told 1 = .ok (.i2l, 1) := by decide +kernel
theorem dX9_told_2 : decode cX9_told 2 = .ok (.lconst 0, 1) := by decide +kernel
theorem dX9_told_3 : decode cX9_told 3 = .ok (.ldc2_w 253, 3) := by decide +kernel
theorem dX9_told_6 : decode cX9_told 6 = .ok (.invokestatic 37, 3) := by decide +kernel
theorem dX9_told_9 : decode cX9_told 9 = .ok (.ifCond .eq 11, 3) := by decide +kernel
theorem dX9_told_12 : decode cX9_told 12 = .ok (.aload_n 0, 1) := by decide +kernel
theorem dX9_told_13 : decode cX9_told 13 = .ok (.iload_n 1, 1) := by decide +kernel
theorem dX9_told_14 : decode cX9_told 14 = .ok (.invokevirtual 255, 3) := by decide +kernel
theorem dX9_told_17 : decode cX9_told 17 = .ok (.goto 9, 3) := by decide +kernel
theorem dX9_told_20 : decode cX9_told 20 = .ok (.aload_n 0, 1) := by decide +kernel
theorem dX9_told_21 : decode cX9_told 21 = .ok (.bipush (-2), 2) := by decide +kernel
theorem dX9_told_23 : decode cX9_told 23 = .ok (.invokevirtual 83, 3) := by decide +kernel
theorem dX9_told_26 : decode cX9_told 26 = .ok (.ireturn, 1) := by decide +kernel
theorem dX9_digest_0 : decode cX9_digest 0 = .ok (.ldc2_w 258, 3) := by decide +kernel
theorem dX9_digest_3 : decode cX9_digest 3 = .ok (.lstore_n 1, 1) := by decide +kernel
theorem dX9_digest_4 : decode cX9_digest 4 = .ok (.iconst 0, 1) := by decide +kernel
theorem dX9_digest_5 : decode cX9_digest 5 = .ok (.istore_n 3, 1) := by decide +kernel
theorem dX9_digest_6 : decode cX9_digest 6 = .ok (.iload_n 3, 1) := by decide +kernel
theorem dX9_digest_7 : decode cX9_digest 7 = .ok (.bipush 6, 2) := by decide +kernel
theorem dX9_digest_9 : decode cX9_digest 9 = .ok (.if_icmp .ge 22, 3) := by decide +kernel
theorem dX9_digest_12 : decode cX9_digest 12 = .ok (.ldc2_w 49, 3) := by decide +kernel
theorem dX9_digest_15 : decode cX9_digest 15 = .ok (.lload_n 1, 1) := by decide +kernel
theorem dX9_digest_16 : decode cX9_digest 16 = .ok (.lmul, 1) := by decide +kernel
theorem dX9_digest_17 : decode cX9_digest 17 = .ok (.aload_n 0, 1) := by decide +kernel
theorem dX9_digest_18 : decode cX9_digest 18 = .ok (.iload_n 3, 1) := by decide +kernel
theorem dX9_digest_19 : decode cX9_digest 19 = .ok (.invokevirtual 255, 3) := by decide +kernel
theorem dX9_digest_22 : decode cX9_digest 22 = .ok (.i2l, 1) := by decide +kernel
theorem dX9_digest_23 : decode cX9_digest 23 = .ok (.ladd, 1) := by decide +kernel
theorem dX9_digest_24 : decode cX9_digest 24 = .ok (.lstore_n 1, 1) := by decide +kernel
theorem dX9_digest_25 : decode cX9_digest 25 = .ok (.iinc 3 1, 3) := by decide +kernel
theorem dX9_digest_28 : decode cX9_digest 28 = .ok (.goto (-22), 3) := by decide +kernel
theorem dX9_digest_31 : decode cX9_digest 31 = .ok (.iconst 0, 1) := by decide +kernel
theorem dX9_digest_32 : decode cX9_digest 32 = .ok (.istore_n 3, 1) := by decide +kernel
theorem dX9_digest_33 : decode cX9_digest 33 = .ok (.iload_n 3, 1) := by decide +kernel
theorem dX9_digest_34 : decode cX9_digest 34 = .ok (.bipush 80, 2) := by decide +kernel
theorem dX9_digest_36 : decode cX9_digest 36 = .ok (.iconst 4, 1) := by decide +kernel
theorem dX9_digest_37 : decode cX9_digest 37 = .ok (.aload_n 0, 1) := by decide +kernel
theorem dX9_digest_38 : decode cX9_digest 38 = .ok (.getfield 7, 3) := by decide +kernel
theorem dX9_digest_41 : decode cX9_digest 41 = .ok (.bipush 96, 2) := by decide +kernel
theorem dX9_digest_43 : decode cX9_digest 43 = .ok (.iaload, 1) := by decide +kernel
theorem dX9_digest_44 : decode cX9_digest 44 = .ok (.imul, 1) := by decide +kernel
theorem dX9_digest_45 : decode cX9_digest 45 = .ok (.iadd, 1) := by decide +kernel
theorem dX9_digest_46 : decode cX9_digest 46 = .ok (.if_icmp .ge 23, 3) := by decide +kernel
theorem dX9_digest_49 : decode cX9_digest 49 = .ok (.ldc2_w 49, 3) := by decide +kernel
theorem dX9_digest_52 : decode cX9_digest 52 = .ok (.lload_n 1, 1) := by decide +kernel
theorem dX9_digest_53 : decode cX9_digest 53 = .ok (.lmul, 1) := by decide +kernel
theorem dX9_digest_54 : decode cX9_digest 54 = .ok (.aload_n 0, 1) := by decide +kernel
theorem dX9_digest_55 : decode cX9_digest 55 = .ok (.getfield 7, 3) := by decide +kernel
theorem dX9_digest_58 : decode cX9_digest 58 = .ok (.iload_n 3, 1) := by decide +kernel
theorem dX9_digest_59 : decode cX9_digest 59 = .ok (.iaload, 1) := by decide +kernel
theorem dX9_digest_60 : decode cX9_digest 60 = .ok (.i2l, 1) := by decide +kernel
theorem dX9_digest_61 : decode cX9_digest 61 = .ok (.ladd, 1) := by decide +kernel
theorem dX9_digest_62 : decode cX9_digest 62 = .ok (.lstore_n 1, 1) := by decide +kernel
theorem dX9_digest_63 : decode cX9_digest 63 = .ok (.iinc 3 1, 3) := by decide +kernel
theorem dX9_digest_66 : decode cX9_digest 66 = .ok (.goto (-33), 3) := by decide +kernel
theorem dX9_digest_69 : decode cX9_digest 69 = .ok (.lload_n 1, 1) := by decide +kernel
theorem dX9_digest_70 : decode cX9_digest 70 = .ok (.lreturn, 1) := by decide +kernel
