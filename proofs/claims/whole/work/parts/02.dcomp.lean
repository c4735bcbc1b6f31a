theorem dX0_init_0 : decode cX0_init 0 = .ok (.aload_n 0, 1) := by decide +kernel
theorem dX0_init_1 : decode cX0_init 1 = .ok (.invokespecial 3, 3) := by decide +kernel
theorem dX0_init_4 : decode cX0_init 4 = .ok (.aload_n 0, 1) := by decide +kernel
theorem dX0_init_5 : decode cX0_init 5 = .ok (.bipush 8, 2) := by decide +kernel
theorem dX0_init_7 : decode cX0_init 7 = .ok (.newarray .int, 2) := by decide +kernel
theorem dX0_init_9 : decode cX0_init 9 = .ok (.putfield 9, 3) := by decide +kernel
theorem dX0_init_12 : decode cX0_init 12 = .ok (.aload_n 0, 1) := by decide +kernel
theorem dX0_init_13 : decode cX0_init 13 = .ok (.aload_n 1, 1) := by decide +kernel
theorem dX0_init_14 : decode cX0_init 14 = .ok (.putfield 15, 3) := by decide +kernel
theorem dX0_init_17 : decode cX0_init 17 = .ok (.aload_n 0, 1) := by decide +kernel
theorem dX0_init_18 : decode cX0_init 18 = .ok (.aload_n 2, 1) := by decide +kernel
theorem dX0_init_19 : decode cX0_init 19 = .ok (.putfield 19, 3) := by decide +kernel
theorem dX0_init_22 : decode cX0_init 22 = .ok (.return_, 1) := by decide +kernel
theorem dX0_measured_0 : decode cX0_measured 0 = .ok (.iload_n 2, 1) := by decide +kernel
theorem dX0_measured_1 : decode cX0_measured 1 = .ok (.tableswitch 75 0 5 #[39, 45, 51, 57, 63, 69], 39) := by decide +kernel
theorem dX0_measured_40 : decode cX0_measured 40 = .ok (.aload_n 0, 1) := by decide +kernel
theorem dX0_measured_41 : decode cX0_measured 41 = .ok (.iload_n 1, 1) := by decide +kernel
theorem dX0_measured_42 : decode cX0_measured 42 = .ok (.invokevirtual 23, 3) := by decide +kernel
theorem dX0_measured_45 : decode cX0_measured 45 = .ok (.ireturn, 1) := by decide +kernel
theorem dX0_measured_46 : decode cX0_measured 46 = .ok (.aload_n 0, 1) := by decide +kernel
theorem dX0_measured_47 : decode cX0_measured 47 = .ok (.iload_n 1, 1) := by decide +kernel
theorem dX0_measured_48 : decode cX0_measured 48 = .ok (.invokevirtual 27, 3) := by decide +kernel
theorem dX0_measured_51 : decode cX0_measured 51 = .ok (.ireturn, 1) := by decide +kernel
theorem dX0_measured_52 : decode cX0_measured 52 = .ok (.aload_n 0, 1) := by decide +kernel
theorem dX0_measured_53 : decode cX0_measured 53 = .ok (.iload_n 1, 1) := by decide +kernel
theorem dX0_measured_54 : decode cX0_measured 54 = .ok (.invokevirtual 30, 3) := by decide +kernel
theorem dX0_measured_57 : decode cX0_measured 57 = .ok (.ireturn, 1) := by decide +kernel
theorem dX0_measured_58 : decode cX0_measured 58 = .ok (.aload_n 0, 1) := by decide +kernel
theorem dX0_measured_59 : decode cX0_measured 59 = .ok (.iload_n 1, 1) := by decide +kernel
theorem dX0_measured_60 : decode cX0_measured 60 = .ok (.invokevirtual 33, 3) := by decide +kernel
theorem dX0_measured_63 : decode cX0_measured 63 = .ok (.ireturn, 1) := by decide +kernel
theorem dX0_measured_64 : decode cX0_measured 64 = .ok (.aload_n 0, 1) := by decide +kernel
theorem dX0_measured_65 : decode cX0_measured 65 = .ok (.iload_n 1, 1) := by decide +kernel
theorem dX0_measured_66 : decode cX0_measured 66 = .ok (.invokevirtual 36, 3) := by decide +kernel
theorem dX0_measured_69 : decode cX0_measured 69 = .ok (.ireturn, 1) := by decide +kernel
theorem dX0_measured_70 : decode cX0_measured 70 = .ok (.aload_n 0, 1) := by decide +kernel
theorem dX0_measured_71 : decode cX0_measured 71 = .ok (.iload_n 1, 1) := by decide +kernel
theorem dX0_measured_72 : decode cX0_measured 72 = .ok (.invokevirtual 39, 3) := by decide +kernel
theorem dX0_measured_75 : decode cX0_measured 75 = .ok (.ireturn, 1) := by decide +kernel
theorem dX0_measured_76 : decode cX0_measured 76 = .ok (.aload_n 0, 1) := by decide +kernel
theorem dX0_measured_77 : decode cX0_measured 77 = .ok (.invokevirtual 42, 3) := by decide +kernel
theorem dX0_measured_80 : decode cX0_measured 80 = .ok (.ireturn, 1) := by decide +kernel
theorem dX0_ones_0 : decode cX0_ones 0 = .ok (.aload_n 0, 1) := by decide +kernel
theorem dX0_ones_1 : decode cX0_ones 1 = .ok (.iload_n 1, 1) := by decide +kernel
theorem dX0_ones_2 : decode cX0_ones 2 = .ok (.iconst 0, 1) := by decide +kernel
theorem dX0_ones_3 : decode cX0_ones 3 = .ok (.iconst 0, 1) := by decide +kernel
theorem dX0_ones_4 : decode cX0_ones 4 = .ok (.bipush 32, 2) := by decide +kernel
theorem dX0_ones_6 : decode cX0_ones 6 = .ok (.bipush 24, 2) := by decide +kernel
theorem dX0_ones_8 : decode cX0_ones 8 = .ok (.invokevirtual 46, 3) := by decide +kernel
theorem dX0_ones_11 : decode cX0_ones 11 = .ok (.ireturn, 1) := by decide +kernel
theorem dX0_onesWithin_0 : decode cX0_onesWithin 0 = .ok (.iload_n 2, 1) := by decide +kernel
theorem dX0_onesWithin_1 : decode cX0_onesWithin 1 = .ok (.iload 4, 2) := by decide +kernel
theorem dX0_onesWithin_3 : decode cX0_onesWithin 3 = .ok (.invokestatic 50, 3) := by decide +kernel
theorem dX0_onesWithin_6 : decode cX0_onesWithin 6 = .ok (.istore 6, 2) := by decide +kernel
theorem dX0_onesWithin_8 : decode cX0_onesWithin 8 = .ok (.iconst 0, 1) := by decide +kernel
theorem dX0_onesWithin_9 : decode cX0_onesWithin 9 = .ok (.istore 7, 2) := by decide +kernel
theorem dX0_onesWithin_11 : decode cX0_onesWithin 11 = .ok (.iconst 0, 1) := by decide +kernel
theorem dX0_onesWithin_12 : decode cX0_onesWithin 12 = .ok (.istore 8, 2) := by decide +kernel
theorem dX0_onesWithin_14 : decode cX0_onesWithin 14 = .ok (.iload 8, 2) := by decide +kernel
theorem dX0_onesWithin_16 : decode cX0_onesWithin 16 = .ok (.iload 5, 2) := by decide +kernel
theorem dX0_onesWithin_18 : decode cX0_onesWithin 18 = .ok (.if_icmp .ge 39, 3) := by decide +kernel
theorem dX0_onesWithin_21 : decode cX0_onesWithin 21 = .ok (.iload 8, 2) := by decide +kernel
theorem dX0_onesWithin_23 : decode cX0_onesWithin 23 = .ok (.bipush 64, 2) := by decide +kernel
theorem dX0_onesWithin_25 : decode cX0_onesWithin 25 = .ok (.if_icmp .ge 32, 3) := by decide +kernel
theorem dX0_onesWithin_28 : decode cX0_onesWithin 28 = .ok (.iload 7, 2) := by decide +kernel
theorem dX0_onesWithin_30 : decode cX0_onesWithin 30 = .ok (.aload_n 0, 1) := by decide +kernel
theorem dX0_onesWithin_31 : decode cX0_onesWithin 31 = .ok (.getfield 15, 3) := by decide +kernel
theorem dX0_onesWithin_34 : decode cX0_onesWithin 34 = .ok (.iload_n 1, 1) := by decide +kernel
theorem dX0_onesWithin_35 : decode cX0_onesWithin 35 = .ok (.iload_n 3, 1) := by decide +kernel
theorem dX0_onesWithin_36 : decode cX0_onesWithin 36 = .ok (.iload 8, 2) := by decide +kernel
theorem dX0_onesWithin_38 : decode cX0_onesWithin 38 = .ok (.iadd, 1) := by decide +kernel
theorem dX0_onesWithin_39 : decode cX0_onesWithin 39 = .ok (.invokevirtual 54, 3) := by decide +kernel
theorem dX0_onesWithin_42 : decode cX0_onesWithin 42 = .ok (.iload 6, 2) := by decide +kernel
theorem dX0_onesWithin_44 : decode cX0_onesWithin 44 = .ok (.iand, 1) := by decide +kernel
theorem dX0_onesWithin_45 : decode cX0_onesWithin 45 = .ok (.invokestatic 59, 3) := by decide +kernel
theorem dX0_onesWithin_48 : decode cX0_onesWithin 48 = .ok (.iadd, 1) := by decide +kernel
theorem dX0_onesWithin_49 : decode cX0_onesWithin 49 = .ok (.istore 7, 2) := by decide +kernel
theorem dX0_onesWithin_51 : decode cX0_onesWithin 51 = .ok (.iinc 8 1, 3) := by decide +kernel
theorem dX0_onesWithin_54 : decode cX0_onesWithin 54 = .ok (.goto (-40), 3) := by decide +kernel
theorem dX0_onesWithin_57 : decode cX0_onesWithin 57 = .ok (.iload 7, 2) := by decide +kernel
theorem dX0_onesWithin_59 : decode cX0_onesWithin 59 = .ok (.ireturn, 1) := by decide +kernel
theorem dX0_unlikeDots_0 : decode cX0_unlikeDots 0 = .ok (.iconst 0, 1) := by decide +kernel
theorem dX0_unlikeDots_1 : decode cX0_unlikeDots 1 = .ok (.istore_n 3, 1) := by decide +kernel
theorem dX0_unlikeDots_2 : decode cX0_unlikeDots 2 = .ok (.iconst 0, 1) := by decide +kernel
theorem dX0_unlikeDots_3 : decode cX0_unlikeDots 3 = .ok (.istore 4, 2) := by decide +kernel
theorem dX0_unlikeDots_5 : decode cX0_unlikeDots 5 = .ok (.iload 4, 2) := by decide +kernel
theorem dX0_unlikeDots_7 : decode cX0_unlikeDots 7 = .ok (.bipush 24, 2) := by decide +kernel
theorem dX0_unlikeDots_9 : decode cX0_unlikeDots 9 = .ok (.if_icmp .ge 36, 3) := by decide +kernel
theorem dX0_unlikeDots_12 : decode cX0_unlikeDots 12 = .ok (.iload_n 3, 1) := by decide +kernel
theorem dX0_unlikeDots_13 : decode cX0_unlikeDots 13 = .ok (.aload_n 0, 1) := by decide +kernel
theorem dX0_unlikeDots_14 : decode cX0_unlikeDots 14 = .ok (.getfield 15, 3) := by decide +kernel
theorem dX0_unlikeDots_17 : decode cX0_unlikeDots 17 = .ok (.iload_n 1, 1) := by decide +kernel
theorem dX0_unlikeDots_18 : decode cX0_unlikeDots 18 = .ok (.iload 4, 2) := by decide +kernel
theorem dX0_unlikeDots_20 : decode cX0_unlikeDots 20 = .ok (.invokevirtual 54, 3) := by decide +kernel
theorem dX0_unlikeDots_23 : decode cX0_unlikeDots 23 = .ok (.aload_n 0, 1) := by decide +kernel
theorem dX0_unlikeDots_24 : decode cX0_unlikeDots 24 = .ok (.getfield 15, 3) := by decide +kernel
theorem dX0_unlikeDots_27 : decode cX0_unlikeDots 27 = .ok (.iload_n 2, 1) := by decide +kernel
theorem dX0_unlikeDots_28 : decode cX0_unlikeDots 28 = .ok (.iload 4, 2) := by decide +kernel
theorem dX0_unlikeDots_30 : decode cX0_unlikeDots 30 = .ok (.invokevirtual 54, 3) := by decide +kernel
theorem dX0_unlikeDots_33 : decode cX0_unlikeDots 33 = .ok (.ixor, 1) := by decide +kernel
theorem dX0_unlikeDots_34 : decode cX0_unlikeDots 34 = .ok (.invokestatic 59, 3) := by decide +kernel
theorem dX0_unlikeDots_37 : decode cX0_unlikeDots 37 = .ok (.iadd, 1) := by decide +kernel
theorem dX0_unlikeDots_38 : decode cX0_unlikeDots 38 = .ok (.istore_n 3, 1) := by decide +kernel
theorem dX0_unlikeDots_39 : decode cX0_unlikeDots 39 = .ok (.iinc 4 1, 3) := by decide +kernel
theorem dX0_unlikeDots_42 : decode cX0_unlikeDots 42 = .ok (.goto (-37), 3) := by decide +kernel
theorem dX0_unlikeDots_45 : decode cX0_unlikeDots 45 = .ok (.iload_n 3, 1) := by decide +kernel
theorem dX0_unlikeDots_46 : decode cX0_unlikeDots 46 = .ok (.ireturn, 1) := by decide +kernel
theorem dX0_takesBlock_0 : decode cX0_takesBlock 0 = .ok (.iconst 0, 1) := by decide +kernel
theorem dX0_takesBlock_1 : decode cX0_takesBlock 1 = .ok (.istore 5, 2) := by decide +kernel
theorem dX0_takesBlock_3 : decode cX0_takesBlock 3 = .ok (.iload 5, 2) := by decide +kernel
theorem dX0_takesBlock_5 : decode cX0_takesBlock 5 = .ok (.iload 4, 2) := by decide +kernel
theorem dX0_takesBlock_7 : decode cX0_takesBlock 7 = .ok (.if_icmp .ge 40, 3) := by decide +kernel
theorem dX0_takesBlock_10 : decode cX0_takesBlock 10 = .ok (.iload 5, 2) := by decide +kernel
theorem dX0_takesBlock_12 : decode cX0_takesBlock 12 = .ok (.bipush 8, 2) := by decide +kernel
theorem dX0_takesBlock_14 : decode cX0_takesBlock 14 = .ok (.if_icmp .ge 33, 3) := by decide +kernel
theorem dX0_takesBlock_17 : decode cX0_takesBlock 17 = .ok (.aload_n 0, 1) := by decide +kernel
theorem dX0_takesBlock_18 : decode cX0_takesBlock 18 = .ok (.getfield 9, 3) := by decide +kernel
theorem dX0_takesBlock_21 : decode cX0_takesBlock 21 = .ok (.iload 5, 2) := by decide +kernel
theorem dX0_takesBlock_23 : decode cX0_takesBlock 23 = .ok (.aload_n 0, 1) := by decide +kernel
theorem dX0_takesBlock_24 : decode cX0_takesBlock 24 = .ok (.getfield 15, 3) := by decide +kernel
theorem dX0_takesBlock_27 : decode cX0_takesBlock 27 = .ok (.iload_n 1, 1) := by decide +kernel
theorem dX0_takesBlock_28 : decode cX0_takesBlock 28 = .ok (.iload_n 3, 1) := by decide +kernel
theorem dX0_takesBlock_29 : decode cX0_takesBlock 29 = .ok (.iload 5, 2) := by decide +kernel
theorem dX0_takesBlock_31 : decode cX0_takesBlock 31 = .ok (.iadd, 1) := by decide +kernel
theorem dX0_takesBlock_32 : decode cX0_takesBlock 32 = .ok (.invokevirtual 54, 3) := by decide +kernel
theorem dX0_takesBlock_35 : decode cX0_takesBlock 35 = .ok (.iload_n 2, 1) := by decide +kernel
theorem dX0_takesBlock_36 : decode cX0_takesBlock 36 = .ok (.ineg, 1) := by decide +kernel
theorem dX0_takesBlock_37 : decode cX0_takesBlock 37 = .ok (.invokestatic 64, 3) := by decide +kernel
theorem dX0_takesBlock_40 : decode cX0_takesBlock 40 = .ok (.iastore, 1) := by decide +kernel
theorem dX0_takesBlock_41 : decode cX0_takesBlock 41 = .ok (.iinc 5 1, 3) := by decide +kernel
theorem dX0_takesBlock_44 : decode cX0_takesBlock 44 = .ok (.goto (-41), 3) := by decide +kernel
theorem dX0_takesBlock_47 : decode cX0_takesBlock 47 = .ok (.return_, 1) := by decide +kernel
theorem dX0_placesOfBlock_0 : decode cX0_placesOfBlock 0 = .ok (.iconst 0, 1) := by decide +kernel
theorem dX0_placesOfBlock_1 : decode cX0_placesOfBlock 1 = .ok (.istore 4, 2) := by decide +kernel
theorem dX0_placesOfBlock_3 : decode cX0_placesOfBlock 3 = .ok (.iconst 0, 1) := by decide +kernel
theorem dX0_placesOfBlock_4 : decode cX0_placesOfBlock 4 = .ok (.istore 5, 2) := by decide +kernel
theorem dX0_placesOfBlock_6 : decode cX0_placesOfBlock 6 = .ok (.iload 5, 2) := by decide +kernel
theorem dX0_placesOfBlock_8 : decode cX0_placesOfBlock 8 = .ok (.bipush 24, 2) := by decide +kernel
theorem dX0_placesOfBlock_10 : decode cX0_placesOfBlock 10 = .ok (.iload_n 3, 1) := by decide +kernel
theorem dX0_placesOfBlock_11 : decode cX0_placesOfBlock 11 = .ok (.isub, 1) := by decide +kernel
theorem dX0_placesOfBlock_12 : decode cX0_placesOfBlock 12 = .ok (.if_icmp .gt 82, 3) := by decide +kernel
theorem dX0_placesOfBlock_15 : decode cX0_placesOfBlock 15 = .ok (.iconst 0, 1) := by decide +kernel
theorem dX0_placesOfBlock_16 : decode cX0_placesOfBlock 16 = .ok (.bipush 32, 2) := by decide +kernel
theorem dX0_placesOfBlock_18 : decode cX0_placesOfBlock 18 = .ok (.iload_n 2, 1) := by decide +kernel
theorem dX0_placesOfBlock_19 : decode cX0_placesOfBlock 19 = .ok (.isub, 1) := by decide +kernel
theorem dX0_placesOfBlock_20 : decode cX0_placesOfBlock 20 = .ok (.iconst 1, 1) := by decide +kernel
theorem dX0_placesOfBlock_21 : decode cX0_placesOfBlock 21 = .ok (.iadd, 1) := by decide +kernel
theorem dX0_placesOfBlock_22 : decode cX0_placesOfBlock 22 = .ok (.invokestatic 50, 3) := by decide +kernel
theorem dX0_placesOfBlock_25 : decode cX0_placesOfBlock 25 = .ok (.istore 6, 2) := by decide +kernel
theorem dX0_placesOfBlock_27 : decode cX0_placesOfBlock 27 = .ok (.iconst 0, 1) := by decide +kernel
theorem dX0_placesOfBlock_28 : decode cX0_placesOfBlock 28 = .ok (.istore 7, 2) := by decide +kernel
theorem dX0_placesOfBlock_30 : decode cX0_placesOfBlock 30 = .ok (.iload 7, 2) := by decide +kernel
theorem dX0_placesOfBlock_32 : decode cX0_placesOfBlock 32 = .ok (.iload_n 3, 1) := by decide +kernel
theorem dX0_placesOfBlock_33 : decode cX0_placesOfBlock 33 = .ok (.if_icmp .ge 45, 3) := by decide +kernel
theorem dX0_placesOfBlock_36 : decode cX0_placesOfBlock 36 = .ok (.iload 7, 2) := by decide +kernel
theorem dX0_placesOfBlock_38 : decode cX0_placesOfBlock 38 = .ok (.bipush 8, 2) := by decide +kernel
theorem dX0_placesOfBlock_40 : decode cX0_placesOfBlock 40 = .ok (.if_icmp .ge 38, 3) := by decide +kernel
theorem dX0_placesOfBlock_43 : decode cX0_placesOfBlock 43 = .ok (.iload 6, 2) := by decide +kernel
theorem dX0_placesOfBlock_45 : decode cX0_placesOfBlock 45 = .ok (.aload_n 0, 1) := by decide +kernel
theorem dX0_placesOfBlock_46 : decode cX0_placesOfBlock 46 = .ok (.getfield 15, 3) := by decide +kernel
theorem dX0_placesOfBlock_49 : decode cX0_placesOfBlock 49 = .ok (.iload_n 1, 1) := by decide +kernel
theorem dX0_placesOfBlock_50 : decode cX0_placesOfBlock 50 = .ok (.iload 5, 2) := by decide +kernel
theorem dX0_placesOfBlock_52 : decode cX0_placesOfBlock 52 = .ok (.iload 7, 2) := by decide +kernel
theorem dX0_placesOfBlock_54 : decode cX0_placesOfBlock 54 = .ok (.iadd, 1) := by decide +kernel
theorem dX0_placesOfBlock_55 : decode cX0_placesOfBlock 55 = .ok (.invokevirtual 54, 3) := by decide +kernel
theorem dX0_placesOfBlock_58 : decode cX0_placesOfBlock 58 = .ok (.aload_n 0, 1) := by decide +kernel
theorem dX0_placesOfBlock_59 : decode cX0_placesOfBlock 59 = .ok (.getfield 9, 3) := by decide +kernel
theorem dX0_placesOfBlock_62 : decode cX0_placesOfBlock 62 = .ok (.iload 7, 2) := by decide +kernel
theorem dX0_placesOfBlock_64 : decode cX0_placesOfBlock 64 = .ok (.iaload, 1) := by decide +kernel
theorem dX0_placesOfBlock_65 : decode cX0_placesOfBlock 65 = .ok (.iload_n 2, 1) := by decide +kernel
theorem dX0_placesOfBlock_66 : decode cX0_placesOfBlock 66 = .ok (.invokestatic 67, 3) := by decide +kernel
theorem dX0_placesOfBlock_69 : decode cX0_placesOfBlock 69 = .ok (.iand, 1) := by decide +kernel
theorem dX0_placesOfBlock_70 : decode cX0_placesOfBlock 70 = .ok (.istore 6, 2) := by decide +kernel
theorem dX0_placesOfBlock_72 : decode cX0_placesOfBlock 72 = .ok (.iinc 7 1, 3) := by decide +kernel
theorem dX0_placesOfBlock_75 : decode cX0_placesOfBlock 75 = .ok (.goto (-45), 3) := by decide +kernel
theorem dX0_placesOfBlock_78 : decode cX0_placesOfBlock 78 = .ok (.iload 4, 2) := by decide +kernel
theorem dX0_placesOfBlock_80 : decode cX0_placesOfBlock 80 = .ok (.iload 6, 2) := by decide +kernel
theorem dX0_placesOfBlock_82 : decode cX0_placesOfBlock 82 = .ok (.invokestatic 59, 3) := by decide +kernel
theorem dX0_placesOfBlock_85 : decode cX0_placesOfBlock 85 = .ok (.iadd, 1) := by decide +kernel
theorem dX0_placesOfBlock_86 : decode cX0_placesOfBlock 86 = .ok (.istore 4, 2) := by decide +kernel
theorem dX0_placesOfBlock_88 : decode cX0_placesOfBlock 88 = .ok (.iinc 5 1, 3) := by decide +kernel
theorem dX0_placesOfBlock_91 : decode cX0_placesOfBlock 91 = .ok (.goto (-85), 3) := by decide +kernel
theorem dX0_placesOfBlock_94 : decode cX0_placesOfBlock 94 = .ok (.iload 4, 2) := by decide +kernel
theorem dX0_placesOfBlock_96 : decode cX0_placesOfBlock 96 = .ok (.ireturn, 1) := by decide +kernel
theorem dX0_alikePlaces_0 : decode cX0_alikePlaces 0 = .ok (.iconst (-1), 1) := by decide +kernel
theorem dX0_alikePlaces_1 : decode cX0_alikePlaces 1 = .ok (.istore_n 3, 1) := by decide +kernel
theorem dX0_alikePlaces_2 : decode cX0_alikePlaces 2 = .ok (.iconst 0, 1) := by decide +kernel
theorem dX0_alikePlaces_3 : decode cX0_alikePlaces 3 = .ok (.istore 4, 2) := by decide +kernel
theorem dX0_alikePlaces_5 : decode cX0_alikePlaces 5 = .ok (.iload 4, 2) := by decide +kernel
theorem dX0_alikePlaces_7 : decode cX0_alikePlaces 7 = .ok (.iload_n 2, 1) := by decide +kernel
theorem dX0_alikePlaces_8 : decode cX0_alikePlaces 8 = .ok (.if_icmp .ge 41, 3) := by decide +kernel
theorem dX0_alikePlaces_11 : decode cX0_alikePlaces 11 = .ok (.iload_n 1, 1) := by decide +kernel
theorem dX0_alikePlaces_12 : decode cX0_alikePlaces 12 = .ok (.iload 4, 2) := by decide +kernel
theorem dX0_alikePlaces_14 : decode cX0_alikePlaces 14 = .ok (.ineg, 1) := by decide +kernel
theorem dX0_alikePlaces_15 : decode cX0_alikePlaces 15 = .ok (.invokestatic 64, 3) := by decide +kernel
theorem dX0_alikePlaces_18 : decode cX0_alikePlaces 18 = .ok (.ifCond .ge 7, 3) := by decide +kernel
theorem dX0_alikePlaces_21 : decode cX0_alikePlaces 21 = .ok (.iconst (-1), 1) := by decide +kernel
theorem dX0_alikePlaces_22 : decode cX0_alikePlaces 22 = .ok (.goto 4, 3) := by decide +kernel
theorem dX0_alikePlaces_25 : decode cX0_alikePlaces 25 = .ok (.iconst 0, 1) := by decide +kernel
theorem dX0_alikePlaces_26 : decode cX0_alikePlaces 26 = .ok (.istore 5, 2) := by decide +kernel
theorem dX0_alikePlaces_28 : decode cX0_alikePlaces 28 = .ok (.iload_n 3, 1) := by decide +kernel
theorem dX0_alikePlaces_29 : decode cX0_alikePlaces 29 = .ok (.iload_n 0, 1) := by decide +kernel
theorem dX0_alikePlaces_30 : decode cX0_alikePlaces 30 = .ok (.iload 4, 2) := by decide +kernel
theorem dX0_alikePlaces_32 : decode cX0_alikePlaces 32 = .ok (.ineg, 1) := by decide +kernel
theorem dX0_alikePlaces_33 : decode cX0_alikePlaces 33 = .ok (.invokestatic 64, 3) := by decide +kernel
theorem dX0_alikePlaces_36 : decode cX0_alikePlaces 36 = .ok (.iload 5, 2) := by decide +kernel
theorem dX0_alikePlaces_38 : decode cX0_alikePlaces 38 = .ok (.ixor, 1) := by decide +kernel
theorem dX0_alikePlaces_39 : decode cX0_alikePlaces 39 = .ok (.iconst (-1), 1) := by decide +kernel
theorem dX0_alikePlaces_40 : decode cX0_alikePlaces 40 = .ok (.ixor, 1) := by decide +kernel
theorem dX0_alikePlaces_41 : decode cX0_alikePlaces 41 = .ok (.iand, 1) := by decide +kernel
theorem dX0_alikePlaces_42 : decode cX0_alikePlaces 42 = .ok (.istore_n 3, 1) := by decide +kernel
theorem dX0_alikePlaces_43 : decode cX0_alikePlaces 43 = .ok (.iinc 4 1, 3) := by decide +kernel
theorem dX0_alikePlaces_46 : decode cX0_alikePlaces 46 = .ok (.goto (-41), 3) := by decide +kernel
theorem dX0_alikePlaces_49 : decode cX0_alikePlaces 49 = .ok (.iload_n 3, 1) := by decide +kernel
theorem dX0_alikePlaces_50 : decode cX0_alikePlaces 50 = .ok (.ireturn, 1) := by decide +kernel
theorem dX0_partsOf_0 : decode cX0_partsOf 0 = .ok (.iconst 0, 1) := by decide +kernel
theorem dX0_partsOf_1 : decode cX0_partsOf 1 = .ok (.istore_n 2, 1) := by decide +kernel
theorem dX0_partsOf_2 : decode cX0_partsOf 2 = .ok (.iload_n 2, 1) := by decide +kernel
theorem dX0_partsOf_3 : decode cX0_partsOf 3 = .ok (.bipush 24, 2) := by decide +kernel
theorem dX0_partsOf_5 : decode cX0_partsOf 5 = .ok (.if_icmp .ge 27, 3) := by decide +kernel
theorem dX0_partsOf_8 : decode cX0_partsOf 8 = .ok (.aload_n 0, 1) := by decide +kernel
theorem dX0_partsOf_9 : decode cX0_partsOf 9 = .ok (.getfield 19, 3) := by decide +kernel
theorem dX0_partsOf_12 : decode cX0_partsOf 12 = .ok (.getfield 71, 3) := by decide +kernel
theorem dX0_partsOf_15 : decode cX0_partsOf 15 = .ok (.iload_n 2, 1) := by decide +kernel
theorem dX0_partsOf_16 : decode cX0_partsOf 16 = .ok (.aload_n 0, 1) := by decide +kernel
theorem dX0_partsOf_17 : decode cX0_partsOf 17 = .ok (.getfield 15, 3) := by decide +kernel
theorem dX0_partsOf_20 : decode cX0_partsOf 20 = .ok (.iload_n 1, 1) := by decide +kernel
theorem dX0_partsOf_21 : decode cX0_partsOf 21 = .ok (.iload_n 2, 1) := by decide +kernel
theorem dX0_partsOf_22 : decode cX0_partsOf 22 = .ok (.invokevirtual 54, 3) := by decide +kernel
theorem dX0_partsOf_25 : decode cX0_partsOf 25 = .ok (.iastore, 1) := by decide +kernel
theorem dX0_partsOf_26 : decode cX0_partsOf 26 = .ok (.iinc 2 1, 3) := by decide +kernel
theorem dX0_partsOf_29 : decode cX0_partsOf 29 = .ok (.goto (-27), 3) := by decide +kernel
theorem dX0_partsOf_32 : decode cX0_partsOf 32 = .ok (.aload_n 0, 1) := by decide +kernel
theorem dX0_partsOf_33 : decode cX0_partsOf 33 = .ok (.getfield 19, 3) := by decide +kernel
theorem dX0_partsOf_36 : decode cX0_partsOf 36 = .ok (.invokevirtual 76, 3) := by decide +kernel
theorem dX0_partsOf_39 : decode cX0_partsOf 39 = .ok (.ireturn, 1) := by decide +kernel
theorem dX0_columnsOf_0 : decode cX0_columnsOf 0 = .ok (.iconst 0, 1) := by decide +kernel
theorem dX0_columnsOf_1 : decode cX0_columnsOf 1 = .ok (.istore_n 2, 1) := by decide +kernel
theorem dX0_columnsOf_2 : decode cX0_columnsOf 2 = .ok (.iconst 0, 1) := by decide +kernel
theorem dX0_columnsOf_3 : decode cX0_columnsOf 3 = .ok (.istore_n 3, 1) := by decide +kernel
theorem dX0_columnsOf_4 : decode cX0_columnsOf 4 = .ok (.iload_n 3, 1) := by decide +kernel
theorem dX0_columnsOf_5 : decode cX0_columnsOf 5 = .ok (.bipush 24, 2) := by decide +kernel
theorem dX0_columnsOf_7 : decode cX0_columnsOf 7 = .ok (.if_icmp .ge 21, 3) := by decide +kernel
theorem dX0_columnsOf_10 : decode cX0_columnsOf 10 = .ok (.iload_n 2, 1) := by decide +kernel
theorem dX0_columnsOf_11 : decode cX0_columnsOf 11 = .ok (.aload_n 0, 1) := by decide +kernel
theorem dX0_columnsOf_12 : decode cX0_columnsOf 12 = .ok (.getfield 15, 3) := by decide +kernel
theorem dX0_columnsOf_15 : decode cX0_columnsOf 15 = .ok (.iload_n 1, 1) := by decide +kernel
theorem dX0_columnsOf_16 : decode cX0_columnsOf 16 = .ok (.iload_n 3, 1) := by decide +kernel
theorem dX0_columnsOf_17 : decode cX0_columnsOf 17 = .ok (.invokevirtual 54, 3) := by decide +kernel
theorem dX0_columnsOf_20 : decode cX0_columnsOf 20 = .ok (.ior, 1) := by decide +kernel
theorem dX0_columnsOf_21 : decode cX0_columnsOf 21 = .ok (.istore_n 2, 1) := by decide +kernel
theorem dX0_columnsOf_22 : decode cX0_columnsOf 22 = .ok (.iinc 3 1, 3) := by decide +kernel
theorem dX0_columnsOf_25 : decode cX0_columnsOf 25 = .ok (.goto (-21), 3) := by decide +kernel
theorem dX0_columnsOf_28 : decode cX0_columnsOf 28 = .ok (.iload_n 2, 1) := by decide +kernel
theorem dX0_columnsOf_29 : decode cX0_columnsOf 29 = .ok (.ireturn, 1) := by decide +kernel
theorem dX0_leastX_0 : decode cX0_leastX 0 = .ok (.aload_n 0, 1) := by decide +kernel
theorem dX0_leastX_1 : decode cX0_leastX 1 = .ok (.iload_n 1, 1) := by decide +kernel
theorem dX0_leastX_2 : decode cX0_leastX 2 = .ok (.invokevirtual 79, 3) := by decide +kernel
theorem dX0_leastX_5 : decode cX0_leastX 5 = .ok (.istore_n 2, 1) := by decide +kernel
theorem dX0_leastX_6 : decode cX0_leastX 6 = .ok (.iconst 0, 1) := by decide +kernel
theorem dX0_leastX_7 : decode cX0_leastX 7 = .ok (.istore_n 3, 1) := by decide +kernel
theorem dX0_leastX_8 : decode cX0_leastX 8 = .ok (.iload_n 3, 1) := by decide +kernel
theorem dX0_leastX_9 : decode cX0_leastX 9 = .ok (.bipush 32, 2) := by decide +kernel
theorem dX0_leastX_11 : decode cX0_leastX 11 = .ok (.if_icmp .ge 20, 3) := by decide +kernel
theorem dX0_leastX_14 : decode cX0_leastX 14 = .ok (.iload_n 2, 1) := by decide +kernel
theorem dX0_leastX_15 : decode cX0_leastX 15 = .ok (.iload_n 3, 1) := by decide +kernel
theorem dX0_leastX_16 : decode cX0_leastX 16 = .ok (.invokestatic 82, 3) := by decide +kernel
theorem dX0_leastX_19 : decode cX0_leastX 19 = .ok (.iand, 1) := by decide +kernel
theorem dX0_leastX_20 : decode cX0_leastX 20 = .ok (.ifCond .eq 5, 3) := by decide +kernel
theorem dX0_leastX_23 : decode cX0_leastX 23 = .ok (.iload_n 3, 1) := by decide +kernel
theorem dX0_leastX_24 : decode cX0_leastX 24 = .ok (.ireturn, 1) := by decide +kernel
theorem dX0_leastX_25 : decode cX0_leastX 25 = .ok (.iinc 3 1, 3) := by decide +kernel
theorem dX0_leastX_28 : decode cX0_leastX 28 = .ok (.goto (-20), 3) := by decide +kernel
theorem dX0_leastX_31 : decode cX0_leastX 31 = .ok (.iconst (-1), 1) := by decide +kernel
theorem dX0_leastX_32 : decode cX0_leastX 32 = .ok (.ireturn, 1) := by decide +kernel
theorem dX0_greatestX_0 : decode cX0_greatestX 0 = .ok (.aload_n 0, 1) := by decide +kernel
theorem dX0_greatestX_1 : decode cX0_greatestX 1 = .ok (.iload_n 1, 1) := by decide +kernel
theorem dX0_greatestX_2 : decode cX0_greatestX 2 = .ok (.invokevirtual 79, 3) := by decide +kernel
theorem dX0_greatestX_5 : decode cX0_greatestX 5 = .ok (.istore_n 2, 1) := by decide +kernel
theorem dX0_greatestX_6 : decode cX0_greatestX 6 = .ok (.bipush 31, 2) := by decide +kernel
theorem dX0_greatestX_8 : decode cX0_greatestX 8 = .ok (.istore_n 3, 1) := by decide +kernel
theorem dX0_greatestX_9 : decode cX0_greatestX 9 = .ok (.iload_n 3, 1) := by decide +kernel
theorem dX0_greatestX_10 : decode cX0_greatestX 10 = .ok (.ifCond .lt 20, 3) := by decide +kernel
theorem dX0_greatestX_13 : decode cX0_greatestX 13 = .ok (.iload_n 2, 1) := by decide +kernel
theorem dX0_greatestX_14 : decode cX0_greatestX 14 = .ok (.iload_n 3, 1) := by decide +kernel
theorem dX0_greatestX_15 : decode cX0_greatestX 15 = .ok (.invokestatic 82, 3) := by decide +kernel
theorem dX0_greatestX_18 : decode cX0_greatestX 18 = .ok (.iand, 1) := by decide +kernel
theorem dX0_greatestX_19 : decode cX0_greatestX 19 = .ok (.ifCond .eq 5, 3) := by decide +kernel
theorem dX0_greatestX_22 : decode cX0_greatestX 22 = .ok (.iload_n 3, 1) := by decide +kernel
theorem dX0_greatestX_23 : decode cX0_greatestX 23 = .ok (.ireturn, 1) := by decide +kernel
theorem dX0_greatestX_24 : decode cX0_greatestX 24 = .ok (.iinc 3 (-1), 3) := by decide +kernel
theorem dX0_greatestX_27 : decode cX0_greatestX 27 = .ok (.goto (-18), 3) := by decide +kernel
theorem dX0_greatestX_30 : decode cX0_greatestX 30 = .ok (.iconst (-1), 1) := by decide +kernel
theorem dX0_greatestX_31 : decode cX0_greatestX 31 = .ok (.ireturn, 1) := by decide +kernel
theorem dX0_leastY_0 : decode cX0_leastY 0 = .ok (.iconst 0, 1) := by decide +kernel
theorem dX0_leastY_1 : decode cX0_leastY 1 = .ok (.istore_n 2, 1) := by decide +kernel
theorem dX0_leastY_2 : decode cX0_leastY 2 = .ok (.iload_n 2, 1) := by decide +kernel
theorem dX0_leastY_3 : decode cX0_leastY 3 = .ok (.bipush 24, 2) := by decide +kernel
theorem dX0_leastY_5 : decode cX0_leastY 5 = .ok (.if_icmp .ge 23, 3) := by decide +kernel
theorem dX0_leastY_8 : decode cX0_leastY 8 = .ok (.aload_n 0, 1) := by decide +kernel
theorem dX0_leastY_9 : decode cX0_leastY 9 = .ok (.getfield 15, 3) := by decide +kernel
theorem dX0_leastY_12 : decode cX0_leastY 12 = .ok (.iload_n 1, 1) := by decide +kernel
theorem dX0_leastY_13 : decode cX0_leastY 13 = .ok (.iload_n 2, 1) := by decide +kernel
theorem dX0_leastY_14 : decode cX0_leastY 14 = .ok (.invokevirtual 54, 3) := by decide +kernel
theorem dX0_leastY_17 : decode cX0_leastY 17 = .ok (.ifCond .eq 5, 3) := by decide +kernel
theorem dX0_leastY_20 : decode cX0_leastY 20 = .ok (.iload_n 2, 1) := by decide +kernel
theorem dX0_leastY_21 : decode cX0_leastY 21 = .ok (.ireturn, 1) := by decide +kernel
theorem dX0_leastY_22 : decode cX0_leastY 22 = .ok (.iinc 2 1, 3) := by decide +kernel
theorem dX0_leastY_25 : decode cX0_leastY 25 = .ok (.goto (-23), 3) := by decide +kernel
theorem dX0_leastY_28 : decode cX0_leastY 28 = .ok (.iconst (-1), 1) := by decide +kernel
theorem dX0_leastY_29 : decode cX0_leastY 29 = .ok (.ireturn, 1) := by decide +kernel
theorem dX0_greatestY_0 : decode cX0_greatestY 0 = .ok (.bipush 23, 2) := by decide +kernel
theorem dX0_greatestY_2 : decode cX0_greatestY 2 = .ok (.istore_n 2, 1) := by decide +kernel
theorem dX0_greatestY_3 : decode cX0_greatestY 3 = .ok (.iload_n 2, 1) := by decide +kernel
theorem dX0_greatestY_4 : decode cX0_greatestY 4 = .ok (.ifCond .lt 23, 3) := by decide +kernel
theorem dX0_greatestY_7 : decode cX0_greatestY 7 = .ok (.aload_n 0, 1) := by decide +kernel
theorem dX0_greatestY_8 : decode cX0_greatestY 8 = .ok (.getfield 15, 3) := by decide +kernel
theorem dX0_greatestY_11 : decode cX0_greatestY 11 = .ok (.iload_n 1, 1) := by decide +kernel
theorem dX0_greatestY_12 : decode cX0_greatestY 12 = .ok (.iload_n 2, 1) := by decide +kernel
theorem dX0_greatestY_13 : decode cX0_greatestY 13 = .ok (.invokevirtual 54, 3) := by decide +kernel
theorem dX0_greatestY_16 : decode cX0_greatestY 16 = .ok (.ifCond .eq 5, 3) := by decide +kernel
theorem dX0_greatestY_19 : decode cX0_greatestY 19 = .ok (.iload_n 2, 1) := by decide +kernel
theorem dX0_greatestY_20 : decode cX0_greatestY 20 = .ok (.ireturn, 1) := by decide +kernel
theorem dX0_greatestY_21 : decode cX0_greatestY 21 = .ok (.iinc 2 (-1), 3) := by decide +kernel
theorem dX0_greatestY_24 : decode cX0_greatestY 24 = .ok (.goto (-21), 3) := by decide +kernel
theorem dX0_greatestY_27 : decode cX0_greatestY 27 = .ok (.iconst (-1), 1) := by decide +kernel
theorem dX0_greatestY_28 : decode cX0_greatestY 28 = .ok (.ireturn, 1) := by decide +kernel
theorem dX0_openDots_0 : decode cX0_openDots 0 = .ok (.iconst 0, 1) := by decide +kernel
theorem dX0_openDots_1 : decode cX0_openDots 1 = .ok (.istore_n 1, 1) := by decide +kernel
theorem dX0_openDots_2 : decode cX0_openDots 2 = .ok (.iconst 0, 1) := by decide +kernel
theorem dX0_openDots_3 : decode cX0_openDots 3 = .ok (.istore_n 2, 1) := by decide +kernel
theorem dX0_openDots_4 : decode cX0_openDots 4 = .ok (.iload_n 2, 1) := by decide +kernel
theorem dX0_openDots_5 : decode cX0_openDots 5 = .ok (.bipush 24, 2) := by decide +kernel
theorem dX0_openDots_7 : decode cX0_openDots 7 = .ok (.if_icmp .ge 23, 3) := by decide +kernel
theorem dX0_openDots_10 : decode cX0_openDots 10 = .ok (.iload_n 1, 1) := by decide +kernel
theorem dX0_openDots_11 : decode cX0_openDots 11 = .ok (.aload_n 0, 1) := by decide +kernel
theorem dX0_openDots_12 : decode cX0_openDots 12 = .ok (.getfield 15, 3) := by decide +kernel
theorem dX0_openDots_15 : decode cX0_openDots 15 = .ok (.iload_n 2, 1) := by decide +kernel
theorem dX0_openDots_16 : decode cX0_openDots 16 = .ok (.invokevirtual 85, 3) := by decide +kernel
theorem dX0_openDots_19 : decode cX0_openDots 19 = .ok (.invokestatic 59, 3) := by decide +kernel
theorem dX0_openDots_22 : decode cX0_openDots 22 = .ok (.iadd, 1) := by decide +kernel
theorem dX0_openDots_23 : decode cX0_openDots 23 = .ok (.istore_n 1, 1) := by decide +kernel
theorem dX0_openDots_24 : decode cX0_openDots 24 = .ok (.iinc 2 1, 3) := by decide +kernel
theorem dX0_openDots_27 : decode cX0_openDots 27 = .ok (.goto (-23), 3) := by decide +kernel
theorem dX0_openDots_30 : decode cX0_openDots 30 = .ok (.iload_n 1, 1) := by decide +kernel
theorem dX0_openDots_31 : decode cX0_openDots 31 = .ok (.ireturn, 1) := by decide +kernel
theorem dX1_init_0 : decode cX1_init 0 = .ok (.aload_n 0, 1) := by decide +kernel
theorem dX1_init_1 : decode cX1_init 1 = .ok (.invokespecial 3, 3) := by decide +kernel
theorem dX1_init_4 : decode cX1_init 4 = .ok (.aload_n 0, 1) := by decide +kernel
theorem dX1_init_5 : decode cX1_init 5 = .ok (.bipush 9, 2) := by decide +kernel
theorem dX1_init_7 : decode cX1_init 7 = .ok (.newarray .int, 2) := by decide +kernel
theorem dX1_init_9 : decode cX1_init 9 = .ok (.putfield 11, 3) := by decide +kernel
theorem dX1_init_12 : decode cX1_init 12 = .ok (.aload_n 0, 1) := by decide +kernel
theorem dX1_init_13 : decode cX1_init 13 = .ok (.ldc 15, 2) := by decide +kernel
theorem dX1_init_15 : decode cX1_init 15 = .ok (.putfield 17, 3) := by decide +kernel
theorem dX1_init_18 : decode cX1_init 18 = .ok (.return_, 1) := by decide +kernel
theorem dX1_begins_0 : decode cX1_begins 0 = .ok (.aload_n 0, 1) := by decide +kernel
theorem dX1_begins_1 : decode cX1_begins 1 = .ok (.iload_n 1, 1) := by decide +kernel
theorem dX1_begins_2 : decode cX1_begins 2 = .ok (.putfield 21, 3) := by decide +kernel
theorem dX1_begins_5 : decode cX1_begins 5 = .ok (.aload_n 0, 1) := by decide +kernel
theorem dX1_begins_6 : decode cX1_begins 6 = .ok (.iload_n 1, 1) := by decide +kernel
theorem dX1_begins_7 : decode cX1_begins 7 = .ok (.invokestatic 25, 3) := by decide +kernel
theorem dX1_begins_10 : decode cX1_begins 10 = .ok (.putfield 17, 3) := by decide +kernel
theorem dX1_begins_13 : decode cX1_begins 13 = .ok (.aload_n 0, 1) := by decide +kernel
theorem dX1_begins_14 : decode cX1_begins 14 = .ok (.iconst 0, 1) := by decide +kernel
theorem dX1_begins_15 : decode cX1_begins 15 = .ok (.putfield 29, 3) := by decide +kernel
theorem dX1_begins_18 : decode cX1_begins 18 = .ok (.aload_n 0, 1) := by decide +kernel
theorem dX1_begins_19 : decode cX1_begins 19 = .ok (.iconst 1, 1) := by decide +kernel
theorem dX1_begins_20 : decode cX1_begins 20 = .ok (.putfield 32, 3) := by decide +kernel
theorem dX1_begins_23 : decode cX1_begins 23 = .ok (.return_, 1) := by decide +kernel
theorem dX1_with_0 : decode cX1_with 0 = .ok (.aload_n 0, 1) := by decide +kernel
theorem dX1_with_1 : decode cX1_with 1 = .ok (.getfield 29, 3) := by decide +kernel
theorem dX1_with_4 : decode cX1_with 4 = .ok (.aload_n 0, 1) := by decide +kernel
theorem dX1_with_5 : decode cX1_with 5 = .ok (.getfield 17, 3) := by decide +kernel
theorem dX1_with_8 : decode cX1_with 8 = .ok (.invokevirtual 36, 3) := by decide +kernel
theorem dX1_with_11 : decode cX1_with 11 = .ok (.if_icmp .ge 66, 3) := by decide +kernel
theorem dX1_with_14 : decode cX1_with 14 = .ok (.aload_n 0, 1) := by decide +kernel
theorem dX1_with_15 : decode cX1_with 15 = .ok (.getfield 29, 3) := by decide +kernel
theorem dX1_with_18 : decode cX1_with 18 = .ok (.bipush 9, 2) := by decide +kernel
theorem dX1_with_20 : decode cX1_with 20 = .ok (.if_icmp .ge 57, 3) := by decide +kernel
theorem dX1_with_23 : decode cX1_with 23 = .ok (.aload_n 0, 1) := by decide +kernel
theorem dX1_with_24 : decode cX1_with 24 = .ok (.aload_n 0, 1) := by decide +kernel
theorem dX1_with_25 : decode cX1_with 25 = .ok (.getfield 32, 3) := by decide +kernel
theorem dX1_with_28 : decode cX1_with 28 = .ok (.ifCond .eq 25, 3) := by decide +kernel
theorem dX1_with_31 : decode cX1_with 31 = .ok (.iload_n 1, 1) := by decide +kernel
theorem dX1_with_32 : decode cX1_with 32 = .ok (.aload_n 0, 1) := by decide +kernel
theorem dX1_with_33 : decode cX1_with 33 = .ok (.getfield 17, 3) := by decide +kernel
theorem dX1_with_36 : decode cX1_with 36 = .ok (.aload_n 0, 1) := by decide +kernel
theorem dX1_with_37 : decode cX1_with 37 = .ok (.getfield 29, 3) := by decide +kernel
theorem dX1_with_40 : decode cX1_with 40 = .ok (.invokevirtual 42, 3) := by decide +kernel
theorem dX1_with_43 : decode cX1_with 43 = .ok (.invokestatic 46, 3) := by decide +kernel
theorem dX1_with_46 : decode cX1_with 46 = .ok (.ifCond .eq 7, 3) := by decide +kernel
theorem dX1_with_49 : decode cX1_with 49 = .ok (.iconst 1, 1) := by decide +kernel
theorem dX1_with_50 : decode cX1_with 50 = .ok (.goto 4, 3) := by decide +kernel
theorem dX1_with_53 : decode cX1_with 53 = .ok (.iconst 0, 1) := by decide +kernel
theorem dX1_with_54 : decode cX1_with 54 = .ok (.putfield 32, 3) := by decide +kernel
theorem dX1_with_57 : decode cX1_with 57 = .ok (.aload_n 0, 1) := by decide +kernel
theorem dX1_with_58 : decode cX1_with 58 = .ok (.getfield 11, 3) := by decide +kernel
theorem dX1_with_61 : decode cX1_with 61 = .ok (.aload_n 0, 1) := by decide +kernel
theorem dX1_with_62 : decode cX1_with 62 = .ok (.getfield 29, 3) := by decide +kernel
theorem dX1_with_65 : decode cX1_with 65 = .ok (.iload_n 1, 1) := by decide +kernel
theorem dX1_with_66 : decode cX1_with 66 = .ok (.iastore, 1) := by decide +kernel
theorem dX1_with_67 : decode cX1_with 67 = .ok (.aload_n 0, 1) := by decide +kernel
theorem dX1_with_68 : decode cX1_with 68 = .ok (.dup, 1) := by decide +kernel
theorem dX1_with_69 : decode cX1_with 69 = .ok (.getfield 29, 3) := by decide +kernel
theorem dX1_with_72 : decode cX1_with 72 = .ok (.iconst 1, 1) := by decide +kernel
theorem dX1_with_73 : decode cX1_with 73 = .ok (.iadd, 1) := by decide +kernel
theorem dX1_with_74 : decode cX1_with 74 = .ok (.putfield 29, 3) := by decide +kernel
theorem dX1_with_77 : decode cX1_with 77 = .ok (.aload_n 0, 1) := by decide +kernel
theorem dX1_with_78 : decode cX1_with 78 = .ok (.areturn, 1) := by decide +kernel
theorem dX1_isAsTold_0 : decode cX1_isAsTold 0 = .ok (.aload_n 0, 1) := by decide +kernel
theorem dX1_isAsTold_1 : decode cX1_isAsTold 1 = .ok (.getfield 32, 3) := by decide +kernel
theorem dX1_isAsTold_4 : decode cX1_isAsTold 4 = .ok (.ifCond .eq 21, 3) := by decide +kernel
theorem dX1_isAsTold_7 : decode cX1_isAsTold 7 = .ok (.aload_n 0, 1) := by decide +kernel
theorem dX1_isAsTold_8 : decode cX1_isAsTold 8 = .ok (.getfield 29, 3) := by decide +kernel
theorem dX1_isAsTold_11 : decode cX1_isAsTold 11 = .ok (.aload_n 0, 1) := by decide +kernel
theorem dX1_isAsTold_12 : decode cX1_isAsTold 12 = .ok (.getfield 17, 3) := by decide +kernel
theorem dX1_isAsTold_15 : decode cX1_isAsTold 15 = .ok (.invokevirtual 36, 3) := by decide +kernel
theorem dX1_isAsTold_18 : decode cX1_isAsTold 18 = .ok (.if_icmp .ne 7, 3) := by decide +kernel
theorem dX1_isAsTold_21 : decode cX1_isAsTold 21 = .ok (.iconst 1, 1) := by decide +kernel
theorem dX1_isAsTold_22 : decode cX1_isAsTold 22 = .ok (.goto 4, 3) := by decide +kernel
theorem dX1_isAsTold_25 : decode cX1_isAsTold 25 = .ok (.iconst 0, 1) := by decide +kernel
theorem dX1_isAsTold_26 : decode cX1_isAsTold 26 = .ok (.ireturn, 1) := by decide +kernel
theorem dX1_numberAt_0 : decode cX1_numberAt 0 = .ok (.iload_n 1, 1) := by decide +kernel
theorem dX1_numberAt_1 : decode cX1_numberAt 1 = .ok (.iconst 0, 1) := by decide +kernel
theorem dX1_numberAt_2 : decode cX1_numberAt 2 = .ok (.aload_n 0, 1) := by decide +kernel
theorem dX1_numberAt_3 : decode cX1_numberAt 3 = .ok (.getfield 29, 3) := by decide +kernel
theorem dX1_numberAt_6 : decode cX1_numberAt 6 = .ok (.iconst 1, 1) := by decide +kernel
theorem dX1_numberAt_7 : decode cX1_numberAt 7 = .ok (.isub, 1) := by decide +kernel
theorem dX1_numberAt_8 : decode cX1_numberAt 8 = .ok (.invokestatic 50, 3) := by decide +kernel
theorem dX1_numberAt_11 : decode cX1_numberAt 11 = .ok (.ifCond .eq 12, 3) := by decide +kernel
theorem dX1_numberAt_14 : decode cX1_numberAt 14 = .ok (.aload_n 0, 1) := by decide +kernel
theorem dX1_numberAt_15 : decode cX1_numberAt 15 = .ok (.getfield 11, 3) := by decide +kernel
theorem dX1_numberAt_18 : decode cX1_numberAt 18 = .ok (.iload_n 1, 1) := by decide +kernel
theorem dX1_numberAt_19 : decode cX1_numberAt 19 = .ok (.iaload, 1) := by decide +kernel
theorem dX1_numberAt_20 : decode cX1_numberAt 20 = .ok (.goto 4, 3) := by decide +kernel
theorem dX1_numberAt_23 : decode cX1_numberAt 23 = .ok (.iconst 0, 1) := by decide +kernel
theorem dX1_numberAt_24 : decode cX1_numberAt 24 = .ok (.ireturn, 1) := by decide +kernel
theorem dX1_isSign_0 : decode cX1_isSign 0 = .ok (.iload_n 0, 1) := by decide +kernel
theorem dX1_isSign_1 : decode cX1_isSign 1 = .ok (.bipush 107, 2) := by decide +kernel
theorem dX1_isSign_3 : decode cX1_isSign 3 = .ok (.if_icmp .eq 13, 3) := by decide +kernel
theorem dX1_isSign_6 : decode cX1_isSign 6 = .ok (.iload_n 0, 1) := by decide +kernel
theorem dX1_isSign_7 : decode cX1_isSign 7 = .ok (.invokestatic 25, 3) := by decide +kernel
theorem dX1_isSign_10 : decode cX1_isSign 10 = .ok (.invokevirtual 54, 3) := by decide +kernel
theorem dX1_isSign_13 : decode cX1_isSign 13 = .ok (.ifCond .ne 7, 3) := by decide +kernel
theorem dX1_isSign_16 : decode cX1_isSign 16 = .ok (.iconst 1, 1) := by decide +kernel
theorem dX1_isSign_17 : decode cX1_isSign 17 = .ok (.goto 4, 3) := by decide +kernel
theorem dX1_isSign_20 : decode cX1_isSign 20 = .ok (.iconst 0, 1) := by decide +kernel
theorem dX1_isSign_21 : decode cX1_isSign 21 = .ok (.ireturn, 1) := by decide +kernel
theorem dX1_kindsOf_0 : decode cX1_kindsOf 0 = .ok (.iload_n 0, 1) := by decide +kernel
theorem dX1_kindsOf_1 : decode cX1_kindsOf 1 = .ok (.tableswitch 97 99 114 #[91, 97, 97, 85, 97, 97, 97, 97, 97, 82, 79, 97, 94, 97, 97, 88], 79) := by decide +kernel
theorem dX1_kindsOf_80 : decode cX1_kindsOf 80 = .ok (.ldc 58, 2) := by decide +kernel
theorem dX1_kindsOf_82 : decode cX1_kindsOf 82 = .ok (.areturn, 1) := by decide +kernel
theorem dX1_kindsOf_83 : decode cX1_kindsOf 83 = .ok (.ldc 60, 2) := by decide +kernel
theorem dX1_kindsOf_85 : decode cX1_kindsOf 85 = .ok (.areturn, 1) := by decide +kernel
theorem dX1_kindsOf_86 : decode cX1_kindsOf 86 = .ok (.ldc 62, 2) := by decide +kernel
theorem dX1_kindsOf_88 : decode cX1_kindsOf 88 = .ok (.areturn, 1) := by decide +kernel
theorem dX1_kindsOf_89 : decode cX1_kindsOf 89 = .ok (.ldc 64, 2) := by decide +kernel
theorem dX1_kindsOf_91 : decode cX1_kindsOf 91 = .ok (.areturn, 1) := by decide +kernel
theorem dX1_kindsOf_92 : decode cX1_kindsOf 92 = .ok (.ldc 66, 2) := by decide +kernel
theorem dX1_kindsOf_94 : decode cX1_kindsOf 94 = .ok (.areturn, 1) := by decide +kernel
theorem dX1_kindsOf_95 : decode cX1_kindsOf 95 = .ok (.ldc 68, 2) := by decide +kernel
theorem dX1_kindsOf_97 : decode cX1_kindsOf 97 = .ok (.areturn, 1) := by decide +kernel
theorem dX1_kindsOf_98 : decode cX1_kindsOf 98 = .ok (.ldc 15, 2) := by decide +kernel
theorem dX1_kindsOf_100 : decode cX1_kindsOf 100 = .ok (.areturn, 1) := by decide +kernel
theorem dX1_isOfKind_0 : decode cX1_isOfKind 0 = .ok (.iload_n 1, 1) := by decide +kernel
theorem dX1_isOfKind_1 : decode cX1_isOfKind 1 = .ok (.lookupswitch 66 #[(110, 58), (112, 43), (119, 53), (120, 48)], 43) := by decide +kernel
theorem dX1_isOfKind_44 : decode cX1_isOfKind 44 = .ok (.iload_n 0, 1) := by decide +kernel
theorem dX1_isOfKind_45 : decode cX1_isOfKind 45 = .ok (.invokestatic 70, 3) := by decide +kernel
theorem dX1_isOfKind_48 : decode cX1_isOfKind 48 = .ok (.ireturn, 1) := by decide +kernel
theorem dX1_isOfKind_49 : decode cX1_isOfKind 49 = .ok (.iload_n 0, 1) := by decide +kernel
theorem dX1_isOfKind_50 : decode cX1_isOfKind 50 = .ok (.invokestatic 74, 3) := by decide +kernel
theorem dX1_isOfKind_53 : decode cX1_isOfKind 53 = .ok (.ireturn, 1) := by decide +kernel
theorem dX1_isOfKind_54 : decode cX1_isOfKind 54 = .ok (.iload_n 0, 1) := by decide +kernel
theorem dX1_isOfKind_55 : decode cX1_isOfKind 55 = .ok (.invokestatic 77, 3) := by decide +kernel
theorem dX1_isOfKind_58 : decode cX1_isOfKind 58 = .ok (.ireturn, 1) := by decide +kernel
theorem dX1_isOfKind_59 : decode cX1_isOfKind 59 = .ok (.iload_n 0, 1) := by decide +kernel
theorem dX1_isOfKind_60 : decode cX1_isOfKind 60 = .ok (.iconst 0, 1) := by decide +kernel
theorem dX1_isOfKind_61 : decode cX1_isOfKind 61 = .ok (.bipush 15, 2) := by decide +kernel
theorem dX1_isOfKind_63 : decode cX1_isOfKind 63 = .ok (.invokestatic 50, 3) := by decide +kernel
theorem dX1_isOfKind_66 : decode cX1_isOfKind 66 = .ok (.ireturn, 1) := by decide +kernel
theorem dX1_isOfKind_67 : decode cX1_isOfKind 67 = .ok (.iload_n 0, 1) := by decide +kernel
theorem dX1_isOfKind_68 : decode cX1_isOfKind 68 = .ok (.iconst 0, 1) := by decide +kernel
theorem dX1_isOfKind_69 : decode cX1_isOfKind 69 = .ok (.sipush 255, 3) := by decide +kernel
theorem dX1_isOfKind_72 : decode cX1_isOfKind 72 = .ok (.invokestatic 50, 3) := by decide +kernel
theorem dX1_isOfKind_75 : decode cX1_isOfKind 75 = .ok (.ireturn, 1) := by decide +kernel
theorem dX2_init_0 : decode cX2_init 0 = .ok (.aload_n 0, 1) := by decide +kernel
theorem dX2_init_1 : decode cX2_init 1 = .ok (.invokespecial 3, 3) := by decide +kernel
theorem dX2_init_4 : decode cX2_init 4 = .ok (.aload_n 0, 1) := by decide +kernel
theorem dX2_init_5 : decode cX2_init 5 = .ok (.bipush 120, 2) := by decide +kernel
theorem dX2_init_7 : decode cX2_init 7 = .ok (.newarray .byte, 2) := by decide +kernel
theorem dX2_init_9 : decode cX2_init 9 = .ok (.putfield 9, 3) := by decide +kernel
theorem dX2_init_12 : decode cX2_init 12 = .ok (.return_, 1) := by decide +kernel
theorem dX2_takes_0 : decode cX2_takes 0 = .ok (.aload_n 0, 1) := by decide +kernel
theorem dX2_takes_1 : decode cX2_takes 1 = .ok (.getfield 15, 3) := by decide +kernel
theorem dX2_takes_4 : decode cX2_takes 4 = .ok (.bipush 120, 2) := by decide +kernel
theorem dX2_takes_6 : decode cX2_takes 6 = .ok (.if_icmp .ge 24, 3) := by decide +kernel
theorem dX2_takes_9 : decode cX2_takes 9 = .ok (.aload_n 0, 1) := by decide +kernel
theorem dX2_takes_10 : decode cX2_takes 10 = .ok (.getfield 9, 3) := by decide +kernel
theorem dX2_takes_13 : decode cX2_takes 13 = .ok (.aload_n 0, 1) := by decide +kernel
theorem dX2_takes_14 : decode cX2_takes 14 = .ok (.getfield 15, 3) := by decide +kernel
theorem dX2_takes_17 : decode cX2_takes 17 = .ok (.iload_n 1, 1) := by decide +kernel
theorem dX2_takes_18 : decode cX2_takes 18 = .ok (.i2b, 1) := by decide +kernel
theorem dX2_takes_19 : decode cX2_takes 19 = .ok (.bastore, 1) := by decide +kernel
theorem dX2_takes_20 : decode cX2_takes 20 = .ok (.aload_n 0, 1) := by decide +kernel
theorem dX2_takes_21 : decode cX2_takes 21 = .ok (.dup, 1) := by decide +kernel
theorem dX2_takes_22 : decode cX2_takes 22 = .ok (.getfield 15, 3) := by decide +kernel
theorem dX2_takes_25 : decode cX2_takes 25 = .ok (.iconst 1, 1) := by decide +kernel
theorem dX2_takes_26 : decode cX2_takes 26 = .ok (.iadd, 1) := by decide +kernel
theorem dX2_takes_27 : decode cX2_takes 27 = .ok (.putfield 15, 3) := by decide +kernel
theorem dX2_takes_30 : decode cX2_takes 30 = .ok (.return_, 1) := by decide +kernel
theorem dX2_restarts_0 : decode cX2_restarts 0 = .ok (.aload_n 0, 1) := by decide +kernel
theorem dX2_restarts_1 : decode cX2_restarts 1 = .ok (.iconst 0, 1) := by decide +kernel
theorem dX2_restarts_2 : decode cX2_restarts 2 = .ok (.putfield 19, 3) := by decide +kernel
theorem dX2_restarts_5 : decode cX2_restarts 5 = .ok (.return_, 1) := by decide +kernel
theorem dX2_isAtEnd_0 : decode cX2_isAtEnd 0 = .ok (.aload_n 0, 1) := by decide +kernel
theorem dX2_isAtEnd_1 : decode cX2_isAtEnd 1 = .ok (.invokevirtual 22, 3) := by decide +kernel
theorem dX2_isAtEnd_4 : decode cX2_isAtEnd 4 = .ok (.aload_n 0, 1) := by decide +kernel
theorem dX2_isAtEnd_5 : decode cX2_isAtEnd 5 = .ok (.getfield 19, 3) := by decide +kernel
theorem dX2_isAtEnd_8 : decode cX2_isAtEnd 8 = .ok (.aload_n 0, 1) := by decide +kernel
theorem dX2_isAtEnd_9 : decode cX2_isAtEnd 9 = .ok (.getfield 15, 3) := by decide +kernel
theorem dX2_isAtEnd_12 : decode cX2_isAtEnd 12 = .ok (.if_icmp .lt 7, 3) := by decide +kernel
theorem dX2_isAtEnd_15 : decode cX2_isAtEnd 15 = .ok (.iconst 1, 1) := by decide +kernel
theorem dX2_isAtEnd_16 : decode cX2_isAtEnd 16 = .ok (.goto 4, 3) := by decide +kernel
theorem dX2_isAtEnd_19 : decode cX2_isAtEnd 19 = .ok (.iconst 0, 1) := by decide +kernel
theorem dX2_isAtEnd_20 : decode cX2_isAtEnd 20 = .ok (.ireturn, 1) := by decide +kernel
theorem dX2_faultIn_0 : decode cX2_faultIn 0 = .ok (.aload_n 0, 1) := by decide +kernel
theorem dX2_faultIn_1 : decode cX2_faultIn 1 = .ok (.invokevirtual 25, 3) := by decide +kernel
theorem dX2_faultIn_4 : decode cX2_faultIn 4 = .ok (.aload_n 0, 1) := by decide +kernel
theorem dX2_faultIn_5 : decode cX2_faultIn 5 = .ok (.invokevirtual 28, 3) := by decide +kernel
theorem dX2_faultIn_8 : decode cX2_faultIn 8 = .ok (.ifCond .eq 8, 3) := by decide +kernel
theorem dX2_faultIn_11 : decode cX2_faultIn 11 = .ok (.aload_n 0, 1) := by decide +kernel
theorem dX2_faultIn_12 : decode cX2_faultIn 12 = .ok (.getfield 15, 3) := by decide +kernel
theorem dX2_faultIn_15 : decode cX2_faultIn 15 = .ok (.ireturn, 1) := by decide +kernel
theorem dX2_faultIn_16 : decode cX2_faultIn 16 = .ok (.iload_n 2, 1) := by decide +kernel
theorem dX2_faultIn_17 : decode cX2_faultIn 17 = .ok (.istore_n 3, 1) := by decide +kernel
theorem dX2_faultIn_18 : decode cX2_faultIn 18 = .ok (.iconst 0, 1) := by decide +kernel
theorem dX2_faultIn_19 : decode cX2_faultIn 19 = .ok (.istore 4, 2) := by decide +kernel
theorem dX2_faultIn_21 : decode cX2_faultIn 21 = .ok (.iload 4, 2) := by decide +kernel
theorem dX2_faultIn_23 : decode cX2_faultIn 23 = .ok (.bipush 120, 2) := by decide +kernel
theorem dX2_faultIn_25 : decode cX2_faultIn 25 = .ok (.if_icmp .ge 57, 3) := by decide +kernel
theorem dX2_faultIn_28 : decode cX2_faultIn 28 = .ok (.aload_n 0, 1) := by decide +kernel
theorem dX2_faultIn_29 : decode cX2_faultIn 29 = .ok (.invokevirtual 28, 3) := by decide +kernel
theorem dX2_faultIn_32 : decode cX2_faultIn 32 = .ok (.ifCond .ne 50, 3) := by decide +kernel
theorem dX2_faultIn_35 : decode cX2_faultIn 35 = .ok (.aload_n 0, 1) := by decide +kernel
theorem dX2_faultIn_36 : decode cX2_faultIn 36 = .ok (.invokevirtual 32, 3) := by decide +kernel
theorem dX2_faultIn_39 : decode cX2_faultIn 39 = .ok (.bipush 111, 2) := by decide +kernel
theorem dX2_faultIn_41 : decode cX2_faultIn 41 = .ok (.if_icmp .ne 13, 3) := by decide +kernel
theorem dX2_faultIn_44 : decode cX2_faultIn 44 = .ok (.iload_n 3, 1) := by decide +kernel
theorem dX2_faultIn_45 : decode cX2_faultIn 45 = .ok (.iconst 4, 1) := by decide +kernel
theorem dX2_faultIn_46 : decode cX2_faultIn 46 = .ok (.if_icmp .lt 8, 3) := by decide +kernel
theorem dX2_faultIn_49 : decode cX2_faultIn 49 = .ok (.aload_n 0, 1) := by decide +kernel
theorem dX2_faultIn_50 : decode cX2_faultIn 50 = .ok (.getfield 19, 3) := by decide +kernel
theorem dX2_faultIn_53 : decode cX2_faultIn 53 = .ok (.ireturn, 1) := by decide +kernel
theorem dX2_faultIn_54 : decode cX2_faultIn 54 = .ok (.aload_n 0, 1) := by decide +kernel
theorem dX2_faultIn_55 : decode cX2_faultIn 55 = .ok (.aload_n 1, 1) := by decide +kernel
theorem dX2_faultIn_56 : decode cX2_faultIn 56 = .ok (.invokevirtual 38, 3) := by decide +kernel
theorem dX2_faultIn_59 : decode cX2_faultIn 59 = .ok (.istore 5, 2) := by decide +kernel
theorem dX2_faultIn_61 : decode cX2_faultIn 61 = .ok (.iload 5, 2) := by decide +kernel
theorem dX2_faultIn_63 : decode cX2_faultIn 63 = .ok (.iconst (-1), 1) := by decide +kernel
theorem dX2_faultIn_64 : decode cX2_faultIn 64 = .ok (.if_icmp .eq 6, 3) := by decide +kernel
theorem dX2_faultIn_67 : decode cX2_faultIn 67 = .ok (.iload 5, 2) := by decide +kernel
theorem dX2_faultIn_69 : decode cX2_faultIn 69 = .ok (.ireturn, 1) := by decide +kernel
theorem dX2_faultIn_70 : decode cX2_faultIn 70 = .ok (.aload_n 1, 1) := by decide +kernel
theorem dX2_faultIn_71 : decode cX2_faultIn 71 = .ok (.iload_n 3, 1) := by decide +kernel
theorem dX2_faultIn_72 : decode cX2_faultIn 72 = .ok (.invokestatic 42, 3) := by decide +kernel
theorem dX2_faultIn_75 : decode cX2_faultIn 75 = .ok (.istore_n 3, 1) := by decide +kernel
theorem dX2_faultIn_76 : decode cX2_faultIn 76 = .ok (.iinc 4 1, 3) := by decide +kernel
theorem dX2_faultIn_79 : decode cX2_faultIn 79 = .ok (.goto (-58), 3) := by decide +kernel
theorem dX2_faultIn_82 : decode cX2_faultIn 82 = .ok (.iconst (-1), 1) := by decide +kernel
theorem dX2_faultIn_83 : decode cX2_faultIn 83 = .ok (.ireturn, 1) := by decide +kernel
theorem dX2_reads_0 : decode cX2_reads 0 = .ok (.aload_n 0, 1) := by decide +kernel
theorem dX2_reads_1 : decode cX2_reads 1 = .ok (.invokevirtual 22, 3) := by decide +kernel
theorem dX2_reads_4 : decode cX2_reads 4 = .ok (.aload_n 0, 1) := by decide +kernel
theorem dX2_reads_5 : decode cX2_reads 5 = .ok (.invokevirtual 32, 3) := by decide +kernel
theorem dX2_reads_8 : decode cX2_reads 8 = .ok (.istore_n 2, 1) := by decide +kernel
theorem dX2_reads_9 : decode cX2_reads 9 = .ok (.iload_n 2, 1) := by decide +kernel
theorem dX2_reads_10 : decode cX2_reads 10 = .ok (.invokestatic 46, 3) := by decide +kernel
theorem dX2_reads_13 : decode cX2_reads 13 = .ok (.ifCond .ne 8, 3) := by decide +kernel
theorem dX2_reads_16 : decode cX2_reads 16 = .ok (.aload_n 0, 1) := by decide +kernel
theorem dX2_reads_17 : decode cX2_reads 17 = .ok (.getfield 19, 3) := by decide +kernel
theorem dX2_reads_20 : decode cX2_reads 20 = .ok (.ireturn, 1) := by decide +kernel
theorem dX2_reads_21 : decode cX2_reads 21 = .ok (.aload_n 1, 1) := by decide +kernel
theorem dX2_reads_22 : decode cX2_reads 22 = .ok (.iload_n 2, 1) := by decide +kernel
theorem dX2_reads_23 : decode cX2_reads 23 = .ok (.invokevirtual 50, 3) := by decide +kernel
theorem dX2_reads_26 : decode cX2_reads 26 = .ok (.aload_n 0, 1) := by decide +kernel
theorem dX2_reads_27 : decode cX2_reads 27 = .ok (.dup, 1) := by decide +kernel
theorem dX2_reads_28 : decode cX2_reads 28 = .ok (.getfield 19, 3) := by decide +kernel
theorem dX2_reads_31 : decode cX2_reads 31 = .ok (.iconst 1, 1) := by decide +kernel
theorem dX2_reads_32 : decode cX2_reads 32 = .ok (.iadd, 1) := by decide +kernel
theorem dX2_reads_33 : decode cX2_reads 33 = .ok (.putfield 19, 3) := by decide +kernel
theorem dX2_reads_36 : decode cX2_reads 36 = .ok (.iconst 0, 1) := by decide +kernel
theorem dX2_reads_37 : decode cX2_reads 37 = .ok (.istore_n 3, 1) := by decide +kernel
theorem dX2_reads_38 : decode cX2_reads 38 = .ok (.iload_n 3, 1) := by decide +kernel
theorem dX2_reads_39 : decode cX2_reads 39 = .ok (.aload_n 1, 1) := by decide +kernel
theorem dX2_reads_40 : decode cX2_reads 40 = .ok (.getfield 54, 3) := by decide +kernel
theorem dX2_reads_43 : decode cX2_reads 43 = .ok (.invokevirtual 58, 3) := by decide +kernel
theorem dX2_reads_46 : decode cX2_reads 46 = .ok (.if_icmp .ge 43, 3) := by decide +kernel
theorem dX2_reads_49 : decode cX2_reads 49 = .ok (.aload_n 0, 1) := by decide +kernel
theorem dX2_reads_50 : decode cX2_reads 50 = .ok (.invokevirtual 22, 3) := by decide +kernel
theorem dX2_reads_53 : decode cX2_reads 53 = .ok (.aload_n 0, 1) := by decide +kernel
theorem dX2_reads_54 : decode cX2_reads 54 = .ok (.getfield 19, 3) := by decide +kernel
theorem dX2_reads_57 : decode cX2_reads 57 = .ok (.istore 4, 2) := by decide +kernel
theorem dX2_reads_59 : decode cX2_reads 59 = .ok (.aload_n 0, 1) := by decide +kernel
theorem dX2_reads_60 : decode cX2_reads 60 = .ok (.invokevirtual 62, 3) := by decide +kernel
theorem dX2_reads_63 : decode cX2_reads 63 = .ok (.ifCond .eq 17, 3) := by decide +kernel
theorem dX2_reads_66 : decode cX2_reads 66 = .ok (.aload_n 1, 1) := by decide +kernel
theorem dX2_reads_67 : decode cX2_reads 67 = .ok (.aload_n 0, 1) := by decide +kernel
theorem dX2_reads_68 : decode cX2_reads 68 = .ok (.getfield 65, 3) := by decide +kernel
theorem dX2_reads_71 : decode cX2_reads 71 = .ok (.invokevirtual 68, 3) := by decide +kernel
theorem dX2_reads_74 : decode cX2_reads 74 = .ok (.getfield 72, 3) := by decide +kernel
theorem dX2_reads_77 : decode cX2_reads 77 = .ok (.ifCond .ne 6, 3) := by decide +kernel
theorem dX2_reads_80 : decode cX2_reads 80 = .ok (.iload 4, 2) := by decide +kernel
theorem dX2_reads_82 : decode cX2_reads 82 = .ok (.ireturn, 1) := by decide +kernel
theorem dX2_reads_83 : decode cX2_reads 83 = .ok (.iinc 3 1, 3) := by decide +kernel
theorem dX2_reads_86 : decode cX2_reads 86 = .ok (.goto (-48), 3) := by decide +kernel
theorem dX2_reads_89 : decode cX2_reads 89 = .ok (.aload_n 0, 1) := by decide +kernel
theorem dX2_reads_90 : decode cX2_reads 90 = .ok (.invokevirtual 22, 3) := by decide +kernel
theorem dX2_reads_93 : decode cX2_reads 93 = .ok (.aload_n 0, 1) := by decide +kernel
theorem dX2_reads_94 : decode cX2_reads 94 = .ok (.invokevirtual 32, 3) := by decide +kernel
theorem dX2_reads_97 : decode cX2_reads 97 = .ok (.bipush 59, 2) := by decide +kernel
theorem dX2_reads_99 : decode cX2_reads 99 = .ok (.if_icmp .eq 8, 3) := by decide +kernel
theorem dX2_reads_102 : decode cX2_reads 102 = .ok (.aload_n 0, 1) := by decide +kernel
theorem dX2_reads_103 : decode cX2_reads 103 = .ok (.getfield 19, 3) := by decide +kernel
theorem dX2_reads_106 : decode cX2_reads 106 = .ok (.ireturn, 1) := by decide +kernel
theorem dX2_reads_107 : decode cX2_reads 107 = .ok (.aload_n 0, 1) := by decide +kernel
theorem dX2_reads_108 : decode cX2_reads 108 = .ok (.dup, 1) := by decide +kernel
theorem dX2_reads_109 : decode cX2_reads 109 = .ok (.getfield 19, 3) := by decide +kernel
theorem dX2_reads_112 : decode cX2_reads 112 = .ok (.iconst 1, 1) := by decide +kernel
theorem dX2_reads_113 : decode cX2_reads 113 = .ok (.iadd, 1) := by decide +kernel
theorem dX2_reads_114 : decode cX2_reads 114 = .ok (.putfield 19, 3) := by decide +kernel
theorem dX2_reads_117 : decode cX2_reads 117 = .ok (.iconst (-1), 1) := by decide +kernel
theorem dX2_reads_118 : decode cX2_reads 118 = .ok (.ireturn, 1) := by decide +kernel
theorem dX2_readsNumber_0 : decode cX2_readsNumber 0 = .ok (.aload_n 0, 1) := by decide +kernel
theorem dX2_readsNumber_1 : decode cX2_readsNumber 1 = .ok (.invokevirtual 32, 3) := by decide +kernel
theorem dX2_readsNumber_4 : decode cX2_readsNumber 4 = .ok (.bipush 45, 2) := by decide +kernel
theorem dX2_readsNumber_6 : decode cX2_readsNumber 6 = .ok (.if_icmp .ne 7, 3) := by decide +kernel
theorem dX2_readsNumber_9 : decode cX2_readsNumber 9 = .ok (.iconst 1, 1) := by decide +kernel
theorem dX2_readsNumber_10 : decode cX2_readsNumber 10 = .ok (.goto 4, 3) := by decide +kernel
theorem dX2_readsNumber_13 : decode cX2_readsNumber 13 = .ok (.iconst 0, 1) := by decide +kernel
theorem dX2_readsNumber_14 : decode cX2_readsNumber 14 = .ok (.istore_n 1, 1) := by decide +kernel
theorem dX2_readsNumber_15 : decode cX2_readsNumber 15 = .ok (.iload_n 1, 1) := by decide +kernel
theorem dX2_readsNumber_16 : decode cX2_readsNumber 16 = .ok (.ifCond .eq 13, 3) := by decide +kernel
theorem dX2_readsNumber_19 : decode cX2_readsNumber 19 = .ok (.aload_n 0, 1) := by decide +kernel
theorem dX2_readsNumber_20 : decode cX2_readsNumber 20 = .ok (.dup, 1) := by decide +kernel
theorem dX2_readsNumber_21 : decode cX2_readsNumber 21 = .ok (.getfield 19, 3) := by decide +kernel
theorem dX2_readsNumber_24 : decode cX2_readsNumber 24 = .ok (.iconst 1, 1) := by decide +kernel
theorem dX2_readsNumber_25 : decode cX2_readsNumber 25 = .ok (.iadd, 1) := by decide +kernel
theorem dX2_readsNumber_26 : decode cX2_readsNumber 26 = .ok (.putfield 19, 3) := by decide +kernel
theorem dX2_readsNumber_29 : decode cX2_readsNumber 29 = .ok (.iconst 0, 1) := by decide +kernel
theorem dX2_readsNumber_30 : decode cX2_readsNumber 30 = .ok (.istore_n 2, 1) := by decide +kernel
theorem dX2_readsNumber_31 : decode cX2_readsNumber 31 = .ok (.iconst 0, 1) := by decide +kernel
theorem dX2_readsNumber_32 : decode cX2_readsNumber 32 = .ok (.istore_n 3, 1) := by decide +kernel
theorem dX2_readsNumber_33 : decode cX2_readsNumber 33 = .ok (.iload_n 3, 1) := by decide +kernel
theorem dX2_readsNumber_34 : decode cX2_readsNumber 34 = .ok (.iconst 3, 1) := by decide +kernel
theorem dX2_readsNumber_35 : decode cX2_readsNumber 35 = .ok (.if_icmp .gt 46, 3) := by decide +kernel
theorem dX2_readsNumber_38 : decode cX2_readsNumber 38 = .ok (.aload_n 0, 1) := by decide +kernel
theorem dX2_readsNumber_39 : decode cX2_readsNumber 39 = .ok (.invokevirtual 32, 3) := by decide +kernel
theorem dX2_readsNumber_42 : decode cX2_readsNumber 42 = .ok (.bipush 48, 2) := by decide +kernel
theorem dX2_readsNumber_44 : decode cX2_readsNumber 44 = .ok (.bipush 57, 2) := by decide +kernel
theorem dX2_readsNumber_46 : decode cX2_readsNumber 46 = .ok (.invokestatic 76, 3) := by decide +kernel
theorem dX2_readsNumber_49 : decode cX2_readsNumber 49 = .ok (.ifCond .eq 32, 3) := by decide +kernel
theorem dX2_readsNumber_52 : decode cX2_readsNumber 52 = .ok (.bipush 10, 2) := by decide +kernel
theorem dX2_readsNumber_54 : decode cX2_readsNumber 54 = .ok (.iload_n 2, 1) := by decide +kernel
theorem dX2_readsNumber_55 : decode cX2_readsNumber 55 = .ok (.imul, 1) := by decide +kernel
theorem dX2_readsNumber_56 : decode cX2_readsNumber 56 = .ok (.aload_n 0, 1) := by decide +kernel
theorem dX2_readsNumber_57 : decode cX2_readsNumber 57 = .ok (.invokevirtual 32, 3) := by decide +kernel
theorem dX2_readsNumber_60 : decode cX2_readsNumber 60 = .ok (.iadd, 1) := by decide +kernel
theorem dX2_readsNumber_61 : decode cX2_readsNumber 61 = .ok (.bipush 48, 2) := by decide +kernel
theorem dX2_readsNumber_63 : decode cX2_readsNumber 63 = .ok (.isub, 1) := by decide +kernel
theorem dX2_readsNumber_64 : decode cX2_readsNumber 64 = .ok (.istore_n 2, 1) := by decide +kernel
theorem dX2_readsNumber_65 : decode cX2_readsNumber 65 = .ok (.iinc 3 1, 3) := by decide +kernel
theorem dX2_readsNumber_68 : decode cX2_readsNumber 68 = .ok (.aload_n 0, 1) := by decide +kernel
theorem dX2_readsNumber_69 : decode cX2_readsNumber 69 = .ok (.dup, 1) := by decide +kernel
theorem dX2_readsNumber_70 : decode cX2_readsNumber 70 = .ok (.getfield 19, 3) := by decide +kernel
theorem dX2_readsNumber_73 : decode cX2_readsNumber 73 = .ok (.iconst 1, 1) := by decide +kernel
theorem dX2_readsNumber_74 : decode cX2_readsNumber 74 = .ok (.iadd, 1) := by decide +kernel
theorem dX2_readsNumber_75 : decode cX2_readsNumber 75 = .ok (.putfield 19, 3) := by decide +kernel
theorem dX2_readsNumber_78 : decode cX2_readsNumber 78 = .ok (.goto (-45), 3) := by decide +kernel
theorem dX2_readsNumber_81 : decode cX2_readsNumber 81 = .ok (.aload_n 0, 1) := by decide +kernel
theorem dX2_readsNumber_82 : decode cX2_readsNumber 82 = .ok (.iload_n 1, 1) := by decide +kernel
theorem dX2_readsNumber_83 : decode cX2_readsNumber 83 = .ok (.ifCond .eq 8, 3) := by decide +kernel
theorem dX2_readsNumber_86 : decode cX2_readsNumber 86 = .ok (.iload_n 2, 1) := by decide +kernel
theorem dX2_readsNumber_87 : decode cX2_readsNumber 87 = .ok (.ineg, 1) := by decide +kernel
theorem dX2_readsNumber_88 : decode cX2_readsNumber 88 = .ok (.goto 4, 3) := by decide +kernel
theorem dX2_readsNumber_91 : decode cX2_readsNumber 91 = .ok (.iload_n 2, 1) := by decide +kernel
theorem dX2_readsNumber_92 : decode cX2_readsNumber 92 = .ok (.putfield 65, 3) := by decide +kernel
theorem dX2_readsNumber_95 : decode cX2_readsNumber 95 = .ok (.iload_n 3, 1) := by decide +kernel
theorem dX2_readsNumber_96 : decode cX2_readsNumber 96 = .ok (.iconst 1, 1) := by decide +kernel
theorem dX2_readsNumber_97 : decode cX2_readsNumber 97 = .ok (.iconst 3, 1) := by decide +kernel
theorem dX2_readsNumber_98 : decode cX2_readsNumber 98 = .ok (.invokestatic 76, 3) := by decide +kernel
theorem dX2_readsNumber_101 : decode cX2_readsNumber 101 = .ok (.ireturn, 1) := by decide +kernel
theorem dX2_skipsBlanks_0 : decode cX2_skipsBlanks 0 = .ok (.aload_n 0, 1) := by decide +kernel
theorem dX2_skipsBlanks_1 : decode cX2_skipsBlanks 1 = .ok (.getfield 19, 3) := by decide +kernel
theorem dX2_skipsBlanks_4 : decode cX2_skipsBlanks 4 = .ok (.aload_n 0, 1) := by decide +kernel
theorem dX2_skipsBlanks_5 : decode cX2_skipsBlanks 5 = .ok (.getfield 15, 3) := by decide +kernel
theorem dX2_skipsBlanks_8 : decode cX2_skipsBlanks 8 = .ok (.if_icmp .ge 25, 3) := by decide +kernel
theorem dX2_skipsBlanks_11 : decode cX2_skipsBlanks 11 = .ok (.aload_n 0, 1) := by decide +kernel
theorem dX2_skipsBlanks_12 : decode cX2_skipsBlanks 12 = .ok (.invokevirtual 32, 3) := by decide +kernel
theorem dX2_skipsBlanks_15 : decode cX2_skipsBlanks 15 = .ok (.bipush 32, 2) := by decide +kernel
theorem dX2_skipsBlanks_17 : decode cX2_skipsBlanks 17 = .ok (.if_icmp .ne 16, 3) := by decide +kernel
theorem dX2_skipsBlanks_20 : decode cX2_skipsBlanks 20 = .ok (.aload_n 0, 1) := by decide +kernel
theorem dX2_skipsBlanks_21 : decode cX2_skipsBlanks 21 = .ok (.dup, 1) := by decide +kernel
theorem dX2_skipsBlanks_22 : decode cX2_skipsBlanks 22 = .ok (.getfield 19, 3) := by decide +kernel
theorem dX2_skipsBlanks_25 : decode cX2_skipsBlanks 25 = .ok (.iconst 1, 1) := by decide +kernel
theorem dX2_skipsBlanks_26 : decode cX2_skipsBlanks 26 = .ok (.iadd, 1) := by decide +kernel
theorem dX2_skipsBlanks_27 : decode cX2_skipsBlanks 27 = .ok (.putfield 19, 3) := by decide +kernel
theorem dX2_skipsBlanks_30 : decode cX2_skipsBlanks 30 = .ok (.goto (-30), 3) := by decide +kernel
theorem dX2_skipsBlanks_33 : decode cX2_skipsBlanks 33 = .ok (.return_, 1) := by decide +kernel
theorem dX2_byteHere_0 : decode cX2_byteHere 0 = .ok (.aload_n 0, 1) := by decide +kernel
theorem dX2_byteHere_1 : decode cX2_byteHere 1 = .ok (.getfield 19, 3) := by decide +kernel
theorem dX2_byteHere_4 : decode cX2_byteHere 4 = .ok (.iconst 0, 1) := by decide +kernel
theorem dX2_byteHere_5 : decode cX2_byteHere 5 = .ok (.aload_n 0, 1) := by decide +kernel
theorem dX2_byteHere_6 : decode cX2_byteHere 6 = .ok (.getfield 15, 3) := by decide +kernel
theorem dX2_byteHere_9 : decode cX2_byteHere 9 = .ok (.iconst 1, 1) := by decide +kernel
theorem dX2_byteHere_10 : decode cX2_byteHere 10 = .ok (.isub, 1) := by decide +kernel
theorem dX2_byteHere_11 : decode cX2_byteHere 11 = .ok (.invokestatic 76, 3) := by decide +kernel
theorem dX2_byteHere_14 : decode cX2_byteHere 14 = .ok (.ifCond .eq 15, 3) := by decide +kernel
theorem dX2_byteHere_17 : decode cX2_byteHere 17 = .ok (.aload_n 0, 1) := by decide +kernel
theorem dX2_byteHere_18 : decode cX2_byteHere 18 = .ok (.getfield 9, 3) := by decide +kernel
theorem dX2_byteHere_21 : decode cX2_byteHere 21 = .ok (.aload_n 0, 1) := by decide +kernel
theorem dX2_byteHere_22 : decode cX2_byteHere 22 = .ok (.getfield 19, 3) := by decide +kernel
theorem dX2_byteHere_25 : decode cX2_byteHere 25 = .ok (.baload, 1) := by decide +kernel
theorem dX2_byteHere_26 : decode cX2_byteHere 26 = .ok (.goto 4, 3) := by decide +kernel
theorem dX2_byteHere_29 : decode cX2_byteHere 29 = .ok (.iconst (-1), 1) := by decide +kernel
theorem dX2_byteHere_30 : decode cX2_byteHere 30 = .ok (.ireturn, 1) := by decide +kernel
theorem dX2_openingsAfter_0 : decode cX2_openingsAfter 0 = .ok (.aload_n 0, 1) := by decide +kernel
theorem dX2_openingsAfter_1 : decode cX2_openingsAfter 1 = .ok (.getfield 80, 3) := by decide +kernel
theorem dX2_openingsAfter_4 : decode cX2_openingsAfter 4 = .ok (.lookupswitch 34 #[(107, 32), (111, 28)], 28) := by decide +kernel
theorem dX2_openingsAfter_32 : decode cX2_openingsAfter 32 = .ok (.iload_n 1, 1) := by decide +kernel
theorem dX2_openingsAfter_33 : decode cX2_openingsAfter 33 = .ok (.iconst 1, 1) := by decide +kernel
theorem dX2_openingsAfter_34 : decode cX2_openingsAfter 34 = .ok (.iadd, 1) := by decide +kernel
theorem dX2_openingsAfter_35 : decode cX2_openingsAfter 35 = .ok (.ireturn, 1) := by decide +kernel
theorem dX2_openingsAfter_36 : decode cX2_openingsAfter 36 = .ok (.iconst 0, 1) := by decide +kernel
theorem dX2_openingsAfter_37 : decode cX2_openingsAfter 37 = .ok (.ireturn, 1) := by decide +kernel
theorem dX2_openingsAfter_38 : decode cX2_openingsAfter 38 = .ok (.iload_n 1, 1) := by decide +kernel
theorem dX2_openingsAfter_39 : decode cX2_openingsAfter 39 = .ok (.ireturn, 1) := by decide +kernel
theorem dX3_init_0 : decode cX3_init 0 = .ok (.aload_n 0, 1) := by decide +kernel
theorem dX3_init_1 : decode cX3_init 1 = .ok (.invokespecial 3, 3) := by decide +kernel
theorem dX3_init_4 : decode cX3_init 4 = .ok (.aload_n 0, 1) := by decide +kernel
theorem dX3_init_5 : decode cX3_init 5 = .ok (.bipush 24, 2) := by decide +kernel
theorem dX3_init_7 : decode cX3_init 7 = .ok (.newarray .int, 2) := by decide +kernel
theorem dX3_init_9 : decode cX3_init 9 = .ok (.putfield 9, 3) := by decide +kernel
theorem dX3_init_12 : decode cX3_init 12 = .ok (.aload_n 0, 1) := by decide +kernel
theorem dX3_init_13 : decode cX3_init 13 = .ok (.bipush 24, 2) := by decide +kernel
theorem dX3_init_15 : decode cX3_init 15 = .ok (.newarray .int, 2) := by decide +kernel
theorem dX3_init_17 : decode cX3_init 17 = .ok (.putfield 15, 3) := by decide +kernel
theorem dX3_init_20 : decode cX3_init 20 = .ok (.aload_n 0, 1) := by decide +kernel
theorem dX3_init_21 : decode cX3_init 21 = .ok (.aload_n 1, 1) := by decide +kernel
theorem dX3_init_22 : decode cX3_init 22 = .ok (.putfield 18, 3) := by decide +kernel
theorem dX3_init_25 : decode cX3_init 25 = .ok (.aload_n 0, 1) := by decide +kernel
theorem dX3_init_26 : decode cX3_init 26 = .ok (.aload_n 2, 1) := by decide +kernel
theorem dX3_init_27 : decode cX3_init 27 = .ok (.putfield 22, 3) := by decide +kernel
theorem dX3_init_30 : decode cX3_init 30 = .ok (.return_, 1) := by decide +kernel
theorem dX3_performs_0 : decode cX3_performs 0 = .ok (.aload_n 1, 1) := by decide +kernel
theorem dX3_performs_1 : decode cX3_performs 1 = .ok (.getfield 26, 3) := by decide +kernel
theorem dX3_performs_4 : decode cX3_performs 4 = .ok (.tableswitch 163 99 114 #[118, 163, 163, 92, 163, 163, 163, 163, 153, 86, 80, 163, 124, 163, 163, 112], 80) := by decide +kernel
theorem dX3_performs_84 : decode cX3_performs 84 = .ok (.aload_n 0, 1) := by decide +kernel
theorem dX3_performs_85 : decode cX3_performs 85 = .ok (.aload_n 1, 1) := by decide +kernel
theorem dX3_performs_86 : decode cX3_performs 86 = .ok (.invokevirtual 32, 3) := by decide +kernel
theorem dX3_performs_89 : decode cX3_performs 89 = .ok (.ireturn, 1) := by decide +kernel
theorem dX3_performs_90 : decode cX3_performs 90 = .ok (.aload_n 0, 1) := by decide +kernel
theorem dX3_performs_91 : decode cX3_performs 91 = .ok (.aload_n 1, 1) := by decide +kernel
theorem dX3_performs_92 : decode cX3_performs 92 = .ok (.invokevirtual 36, 3) := by decide +kernel
theorem dX3_performs_95 : decode cX3_performs 95 = .ok (.ireturn, 1) := by decide +kernel
theorem dX3_performs_96 : decode cX3_performs 96 = .ok (.aload_n 0, 1) := by decide +kernel
theorem dX3_performs_97 : decode cX3_performs 97 = .ok (.aload_n 1, 1) := by decide +kernel
theorem dX3_performs_98 : decode cX3_performs 98 = .ok (.iconst 0, 1) := by decide +kernel
theorem dX3_performs_99 : decode cX3_performs 99 = .ok (.invokevirtual 39, 3) := by decide +kernel
theorem dX3_performs_102 : decode cX3_performs 102 = .ok (.aload_n 1, 1) := by decide +kernel
theorem dX3_performs_103 : decode cX3_performs 103 = .ok (.iconst 1, 1) := by decide +kernel
theorem dX3_performs_104 : decode cX3_performs 104 = .ok (.invokevirtual 39, 3) := by decide +kernel
theorem dX3_performs_107 : decode cX3_performs 107 = .ok (.aload_n 1, 1) := by decide +kernel
theorem dX3_performs_108 : decode cX3_performs 108 = .ok (.iconst 2, 1) := by decide +kernel
theorem dX3_performs_109 : decode cX3_performs 109 = .ok (.invokevirtual 39, 3) := by decide +kernel
theorem dX3_performs_112 : decode cX3_performs 112 = .ok (.invokevirtual 43, 3) := by decide +kernel
theorem dX3_performs_115 : decode cX3_performs 115 = .ok (.ireturn, 1) := by decide +kernel
theorem dX3_performs_116 : decode cX3_performs 116 = .ok (.aload_n 0, 1) := by decide +kernel
theorem dX3_performs_117 : decode cX3_performs 117 = .ok (.aload_n 1, 1) := by decide +kernel
theorem dX3_performs_118 : decode cX3_performs 118 = .ok (.invokevirtual 47, 3) := by decide +kernel
theorem dX3_performs_121 : decode cX3_performs 121 = .ok (.ireturn, 1) := by decide +kernel
theorem dX3_performs_122 : decode cX3_performs 122 = .ok (.aload_n 0, 1) := by decide +kernel
theorem dX3_performs_123 : decode cX3_performs 123 = .ok (.aload_n 1, 1) := by decide +kernel
theorem dX3_performs_124 : decode cX3_performs 124 = .ok (.invokevirtual 50, 3) := by decide +kernel
theorem dX3_performs_127 : decode cX3_performs 127 = .ok (.ireturn, 1) := by decide +kernel
theorem dX3_performs_128 : decode cX3_performs 128 = .ok (.aload_n 0, 1) := by decide +kernel
theorem dX3_performs_129 : decode cX3_performs 129 = .ok (.getfield 18, 3) := by decide +kernel
theorem dX3_performs_132 : decode cX3_performs 132 = .ok (.aload_n 1, 1) := by decide +kernel
theorem dX3_performs_133 : decode cX3_performs 133 = .ok (.iconst 0, 1) := by decide +kernel
theorem dX3_performs_134 : decode cX3_performs 134 = .ok (.invokevirtual 39, 3) := by decide +kernel
theorem dX3_performs_137 : decode cX3_performs 137 = .ok (.aload_n 1, 1) := by decide +kernel
theorem dX3_performs_138 : decode cX3_performs 138 = .ok (.iconst 1, 1) := by decide +kernel
theorem dX3_performs_139 : decode cX3_performs 139 = .ok (.invokevirtual 39, 3) := by decide +kernel
theorem dX3_performs_142 : decode cX3_performs 142 = .ok (.aload_n 1, 1) := by decide +kernel
theorem dX3_performs_143 : decode cX3_performs 143 = .ok (.iconst 2, 1) := by decide +kernel
theorem dX3_performs_144 : decode cX3_performs 144 = .ok (.invokevirtual 39, 3) := by decide +kernel
theorem dX3_performs_147 : decode cX3_performs 147 = .ok (.aload_n 1, 1) := by decide +kernel
theorem dX3_performs_148 : decode cX3_performs 148 = .ok (.iconst 3, 1) := by decide +kernel
theorem dX3_performs_149 : decode cX3_performs 149 = .ok (.invokevirtual 39, 3) := by decide +kernel
theorem dX3_performs_152 : decode cX3_performs 152 = .ok (.invokevirtual 53, 3) := by decide +kernel
theorem dX3_performs_155 : decode cX3_performs 155 = .ok (.iconst 0, 1) := by decide +kernel
theorem dX3_performs_156 : decode cX3_performs 156 = .ok (.ireturn, 1) := by decide +kernel
theorem dX3_performs_157 : decode cX3_performs 157 = .ok (.aload_n 0, 1) := by decide +kernel
theorem dX3_performs_158 : decode cX3_performs 158 = .ok (.getfield 18, 3) := by decide +kernel
theorem dX3_performs_161 : decode cX3_performs 161 = .ok (.iconst 0, 1) := by decide +kernel
theorem dX3_performs_162 : decode cX3_performs 162 = .ok (.putfield 59, 3) := by decide +kernel
theorem dX3_performs_165 : decode cX3_performs 165 = .ok (.iconst 0, 1) := by decide +kernel
theorem dX3_performs_166 : decode cX3_performs 166 = .ok (.ireturn, 1) := by decide +kernel
theorem dX3_performs_167 : decode cX3_performs 167 = .ok (.iconst 0, 1) := by decide +kernel
theorem dX3_performs_168 : decode cX3_performs 168 = .ok (.ireturn, 1) := by decide +kernel
theorem dX3_movesBlock_0 : decode cX3_movesBlock 0 = .ok (.aload_n 0, 1) := by decide +kernel
theorem dX3_movesBlock_1 : decode cX3_movesBlock 1 = .ok (.aload_n 1, 1) := by decide +kernel
theorem dX3_movesBlock_2 : decode cX3_movesBlock 2 = .ok (.iconst 0, 1) := by decide +kernel
theorem dX3_movesBlock_3 : decode cX3_movesBlock 3 = .ok (.invokevirtual 39, 3) := by decide +kernel
theorem dX3_movesBlock_6 : decode cX3_movesBlock 6 = .ok (.invokevirtual 62, 3) := by decide +kernel
theorem dX3_movesBlock_9 : decode cX3_movesBlock 9 = .ok (.aload_n 1, 1) := by decide +kernel
theorem dX3_movesBlock_10 : decode cX3_movesBlock 10 = .ok (.iconst 1, 1) := by decide +kernel
theorem dX3_movesBlock_11 : decode cX3_movesBlock 11 = .ok (.invokevirtual 39, 3) := by decide +kernel
theorem dX3_movesBlock_14 : decode cX3_movesBlock 14 = .ok (.istore_n 2, 1) := by decide +kernel
theorem dX3_movesBlock_15 : decode cX3_movesBlock 15 = .ok (.aload_n 1, 1) := by decide +kernel
theorem dX3_movesBlock_16 : decode cX3_movesBlock 16 = .ok (.iconst 2, 1) := by decide +kernel
theorem dX3_movesBlock_17 : decode cX3_movesBlock 17 = .ok (.invokevirtual 39, 3) := by decide +kernel
theorem dX3_movesBlock_20 : decode cX3_movesBlock 20 = .ok (.istore_n 3, 1) := by decide +kernel
theorem dX3_movesBlock_21 : decode cX3_movesBlock 21 = .ok (.aload_n 1, 1) := by decide +kernel
theorem dX3_movesBlock_22 : decode cX3_movesBlock 22 = .ok (.iconst 4, 1) := by decide +kernel
theorem dX3_movesBlock_23 : decode cX3_movesBlock 23 = .ok (.invokevirtual 39, 3) := by decide +kernel
theorem dX3_movesBlock_26 : decode cX3_movesBlock 26 = .ok (.istore 4, 2) := by decide +kernel
theorem dX3_movesBlock_28 : decode cX3_movesBlock 28 = .ok (.aload_n 1, 1) := by decide +kernel
theorem dX3_movesBlock_29 : decode cX3_movesBlock 29 = .ok (.iconst 5, 1) := by decide +kernel
theorem dX3_movesBlock_30 : decode cX3_movesBlock 30 = .ok (.invokevirtual 39, 3) := by decide +kernel
theorem dX3_movesBlock_33 : decode cX3_movesBlock 33 = .ok (.istore 5, 2) := by decide +kernel
theorem dX3_movesBlock_35 : decode cX3_movesBlock 35 = .ok (.aload_n 1, 1) := by decide +kernel
theorem dX3_movesBlock_36 : decode cX3_movesBlock 36 = .ok (.bipush 6, 2) := by decide +kernel
theorem dX3_movesBlock_38 : decode cX3_movesBlock 38 = .ok (.invokevirtual 39, 3) := by decide +kernel
theorem dX3_movesBlock_41 : decode cX3_movesBlock 41 = .ok (.istore 6, 2) := by decide +kernel
theorem dX3_movesBlock_43 : decode cX3_movesBlock 43 = .ok (.aload_n 1, 1) := by decide +kernel
theorem dX3_movesBlock_44 : decode cX3_movesBlock 44 = .ok (.bipush 7, 2) := by decide +kernel
theorem dX3_movesBlock_46 : decode cX3_movesBlock 46 = .ok (.invokevirtual 39, 3) := by decide +kernel
theorem dX3_movesBlock_49 : decode cX3_movesBlock 49 = .ok (.istore 7, 2) := by decide +kernel
theorem dX3_movesBlock_51 : decode cX3_movesBlock 51 = .ok (.iload 6, 2) := by decide +kernel
theorem dX3_movesBlock_53 : decode cX3_movesBlock 53 = .ok (.aload_n 1, 1) := by decide +kernel
theorem dX3_movesBlock_54 : decode cX3_movesBlock 54 = .ok (.iconst 3, 1) := by decide +kernel
theorem dX3_movesBlock_55 : decode cX3_movesBlock 55 = .ok (.invokevirtual 39, 3) := by decide +kernel
theorem dX3_movesBlock_58 : decode cX3_movesBlock 58 = .ok (.invokestatic 66, 3) := by decide +kernel
theorem dX3_movesBlock_61 : decode cX3_movesBlock 61 = .ok (.istore 8, 2) := by decide +kernel
theorem dX3_movesBlock_63 : decode cX3_movesBlock 63 = .ok (.iconst 0, 1) := by decide +kernel
theorem dX3_movesBlock_64 : decode cX3_movesBlock 64 = .ok (.istore 9, 2) := by decide +kernel
theorem dX3_movesBlock_66 : decode cX3_movesBlock 66 = .ok (.iconst 0, 1) := by decide +kernel
theorem dX3_movesBlock_67 : decode cX3_movesBlock 67 = .ok (.istore 10, 2) := by decide +kernel
theorem dX3_movesBlock_69 : decode cX3_movesBlock 69 = .ok (.iload 10, 2) := by decide +kernel
theorem dX3_movesBlock_71 : decode cX3_movesBlock 71 = .ok (.iload 4, 2) := by decide +kernel
theorem dX3_movesBlock_73 : decode cX3_movesBlock 73 = .ok (.if_icmp .ge 62, 3) := by decide +kernel
theorem dX3_movesBlock_76 : decode cX3_movesBlock 76 = .ok (.iload 10, 2) := by decide +kernel
theorem dX3_movesBlock_78 : decode cX3_movesBlock 78 = .ok (.bipush 64, 2) := by decide +kernel
theorem dX3_movesBlock_80 : decode cX3_movesBlock 80 = .ok (.if_icmp .ge 55, 3) := by decide +kernel
theorem dX3_movesBlock_83 : decode cX3_movesBlock 83 = .ok (.aload_n 0, 1) := by decide +kernel
theorem dX3_movesBlock_84 : decode cX3_movesBlock 84 = .ok (.iload_n 3, 1) := by decide +kernel
theorem dX3_movesBlock_85 : decode cX3_movesBlock 85 = .ok (.iload 10, 2) := by decide +kernel
theorem dX3_movesBlock_87 : decode cX3_movesBlock 87 = .ok (.iadd, 1) := by decide +kernel
theorem dX3_movesBlock_88 : decode cX3_movesBlock 88 = .ok (.invokevirtual 70, 3) := by decide +kernel
theorem dX3_movesBlock_91 : decode cX3_movesBlock 91 = .ok (.iload 6, 2) := by decide +kernel
theorem dX3_movesBlock_93 : decode cX3_movesBlock 93 = .ok (.iload_n 2, 1) := by decide +kernel
theorem dX3_movesBlock_94 : decode cX3_movesBlock 94 = .ok (.isub, 1) := by decide +kernel
theorem dX3_movesBlock_95 : decode cX3_movesBlock 95 = .ok (.invokestatic 73, 3) := by decide +kernel
theorem dX3_movesBlock_98 : decode cX3_movesBlock 98 = .ok (.istore 11, 2) := by decide +kernel
theorem dX3_movesBlock_100 : decode cX3_movesBlock 100 = .ok (.iload 9, 2) := by decide +kernel
theorem dX3_movesBlock_102 : decode cX3_movesBlock 102 = .ok (.aload_n 0, 1) := by decide +kernel
theorem dX3_movesBlock_103 : decode cX3_movesBlock 103 = .ok (.getfield 18, 3) := by decide +kernel
theorem dX3_movesBlock_106 : decode cX3_movesBlock 106 = .ok (.iload 5, 2) := by decide +kernel
theorem dX3_movesBlock_108 : decode cX3_movesBlock 108 = .ok (.iload 7, 2) := by decide +kernel
theorem dX3_movesBlock_110 : decode cX3_movesBlock 110 = .ok (.iload 10, 2) := by decide +kernel
theorem dX3_movesBlock_112 : decode cX3_movesBlock 112 = .ok (.iadd, 1) := by decide +kernel
theorem dX3_movesBlock_113 : decode cX3_movesBlock 113 = .ok (.iload 8, 2) := by decide +kernel
theorem dX3_movesBlock_115 : decode cX3_movesBlock 115 = .ok (.iload 11, 2) := by decide +kernel
theorem dX3_movesBlock_117 : decode cX3_movesBlock 117 = .ok (.aload_n 1, 1) := by decide +kernel
theorem dX3_movesBlock_118 : decode cX3_movesBlock 118 = .ok (.bipush 8, 2) := by decide +kernel
theorem dX3_movesBlock_120 : decode cX3_movesBlock 120 = .ok (.invokevirtual 39, 3) := by decide +kernel
theorem dX3_movesBlock_123 : decode cX3_movesBlock 123 = .ok (.invokevirtual 76, 3) := by decide +kernel
theorem dX3_movesBlock_126 : decode cX3_movesBlock 126 = .ok (.iadd, 1) := by decide +kernel
theorem dX3_movesBlock_127 : decode cX3_movesBlock 127 = .ok (.istore 9, 2) := by decide +kernel
theorem dX3_movesBlock_129 : decode cX3_movesBlock 129 = .ok (.iinc 10 1, 3) := by decide +kernel
theorem dX3_movesBlock_132 : decode cX3_movesBlock 132 = .ok (.goto (-63), 3) := by decide +kernel
theorem dX3_movesBlock_135 : decode cX3_movesBlock 135 = .ok (.iload 9, 2) := by decide +kernel
theorem dX3_movesBlock_137 : decode cX3_movesBlock 137 = .ok (.ireturn, 1) := by decide +kernel
theorem dX3_keepsSource_0 : decode cX3_keepsSource 0 = .ok (.iconst 0, 1) := by decide +kernel
theorem dX3_keepsSource_1 : decode cX3_keepsSource 1 = .ok (.istore_n 2, 1) := by decide +kernel
theorem dX3_keepsSource_2 : decode cX3_keepsSource 2 = .ok (.iload_n 2, 1) := by decide +kernel
theorem dX3_keepsSource_3 : decode cX3_keepsSource 3 = .ok (.bipush 24, 2) := by decide +kernel
theorem dX3_keepsSource_5 : decode cX3_keepsSource 5 = .ok (.if_icmp .ge 24, 3) := by decide +kernel
theorem dX3_keepsSource_8 : decode cX3_keepsSource 8 = .ok (.aload_n 0, 1) := by decide +kernel
theorem dX3_keepsSource_9 : decode cX3_keepsSource 9 = .ok (.getfield 9, 3) := by decide +kernel
theorem dX3_keepsSource_12 : decode cX3_keepsSource 12 = .ok (.iload_n 2, 1) := by decide +kernel
theorem dX3_keepsSource_13 : decode cX3_keepsSource 13 = .ok (.aload_n 0, 1) := by decide +kernel
theorem dX3_keepsSource_14 : decode cX3_keepsSource 14 = .ok (.getfield 18, 3) := by decide +kernel
theorem dX3_keepsSource_17 : decode cX3_keepsSource 17 = .ok (.iload_n 1, 1) := by decide +kernel
theorem dX3_keepsSource_18 : decode cX3_keepsSource 18 = .ok (.iload_n 2, 1) := by decide +kernel
theorem dX3_keepsSource_19 : decode cX3_keepsSource 19 = .ok (.invokevirtual 80, 3) := by decide +kernel
theorem dX3_keepsSource_22 : decode cX3_keepsSource 22 = .ok (.iastore, 1) := by decide +kernel
theorem dX3_keepsSource_23 : decode cX3_keepsSource 23 = .ok (.iinc 2 1, 3) := by decide +kernel
theorem dX3_keepsSource_26 : decode cX3_keepsSource 26 = .ok (.goto (-24), 3) := by decide +kernel
theorem dX3_keepsSource_29 : decode cX3_keepsSource 29 = .ok (.return_, 1) := by decide +kernel
theorem dX3_sourceAt_0 : decode cX3_sourceAt 0 = .ok (.iload_n 1, 1) := by decide +kernel
theorem dX3_sourceAt_1 : decode cX3_sourceAt 1 = .ok (.iconst 0, 1) := by decide +kernel
theorem dX3_sourceAt_2 : decode cX3_sourceAt 2 = .ok (.bipush 23, 2) := by decide +kernel
theorem dX3_sourceAt_4 : decode cX3_sourceAt 4 = .ok (.invokestatic 83, 3) := by decide +kernel
theorem dX3_sourceAt_7 : decode cX3_sourceAt 7 = .ok (.ifCond .eq 12, 3) := by decide +kernel
theorem dX3_sourceAt_10 : decode cX3_sourceAt 10 = .ok (.aload_n 0, 1) := by decide +kernel
theorem dX3_sourceAt_11 : decode cX3_sourceAt 11 = .ok (.getfield 9, 3) := by decide +kernel
theorem dX3_sourceAt_14 : decode cX3_sourceAt 14 = .ok (.iload_n 1, 1) := by decide +kernel
theorem dX3_sourceAt_15 : decode cX3_sourceAt 15 = .ok (.iaload, 1) := by decide +kernel
theorem dX3_sourceAt_16 : decode cX3_sourceAt 16 = .ok (.goto 4, 3) := by decide +kernel
theorem dX3_sourceAt_19 : decode cX3_sourceAt 19 = .ok (.iconst 0, 1) := by decide +kernel
theorem dX3_sourceAt_20 : decode cX3_sourceAt 20 = .ok (.ireturn, 1) := by decide +kernel
theorem dX3_drawsLine_0 : decode cX3_drawsLine 0 = .ok (.aload_n 1, 1) := by decide +kernel
theorem dX3_drawsLine_1 : decode cX3_drawsLine 1 = .ok (.iconst 1, 1) := by decide +kernel
theorem dX3_drawsLine_2 : decode cX3_drawsLine 2 = .ok (.invokevirtual 39, 3) := by decide +kernel
theorem dX3_drawsLine_5 : decode cX3_drawsLine 5 = .ok (.istore_n 2, 1) := by decide +kernel
theorem dX3_drawsLine_6 : decode cX3_drawsLine 6 = .ok (.aload_n 1, 1) := by decide +kernel
theorem dX3_drawsLine_7 : decode cX3_drawsLine 7 = .ok (.iconst 2, 1) := by decide +kernel
theorem dX3_drawsLine_8 : decode cX3_drawsLine 8 = .ok (.invokevirtual 39, 3) := by decide +kernel
theorem dX3_drawsLine_11 : decode cX3_drawsLine 11 = .ok (.istore_n 3, 1) := by decide +kernel
theorem dX3_drawsLine_12 : decode cX3_drawsLine 12 = .ok (.aload_n 1, 1) := by decide +kernel
theorem dX3_drawsLine_13 : decode cX3_drawsLine 13 = .ok (.iconst 3, 1) := by decide +kernel
theorem dX3_drawsLine_14 : decode cX3_drawsLine 14 = .ok (.invokevirtual 39, 3) := by decide +kernel
theorem dX3_drawsLine_17 : decode cX3_drawsLine 17 = .ok (.istore 4, 2) := by decide +kernel
theorem dX3_drawsLine_19 : decode cX3_drawsLine 19 = .ok (.aload_n 1, 1) := by decide +kernel
theorem dX3_drawsLine_20 : decode cX3_drawsLine 20 = .ok (.iconst 4, 1) := by decide +kernel
theorem dX3_drawsLine_21 : decode cX3_drawsLine 21 = .ok (.invokevirtual 39, 3) := by decide +kernel
theorem dX3_drawsLine_24 : decode cX3_drawsLine 24 = .ok (.istore 5, 2) := by decide +kernel
theorem dX3_drawsLine_26 : decode cX3_drawsLine 26 = .ok (.iload 4, 2) := by decide +kernel
theorem dX3_drawsLine_28 : decode cX3_drawsLine 28 = .ok (.iload_n 2, 1) := by decide +kernel
theorem dX3_drawsLine_29 : decode cX3_drawsLine 29 = .ok (.isub, 1) := by decide +kernel
theorem dX3_drawsLine_30 : decode cX3_drawsLine 30 = .ok (.invokestatic 87, 3) := by decide +kernel
theorem dX3_drawsLine_33 : decode cX3_drawsLine 33 = .ok (.iload 5, 2) := by decide +kernel
theorem dX3_drawsLine_35 : decode cX3_drawsLine 35 = .ok (.iload_n 3, 1) := by decide +kernel
theorem dX3_drawsLine_36 : decode cX3_drawsLine 36 = .ok (.isub, 1) := by decide +kernel
theorem dX3_drawsLine_37 : decode cX3_drawsLine 37 = .ok (.invokestatic 87, 3) := by decide +kernel
theorem dX3_drawsLine_40 : decode cX3_drawsLine 40 = .ok (.invokestatic 92, 3) := by decide +kernel
theorem dX3_drawsLine_43 : decode cX3_drawsLine 43 = .ok (.istore 6, 2) := by decide +kernel
theorem dX3_drawsLine_45 : decode cX3_drawsLine 45 = .ok (.iconst 0, 1) := by decide +kernel
theorem dX3_drawsLine_46 : decode cX3_drawsLine 46 = .ok (.istore 7, 2) := by decide +kernel
theorem dX3_drawsLine_48 : decode cX3_drawsLine 48 = .ok (.iconst 0, 1) := by decide +kernel
theorem dX3_drawsLine_49 : decode cX3_drawsLine 49 = .ok (.istore 8, 2) := by decide +kernel
theorem dX3_drawsLine_51 : decode cX3_drawsLine 51 = .ok (.iload 8, 2) := by decide +kernel
theorem dX3_drawsLine_53 : decode cX3_drawsLine 53 = .ok (.iload 6, 2) := by decide +kernel
theorem dX3_drawsLine_55 : decode cX3_drawsLine 55 = .ok (.if_icmp .gt 71, 3) := by decide +kernel
theorem dX3_drawsLine_58 : decode cX3_drawsLine 58 = .ok (.iload 8, 2) := by decide +kernel
theorem dX3_drawsLine_60 : decode cX3_drawsLine 60 = .ok (.bipush 127, 2) := by decide +kernel
theorem dX3_drawsLine_62 : decode cX3_drawsLine 62 = .ok (.if_icmp .gt 64, 3) := by decide +kernel
theorem dX3_drawsLine_65 : decode cX3_drawsLine 65 = .ok (.iload_n 2, 1) := by decide +kernel
theorem dX3_drawsLine_66 : decode cX3_drawsLine 66 = .ok (.iload 4, 2) := by decide +kernel
theorem dX3_drawsLine_68 : decode cX3_drawsLine 68 = .ok (.iload 8, 2) := by decide +kernel
theorem dX3_drawsLine_70 : decode cX3_drawsLine 70 = .ok (.iload 6, 2) := by decide +kernel
theorem dX3_drawsLine_72 : decode cX3_drawsLine 72 = .ok (.invokestatic 95, 3) := by decide +kernel
theorem dX3_drawsLine_75 : decode cX3_drawsLine 75 = .ok (.iconst 1, 1) := by decide +kernel
theorem dX3_drawsLine_76 : decode cX3_drawsLine 76 = .ok (.invokestatic 66, 3) := by decide +kernel
theorem dX3_drawsLine_79 : decode cX3_drawsLine 79 = .ok (.istore 9, 2) := by decide +kernel
theorem dX3_drawsLine_81 : decode cX3_drawsLine 81 = .ok (.iload_n 3, 1) := by decide +kernel
theorem dX3_drawsLine_82 : decode cX3_drawsLine 82 = .ok (.iload 5, 2) := by decide +kernel
theorem dX3_drawsLine_84 : decode cX3_drawsLine 84 = .ok (.iload 8, 2) := by decide +kernel
theorem dX3_drawsLine_86 : decode cX3_drawsLine 86 = .ok (.iload 6, 2) := by decide +kernel
theorem dX3_drawsLine_88 : decode cX3_drawsLine 88 = .ok (.invokestatic 95, 3) := by decide +kernel
theorem dX3_drawsLine_91 : decode cX3_drawsLine 91 = .ok (.istore 10, 2) := by decide +kernel
theorem dX3_drawsLine_93 : decode cX3_drawsLine 93 = .ok (.iload 7, 2) := by decide +kernel
theorem dX3_drawsLine_95 : decode cX3_drawsLine 95 = .ok (.aload_n 0, 1) := by decide +kernel
theorem dX3_drawsLine_96 : decode cX3_drawsLine 96 = .ok (.getfield 18, 3) := by decide +kernel
theorem dX3_drawsLine_99 : decode cX3_drawsLine 99 = .ok (.aload_n 1, 1) := by decide +kernel
theorem dX3_drawsLine_100 : decode cX3_drawsLine 100 = .ok (.iconst 0, 1) := by decide +kernel
theorem dX3_drawsLine_101 : decode cX3_drawsLine 101 = .ok (.invokevirtual 39, 3) := by decide +kernel
theorem dX3_drawsLine_104 : decode cX3_drawsLine 104 = .ok (.iload 10, 2) := by decide +kernel
theorem dX3_drawsLine_106 : decode cX3_drawsLine 106 = .ok (.iload 9, 2) := by decide +kernel
theorem dX3_drawsLine_108 : decode cX3_drawsLine 108 = .ok (.iconst (-1), 1) := by decide +kernel
theorem dX3_drawsLine_109 : decode cX3_drawsLine 109 = .ok (.aload_n 1, 1) := by decide +kernel
theorem dX3_drawsLine_110 : decode cX3_drawsLine 110 = .ok (.iconst 5, 1) := by decide +kernel
theorem dX3_drawsLine_111 : decode cX3_drawsLine 111 = .ok (.invokevirtual 39, 3) := by decide +kernel
theorem dX3_drawsLine_114 : decode cX3_drawsLine 114 = .ok (.invokevirtual 76, 3) := by decide +kernel
theorem dX3_drawsLine_117 : decode cX3_drawsLine 117 = .ok (.iadd, 1) := by decide +kernel
theorem dX3_drawsLine_118 : decode cX3_drawsLine 118 = .ok (.istore 7, 2) := by decide +kernel
theorem dX3_drawsLine_120 : decode cX3_drawsLine 120 = .ok (.iinc 8 1, 3) := by decide +kernel
theorem dX3_drawsLine_123 : decode cX3_drawsLine 123 = .ok (.goto (-72), 3) := by decide +kernel
theorem dX3_drawsLine_126 : decode cX3_drawsLine 126 = .ok (.iload 7, 2) := by decide +kernel
theorem dX3_drawsLine_128 : decode cX3_drawsLine 128 = .ok (.ireturn, 1) := by decide +kernel
theorem dX3_between_0 : decode cX3_between 0 = .ok (.iload_n 3, 1) := by decide +kernel
theorem dX3_between_1 : decode cX3_between 1 = .ok (.ifCond .gt 7, 3) := by decide +kernel
theorem dX3_between_4 : decode cX3_between 4 = .ok (.iload_n 0, 1) := by decide +kernel
theorem dX3_between_5 : decode cX3_between 5 = .ok (.goto 20, 3) := by decide +kernel
theorem dX3_between_8 : decode cX3_between 8 = .ok (.iload_n 0, 1) := by decide +kernel
theorem dX3_between_9 : decode cX3_between 9 = .ok (.iload_n 1, 1) := by decide +kernel
theorem dX3_between_10 : decode cX3_between 10 = .ok (.iload_n 0, 1) := by decide +kernel
theorem dX3_between_11 : decode cX3_between 11 = .ok (.isub, 1) := by decide +kernel
theorem dX3_between_12 : decode cX3_between 12 = .ok (.iconst 2, 1) := by decide +kernel
theorem dX3_between_13 : decode cX3_between 13 = .ok (.imul, 1) := by decide +kernel
theorem dX3_between_14 : decode cX3_between 14 = .ok (.iload_n 2, 1) := by decide +kernel
theorem dX3_between_15 : decode cX3_between 15 = .ok (.imul, 1) := by decide +kernel
theorem dX3_between_16 : decode cX3_between 16 = .ok (.iload_n 3, 1) := by decide +kernel
theorem dX3_between_17 : decode cX3_between 17 = .ok (.iadd, 1) := by decide +kernel
theorem dX3_between_18 : decode cX3_between 18 = .ok (.iconst 2, 1) := by decide +kernel
theorem dX3_between_19 : decode cX3_between 19 = .ok (.iload_n 3, 1) := by decide +kernel
theorem dX3_between_20 : decode cX3_between 20 = .ok (.imul, 1) := by decide +kernel
theorem dX3_between_21 : decode cX3_between 21 = .ok (.invokestatic 99, 3) := by decide +kernel
theorem dX3_between_24 : decode cX3_between 24 = .ok (.iadd, 1) := by decide +kernel
theorem dX3_between_25 : decode cX3_between 25 = .ok (.ireturn, 1) := by decide +kernel
theorem dX3_floods_0 : decode cX3_floods 0 = .ok (.aload_n 0, 1) := by decide +kernel
theorem dX3_floods_1 : decode cX3_floods 1 = .ok (.getfield 18, 3) := by decide +kernel
theorem dX3_floods_4 : decode cX3_floods 4 = .ok (.iload_n 2, 1) := by decide +kernel
theorem dX3_floods_5 : decode cX3_floods 5 = .ok (.iload_n 3, 1) := by decide +kernel
theorem dX3_floods_6 : decode cX3_floods 6 = .ok (.invokevirtual 102, 3) := by decide +kernel
theorem dX3_floods_9 : decode cX3_floods 9 = .ok (.ifCond .ne 5, 3) := by decide +kernel
theorem dX3_floods_12 : decode cX3_floods 12 = .ok (.iconst 0, 1) := by decide +kernel
theorem dX3_floods_13 : decode cX3_floods 13 = .ok (.ireturn, 1) := by decide +kernel
theorem dX3_floods_14 : decode cX3_floods 14 = .ok (.aload_n 0, 1) := by decide +kernel
theorem dX3_floods_15 : decode cX3_floods 15 = .ok (.getfield 18, 3) := by decide +kernel
theorem dX3_floods_18 : decode cX3_floods 18 = .ok (.iload_n 1, 1) := by decide +kernel
theorem dX3_floods_19 : decode cX3_floods 19 = .ok (.iload_n 2, 1) := by decide +kernel
theorem dX3_floods_20 : decode cX3_floods 20 = .ok (.iload_n 3, 1) := by decide +kernel
theorem dX3_floods_21 : decode cX3_floods 21 = .ok (.invokevirtual 106, 3) := by decide +kernel
theorem dX3_floods_24 : decode cX3_floods 24 = .ok (.iconst 1, 1) := by decide +kernel
theorem dX3_floods_25 : decode cX3_floods 25 = .ok (.if_icmp .ne 7, 3) := by decide +kernel
theorem dX3_floods_28 : decode cX3_floods 28 = .ok (.iconst 0, 1) := by decide +kernel
theorem dX3_floods_29 : decode cX3_floods 29 = .ok (.goto 4, 3) := by decide +kernel
theorem dX3_floods_32 : decode cX3_floods 32 = .ok (.iconst (-1), 1) := by decide +kernel
theorem dX3_floods_33 : decode cX3_floods 33 = .ok (.istore 4, 2) := by decide +kernel
theorem dX3_floods_35 : decode cX3_floods 35 = .ok (.iconst 0, 1) := by decide +kernel
theorem dX3_floods_36 : decode cX3_floods 36 = .ok (.istore 5, 2) := by decide +kernel
theorem dX3_floods_38 : decode cX3_floods 38 = .ok (.iload 5, 2) := by decide +kernel
theorem dX3_floods_40 : decode cX3_floods 40 = .ok (.bipush 24, 2) := by decide +kernel
theorem dX3_floods_42 : decode cX3_floods 42 = .ok (.if_icmp .ge 56, 3) := by decide +kernel
theorem dX3_floods_45 : decode cX3_floods 45 = .ok (.aload_n 0, 1) := by decide +kernel
theorem dX3_floods_46 : decode cX3_floods 46 = .ok (.getfield 15, 3) := by decide +kernel
theorem dX3_floods_49 : decode cX3_floods 49 = .ok (.iload 5, 2) := by decide +kernel
theorem dX3_floods_51 : decode cX3_floods 51 = .ok (.aload_n 0, 1) := by decide +kernel
theorem dX3_floods_52 : decode cX3_floods 52 = .ok (.getfield 18, 3) := by decide +kernel
theorem dX3_floods_55 : decode cX3_floods 55 = .ok (.iload_n 1, 1) := by decide +kernel
theorem dX3_floods_56 : decode cX3_floods 56 = .ok (.iload 5, 2) := by decide +kernel
theorem dX3_floods_58 : decode cX3_floods 58 = .ok (.invokevirtual 80, 3) := by decide +kernel
theorem dX3_floods_61 : decode cX3_floods 61 = .ok (.iload 4, 2) := by decide +kernel
theorem dX3_floods_63 : decode cX3_floods 63 = .ok (.ixor, 1) := by decide +kernel
theorem dX3_floods_64 : decode cX3_floods 64 = .ok (.aload_n 0, 1) := by decide +kernel
theorem dX3_floods_65 : decode cX3_floods 65 = .ok (.getfield 18, 3) := by decide +kernel
theorem dX3_floods_68 : decode cX3_floods 68 = .ok (.iload 5, 2) := by decide +kernel
theorem dX3_floods_70 : decode cX3_floods 70 = .ok (.invokevirtual 109, 3) := by decide +kernel
theorem dX3_floods_73 : decode cX3_floods 73 = .ok (.iand, 1) := by decide +kernel
theorem dX3_floods_74 : decode cX3_floods 74 = .ok (.iastore, 1) := by decide +kernel
theorem dX3_floods_75 : decode cX3_floods 75 = .ok (.aload_n 0, 1) := by decide +kernel
theorem dX3_floods_76 : decode cX3_floods 76 = .ok (.getfield 22, 3) := by decide +kernel
theorem dX3_floods_79 : decode cX3_floods 79 = .ok (.getfield 112, 3) := by decide +kernel
theorem dX3_floods_82 : decode cX3_floods 82 = .ok (.iload 5, 2) := by decide +kernel
theorem dX3_floods_84 : decode cX3_floods 84 = .ok (.aload_n 0, 1) := by decide +kernel
theorem dX3_floods_85 : decode cX3_floods 85 = .ok (.getfield 15, 3) := by decide +kernel
theorem dX3_floods_88 : decode cX3_floods 88 = .ok (.iload 5, 2) := by decide +kernel
theorem dX3_floods_90 : decode cX3_floods 90 = .ok (.iaload, 1) := by decide +kernel
theorem dX3_floods_91 : decode cX3_floods 91 = .ok (.iastore, 1) := by decide +kernel
theorem dX3_floods_92 : decode cX3_floods 92 = .ok (.iinc 5 1, 3) := by decide +kernel
theorem dX3_floods_95 : decode cX3_floods 95 = .ok (.goto (-57), 3) := by decide +kernel
theorem dX3_floods_98 : decode cX3_floods 98 = .ok (.aload_n 0, 1) := by decide +kernel
theorem dX3_floods_99 : decode cX3_floods 99 = .ok (.getfield 22, 3) := by decide +kernel
theorem dX3_floods_102 : decode cX3_floods 102 = .ok (.iload_n 3, 1) := by decide +kernel
theorem dX3_floods_103 : decode cX3_floods 103 = .ok (.iload_n 2, 1) := by decide +kernel
theorem dX3_floods_104 : decode cX3_floods 104 = .ok (.invokestatic 117, 3) := by decide +kernel
theorem dX3_floods_107 : decode cX3_floods 107 = .ok (.invokevirtual 120, 3) := by decide +kernel
theorem dX3_floods_110 : decode cX3_floods 110 = .ok (.iconst 0, 1) := by decide +kernel
theorem dX3_floods_111 : decode cX3_floods 111 = .ok (.istore 5, 2) := by decide +kernel
theorem dX3_floods_113 : decode cX3_floods 113 = .ok (.iconst 0, 1) := by decide +kernel
theorem dX3_floods_114 : decode cX3_floods 114 = .ok (.istore 6, 2) := by decide +kernel
theorem dX3_floods_116 : decode cX3_floods 116 = .ok (.iload 6, 2) := by decide +kernel
theorem dX3_floods_118 : decode cX3_floods 118 = .ok (.bipush 24, 2) := by decide +kernel
theorem dX3_floods_120 : decode cX3_floods 120 = .ok (.if_icmp .ge 44, 3) := by decide +kernel
theorem dX3_floods_123 : decode cX3_floods 123 = .ok (.iload 5, 2) := by decide +kernel
theorem dX3_floods_125 : decode cX3_floods 125 = .ok (.aload_n 0, 1) := by decide +kernel
theorem dX3_floods_126 : decode cX3_floods 126 = .ok (.getfield 18, 3) := by decide +kernel
theorem dX3_floods_129 : decode cX3_floods 129 = .ok (.iload_n 1, 1) := by decide +kernel
theorem dX3_floods_130 : decode cX3_floods 130 = .ok (.iload 6, 2) := by decide +kernel
theorem dX3_floods_132 : decode cX3_floods 132 = .ok (.aload_n 0, 1) := by decide +kernel
theorem dX3_floods_133 : decode cX3_floods 133 = .ok (.getfield 15, 3) := by decide +kernel
theorem dX3_floods_136 : decode cX3_floods 136 = .ok (.iload 6, 2) := by decide +kernel
theorem dX3_floods_138 : decode cX3_floods 138 = .ok (.iaload, 1) := by decide +kernel
theorem dX3_floods_139 : decode cX3_floods 139 = .ok (.aload_n 0, 1) := by decide +kernel
theorem dX3_floods_140 : decode cX3_floods 140 = .ok (.getfield 22, 3) := by decide +kernel
theorem dX3_floods_143 : decode cX3_floods 143 = .ok (.getfield 112, 3) := by decide +kernel
theorem dX3_floods_146 : decode cX3_floods 146 = .ok (.iload 6, 2) := by decide +kernel
theorem dX3_floods_148 : decode cX3_floods 148 = .ok (.iaload, 1) := by decide +kernel
theorem dX3_floods_149 : decode cX3_floods 149 = .ok (.iconst (-1), 1) := by decide +kernel
theorem dX3_floods_150 : decode cX3_floods 150 = .ok (.ixor, 1) := by decide +kernel
theorem dX3_floods_151 : decode cX3_floods 151 = .ok (.iand, 1) := by decide +kernel
theorem dX3_floods_152 : decode cX3_floods 152 = .ok (.invokevirtual 124, 3) := by decide +kernel
theorem dX3_floods_155 : decode cX3_floods 155 = .ok (.iadd, 1) := by decide +kernel
theorem dX3_floods_156 : decode cX3_floods 156 = .ok (.istore 5, 2) := by decide +kernel
theorem dX3_floods_158 : decode cX3_floods 158 = .ok (.iinc 6 1, 3) := by decide +kernel
theorem dX3_floods_161 : decode cX3_floods 161 = .ok (.goto (-45), 3) := by decide +kernel
theorem dX3_floods_164 : decode cX3_floods 164 = .ok (.iload 5, 2) := by decide +kernel
theorem dX3_floods_166 : decode cX3_floods 166 = .ok (.ireturn, 1) := by decide +kernel
theorem dX3_fillsRectangle_0 : decode cX3_fillsRectangle 0 = .ok (.aload_n 1, 1) := by decide +kernel
theorem dX3_fillsRectangle_1 : decode cX3_fillsRectangle 1 = .ok (.iconst 0, 1) := by decide +kernel
theorem dX3_fillsRectangle_2 : decode cX3_fillsRectangle 2 = .ok (.invokevirtual 39, 3) := by decide +kernel
theorem dX3_fillsRectangle_5 : decode cX3_fillsRectangle 5 = .ok (.istore_n 2, 1) := by decide +kernel
theorem dX3_fillsRectangle_6 : decode cX3_fillsRectangle 6 = .ok (.aload_n 1, 1) := by decide +kernel
theorem dX3_fillsRectangle_7 : decode cX3_fillsRectangle 7 = .ok (.iconst 2, 1) := by decide +kernel
theorem dX3_fillsRectangle_8 : decode cX3_fillsRectangle 8 = .ok (.invokevirtual 39, 3) := by decide +kernel
theorem dX3_fillsRectangle_11 : decode cX3_fillsRectangle 11 = .ok (.istore_n 3, 1) := by decide +kernel
theorem dX3_fillsRectangle_12 : decode cX3_fillsRectangle 12 = .ok (.aload_n 1, 1) := by decide +kernel
theorem dX3_fillsRectangle_13 : decode cX3_fillsRectangle 13 = .ok (.iconst 4, 1) := by decide +kernel
theorem dX3_fillsRectangle_14 : decode cX3_fillsRectangle 14 = .ok (.invokevirtual 39, 3) := by decide +kernel
theorem dX3_fillsRectangle_17 : decode cX3_fillsRectangle 17 = .ok (.istore 4, 2) := by decide +kernel
theorem dX3_fillsRectangle_19 : decode cX3_fillsRectangle 19 = .ok (.aload_n 1, 1) := by decide +kernel
theorem dX3_fillsRectangle_20 : decode cX3_fillsRectangle 20 = .ok (.iconst 1, 1) := by decide +kernel
theorem dX3_fillsRectangle_21 : decode cX3_fillsRectangle 21 = .ok (.invokevirtual 39, 3) := by decide +kernel
theorem dX3_fillsRectangle_24 : decode cX3_fillsRectangle 24 = .ok (.aload_n 1, 1) := by decide +kernel
theorem dX3_fillsRectangle_25 : decode cX3_fillsRectangle 25 = .ok (.iconst 3, 1) := by decide +kernel
theorem dX3_fillsRectangle_26 : decode cX3_fillsRectangle 26 = .ok (.invokevirtual 39, 3) := by decide +kernel
theorem dX3_fillsRectangle_29 : decode cX3_fillsRectangle 29 = .ok (.invokestatic 66, 3) := by decide +kernel
theorem dX3_fillsRectangle_32 : decode cX3_fillsRectangle 32 = .ok (.istore 5, 2) := by decide +kernel
theorem dX3_fillsRectangle_34 : decode cX3_fillsRectangle 34 = .ok (.iconst 0, 1) := by decide +kernel
theorem dX3_fillsRectangle_35 : decode cX3_fillsRectangle 35 = .ok (.istore 6, 2) := by decide +kernel
theorem dX3_fillsRectangle_37 : decode cX3_fillsRectangle 37 = .ok (.iconst 0, 1) := by decide +kernel
theorem dX3_fillsRectangle_38 : decode cX3_fillsRectangle 38 = .ok (.istore 7, 2) := by decide +kernel
theorem dX3_fillsRectangle_40 : decode cX3_fillsRectangle 40 = .ok (.iload 7, 2) := by decide +kernel
theorem dX3_fillsRectangle_42 : decode cX3_fillsRectangle 42 = .ok (.iload 4, 2) := by decide +kernel
theorem dX3_fillsRectangle_44 : decode cX3_fillsRectangle 44 = .ok (.if_icmp .ge 41, 3) := by decide +kernel
theorem dX3_fillsRectangle_47 : decode cX3_fillsRectangle 47 = .ok (.iload 7, 2) := by decide +kernel
theorem dX3_fillsRectangle_49 : decode cX3_fillsRectangle 49 = .ok (.bipush 64, 2) := by decide +kernel
theorem dX3_fillsRectangle_51 : decode cX3_fillsRectangle 51 = .ok (.if_icmp .ge 34, 3) := by decide +kernel
theorem dX3_fillsRectangle_54 : decode cX3_fillsRectangle 54 = .ok (.iload 6, 2) := by decide +kernel
theorem dX3_fillsRectangle_56 : decode cX3_fillsRectangle 56 = .ok (.aload_n 0, 1) := by decide +kernel
theorem dX3_fillsRectangle_57 : decode cX3_fillsRectangle 57 = .ok (.getfield 18, 3) := by decide +kernel
theorem dX3_fillsRectangle_60 : decode cX3_fillsRectangle 60 = .ok (.iload_n 2, 1) := by decide +kernel
theorem dX3_fillsRectangle_61 : decode cX3_fillsRectangle 61 = .ok (.iload_n 3, 1) := by decide +kernel
theorem dX3_fillsRectangle_62 : decode cX3_fillsRectangle 62 = .ok (.iload 7, 2) := by decide +kernel
theorem dX3_fillsRectangle_64 : decode cX3_fillsRectangle 64 = .ok (.iadd, 1) := by decide +kernel
theorem dX3_fillsRectangle_65 : decode cX3_fillsRectangle 65 = .ok (.iload 5, 2) := by decide +kernel
theorem dX3_fillsRectangle_67 : decode cX3_fillsRectangle 67 = .ok (.iconst (-1), 1) := by decide +kernel
theorem dX3_fillsRectangle_68 : decode cX3_fillsRectangle 68 = .ok (.aload_n 1, 1) := by decide +kernel
theorem dX3_fillsRectangle_69 : decode cX3_fillsRectangle 69 = .ok (.iconst 5, 1) := by decide +kernel
theorem dX3_fillsRectangle_70 : decode cX3_fillsRectangle 70 = .ok (.invokevirtual 39, 3) := by decide +kernel
theorem dX3_fillsRectangle_73 : decode cX3_fillsRectangle 73 = .ok (.invokevirtual 76, 3) := by decide +kernel
theorem dX3_fillsRectangle_76 : decode cX3_fillsRectangle 76 = .ok (.iadd, 1) := by decide +kernel
theorem dX3_fillsRectangle_77 : decode cX3_fillsRectangle 77 = .ok (.istore 6, 2) := by decide +kernel
theorem dX3_fillsRectangle_79 : decode cX3_fillsRectangle 79 = .ok (.iinc 7 1, 3) := by decide +kernel
theorem dX3_fillsRectangle_82 : decode cX3_fillsRectangle 82 = .ok (.goto (-42), 3) := by decide +kernel
theorem dX3_fillsRectangle_85 : decode cX3_fillsRectangle 85 = .ok (.iload 6, 2) := by decide +kernel
theorem dX3_fillsRectangle_87 : decode cX3_fillsRectangle 87 = .ok (.ireturn, 1) := by decide +kernel
theorem dX3_writesLetter_0 : decode cX3_writesLetter 0 = .ok (.aload_n 1, 1) := by decide +kernel
theorem dX3_writesLetter_1 : decode cX3_writesLetter 1 = .ok (.iconst 1, 1) := by decide +kernel
theorem dX3_writesLetter_2 : decode cX3_writesLetter 2 = .ok (.invokevirtual 39, 3) := by decide +kernel
theorem dX3_writesLetter_5 : decode cX3_writesLetter 5 = .ok (.istore_n 2, 1) := by decide +kernel
theorem dX3_writesLetter_6 : decode cX3_writesLetter 6 = .ok (.aload_n 1, 1) := by decide +kernel
theorem dX3_writesLetter_7 : decode cX3_writesLetter 7 = .ok (.iconst 2, 1) := by decide +kernel
theorem dX3_writesLetter_8 : decode cX3_writesLetter 8 = .ok (.invokevirtual 39, 3) := by decide +kernel
theorem dX3_writesLetter_11 : decode cX3_writesLetter 11 = .ok (.istore_n 3, 1) := by decide +kernel
theorem dX3_writesLetter_12 : decode cX3_writesLetter 12 = .ok (.aload_n 1, 1) := by decide +kernel
theorem dX3_writesLetter_13 : decode cX3_writesLetter 13 = .ok (.iconst 3, 1) := by decide +kernel
theorem dX3_writesLetter_14 : decode cX3_writesLetter 14 = .ok (.invokevirtual 39, 3) := by decide +kernel
theorem dX3_writesLetter_17 : decode cX3_writesLetter 17 = .ok (.istore 4, 2) := by decide +kernel
theorem dX3_writesLetter_19 : decode cX3_writesLetter 19 = .ok (.iload_n 3, 1) := by decide +kernel
theorem dX3_writesLetter_20 : decode cX3_writesLetter 20 = .ok (.iconst 4, 1) := by decide +kernel
theorem dX3_writesLetter_21 : decode cX3_writesLetter 21 = .ok (.invokestatic 66, 3) := by decide +kernel
theorem dX3_writesLetter_24 : decode cX3_writesLetter 24 = .ok (.istore 5, 2) := by decide +kernel
theorem dX3_writesLetter_26 : decode cX3_writesLetter 26 = .ok (.iconst 0, 1) := by decide +kernel
theorem dX3_writesLetter_27 : decode cX3_writesLetter 27 = .ok (.istore 6, 2) := by decide +kernel
theorem dX3_writesLetter_29 : decode cX3_writesLetter 29 = .ok (.iconst 0, 1) := by decide +kernel
theorem dX3_writesLetter_30 : decode cX3_writesLetter 30 = .ok (.istore 7, 2) := by decide +kernel
theorem dX3_writesLetter_32 : decode cX3_writesLetter 32 = .ok (.iload 7, 2) := by decide +kernel
theorem dX3_writesLetter_34 : decode cX3_writesLetter 34 = .ok (.iconst 4, 1) := by decide +kernel
theorem dX3_writesLetter_35 : decode cX3_writesLetter 35 = .ok (.if_icmp .ge 52, 3) := by decide +kernel
theorem dX3_writesLetter_38 : decode cX3_writesLetter 38 = .ok (.iload_n 2, 1) := by decide +kernel
theorem dX3_writesLetter_39 : decode cX3_writesLetter 39 = .ok (.iload 7, 2) := by decide +kernel
theorem dX3_writesLetter_41 : decode cX3_writesLetter 41 = .ok (.invokestatic 127, 3) := by decide +kernel
theorem dX3_writesLetter_44 : decode cX3_writesLetter 44 = .ok (.iload_n 3, 1) := by decide +kernel
theorem dX3_writesLetter_45 : decode cX3_writesLetter 45 = .ok (.invokestatic 73, 3) := by decide +kernel
theorem dX3_writesLetter_48 : decode cX3_writesLetter 48 = .ok (.istore 8, 2) := by decide +kernel
theorem dX3_writesLetter_50 : decode cX3_writesLetter 50 = .ok (.iload 6, 2) := by decide +kernel
theorem dX3_writesLetter_52 : decode cX3_writesLetter 52 = .ok (.aload_n 0, 1) := by decide +kernel
theorem dX3_writesLetter_53 : decode cX3_writesLetter 53 = .ok (.getfield 18, 3) := by decide +kernel
theorem dX3_writesLetter_56 : decode cX3_writesLetter 56 = .ok (.aload_n 1, 1) := by decide +kernel
theorem dX3_writesLetter_57 : decode cX3_writesLetter 57 = .ok (.iconst 0, 1) := by decide +kernel
theorem dX3_writesLetter_58 : decode cX3_writesLetter 58 = .ok (.invokevirtual 39, 3) := by decide +kernel
theorem dX3_writesLetter_61 : decode cX3_writesLetter 61 = .ok (.iload 4, 2) := by decide +kernel
theorem dX3_writesLetter_63 : decode cX3_writesLetter 63 = .ok (.iload 7, 2) := by decide +kernel
theorem dX3_writesLetter_65 : decode cX3_writesLetter 65 = .ok (.iadd, 1) := by decide +kernel
theorem dX3_writesLetter_66 : decode cX3_writesLetter 66 = .ok (.iload 5, 2) := by decide +kernel
theorem dX3_writesLetter_68 : decode cX3_writesLetter 68 = .ok (.iload 8, 2) := by decide +kernel
theorem dX3_writesLetter_70 : decode cX3_writesLetter 70 = .ok (.aload_n 1, 1) := by decide +kernel
theorem dX3_writesLetter_71 : decode cX3_writesLetter 71 = .ok (.iconst 4, 1) := by decide +kernel
theorem dX3_writesLetter_72 : decode cX3_writesLetter 72 = .ok (.invokevirtual 39, 3) := by decide +kernel
theorem dX3_writesLetter_75 : decode cX3_writesLetter 75 = .ok (.invokevirtual 76, 3) := by decide +kernel
theorem dX3_writesLetter_78 : decode cX3_writesLetter 78 = .ok (.iadd, 1) := by decide +kernel
theorem dX3_writesLetter_79 : decode cX3_writesLetter 79 = .ok (.istore 6, 2) := by decide +kernel
theorem dX3_writesLetter_81 : decode cX3_writesLetter 81 = .ok (.iinc 7 1, 3) := by decide +kernel
theorem dX3_writesLetter_84 : decode cX3_writesLetter 84 = .ok (.goto (-52), 3) := by decide +kernel
theorem dX3_writesLetter_87 : decode cX3_writesLetter 87 = .ok (.iload 6, 2) := by decide +kernel
theorem dX3_writesLetter_89 : decode cX3_writesLetter 89 = .ok (.ireturn, 1) := by decide +kernel
theorem dX3_letterRow_0 : decode cX3_letterRow 0 = .ok (.iload_n 0, 1) := by decide +kernel
theorem dX3_letterRow_1 : decode cX3_letterRow 1 = .ok (.iconst 5, 1) := by decide +kernel
theorem dX3_letterRow_2 : decode cX3_letterRow 2 = .ok (.imul, 1) := by decide +kernel
theorem dX3_letterRow_3 : decode cX3_letterRow 3 = .ok (.iconst 3, 1) := by decide +kernel
theorem dX3_letterRow_4 : decode cX3_letterRow 4 = .ok (.iload_n 1, 1) := by decide +kernel
theorem dX3_letterRow_5 : decode cX3_letterRow 5 = .ok (.imul, 1) := by decide +kernel
theorem dX3_letterRow_6 : decode cX3_letterRow 6 = .ok (.iadd, 1) := by decide +kernel
theorem dX3_letterRow_7 : decode cX3_letterRow 7 = .ok (.iload_n 0, 1) := by decide +kernel
theorem dX3_letterRow_8 : decode cX3_letterRow 8 = .ok (.iconst 3, 1) := by decide +kernel
theorem dX3_letterRow_9 : decode cX3_letterRow 9 = .ok (.idiv, 1) := by decide +kernel
theorem dX3_letterRow_10 : decode cX3_letterRow 10 = .ok (.iadd, 1) := by decide +kernel
theorem dX3_letterRow_11 : decode cX3_letterRow 11 = .ok (.bipush 16, 2) := by decide +kernel
theorem dX3_letterRow_13 : decode cX3_letterRow 13 = .ok (.irem, 1) := by decide +kernel
theorem dX3_letterRow_14 : decode cX3_letterRow 14 = .ok (.bipush 28, 2) := by decide +kernel
theorem dX3_letterRow_16 : decode cX3_letterRow 16 = .ok (.ishl, 1) := by decide +kernel
theorem dX3_letterRow_17 : decode cX3_letterRow 17 = .ok (.ireturn, 1) := by decide +kernel
theorem dX4_init_0 : decode cX4_init 0 = .ok (.aload_n 0, 1) := by decide +kernel
theorem dX4_init_1 : decode cX4_init 1 = .ok (.invokespecial 3, 3) := by decide +kernel
theorem dX4_init_4 : decode cX4_init 4 = .ok (.aload_n 0, 1) := by decide +kernel
theorem dX4_init_5 : decode cX4_init 5 = .ok (.bipush 24, 2) := by decide +kernel
theorem dX4_init_7 : decode cX4_init 7 = .ok (.newarray .int, 2) := by decide +kernel
theorem dX4_init_9 : decode cX4_init 9 = .ok (.putfield 9, 3) := by decide +kernel
theorem dX4_init_12 : decode cX4_init 12 = .ok (.aload_n 0, 1) := by decide +kernel
theorem dX4_init_13 : decode cX4_init 13 = .ok (.sipush 384, 3) := by decide +kernel
theorem dX4_init_16 : decode cX4_init 16 = .ok (.newarray .int, 2) := by decide +kernel
theorem dX4_init_18 : decode cX4_init 18 = .ok (.putfield 15, 3) := by decide +kernel
theorem dX4_init_21 : decode cX4_init 21 = .ok (.aload_n 0, 1) := by decide +kernel
theorem dX4_init_22 : decode cX4_init 22 = .ok (.sipush 384, 3) := by decide +kernel
theorem dX4_init_25 : decode cX4_init 25 = .ok (.newarray .int, 2) := by decide +kernel
theorem dX4_init_27 : decode cX4_init 27 = .ok (.putfield 18, 3) := by decide +kernel
theorem dX4_init_30 : decode cX4_init 30 = .ok (.return_, 1) := by decide +kernel
theorem dX4_takesOut_0 : decode cX4_takesOut 0 = .ok (.aload_n 0, 1) := by decide +kernel
theorem dX4_takesOut_1 : decode cX4_takesOut 1 = .ok (.iconst 0, 1) := by decide +kernel
theorem dX4_takesOut_2 : decode cX4_takesOut 2 = .ok (.putfield 21, 3) := by decide +kernel
theorem dX4_takesOut_5 : decode cX4_takesOut 5 = .ok (.aload_n 0, 1) := by decide +kernel
theorem dX4_takesOut_6 : decode cX4_takesOut 6 = .ok (.iload_n 1, 1) := by decide +kernel
theorem dX4_takesOut_7 : decode cX4_takesOut 7 = .ok (.iload_n 2, 1) := by decide +kernel
theorem dX4_takesOut_8 : decode cX4_takesOut 8 = .ok (.invokevirtual 25, 3) := by decide +kernel
theorem dX4_takesOut_11 : decode cX4_takesOut 11 = .ok (.iconst 0, 1) := by decide +kernel
theorem dX4_takesOut_12 : decode cX4_takesOut 12 = .ok (.istore_n 3, 1) := by decide +kernel
theorem dX4_takesOut_13 : decode cX4_takesOut 13 = .ok (.iload_n 3, 1) := by decide +kernel
theorem dX4_takesOut_14 : decode cX4_takesOut 14 = .ok (.sipush 384, 3) := by decide +kernel
theorem dX4_takesOut_17 : decode cX4_takesOut 17 = .ok (.if_icmp .ge 68, 3) := by decide +kernel
theorem dX4_takesOut_20 : decode cX4_takesOut 20 = .ok (.aload_n 0, 1) := by decide +kernel
theorem dX4_takesOut_21 : decode cX4_takesOut 21 = .ok (.getfield 21, 3) := by decide +kernel
theorem dX4_takesOut_24 : decode cX4_takesOut 24 = .ok (.ifCond .le 61, 3) := by decide +kernel
theorem dX4_takesOut_27 : decode cX4_takesOut 27 = .ok (.aload_n 0, 1) := by decide +kernel
theorem dX4_takesOut_28 : decode cX4_takesOut 28 = .ok (.dup, 1) := by decide +kernel
theorem dX4_takesOut_29 : decode cX4_takesOut 29 = .ok (.getfield 21, 3) := by decide +kernel
theorem dX4_takesOut_32 : decode cX4_takesOut 32 = .ok (.iconst 1, 1) := by decide +kernel
theorem dX4_takesOut_33 : decode cX4_takesOut 33 = .ok (.isub, 1) := by decide +kernel
theorem dX4_takesOut_34 : decode cX4_takesOut 34 = .ok (.putfield 21, 3) := by decide +kernel
theorem dX4_takesOut_37 : decode cX4_takesOut 37 = .ok (.aload_n 0, 1) := by decide +kernel
theorem dX4_takesOut_38 : decode cX4_takesOut 38 = .ok (.getfield 15, 3) := by decide +kernel
theorem dX4_takesOut_41 : decode cX4_takesOut 41 = .ok (.aload_n 0, 1) := by decide +kernel
theorem dX4_takesOut_42 : decode cX4_takesOut 42 = .ok (.getfield 21, 3) := by decide +kernel
theorem dX4_takesOut_45 : decode cX4_takesOut 45 = .ok (.iaload, 1) := by decide +kernel
theorem dX4_takesOut_46 : decode cX4_takesOut 46 = .ok (.istore 4, 2) := by decide +kernel
theorem dX4_takesOut_48 : decode cX4_takesOut 48 = .ok (.aload_n 0, 1) := by decide +kernel
theorem dX4_takesOut_49 : decode cX4_takesOut 49 = .ok (.getfield 18, 3) := by decide +kernel
theorem dX4_takesOut_52 : decode cX4_takesOut 52 = .ok (.aload_n 0, 1) := by decide +kernel
theorem dX4_takesOut_53 : decode cX4_takesOut 53 = .ok (.getfield 21, 3) := by decide +kernel
theorem dX4_takesOut_56 : decode cX4_takesOut 56 = .ok (.iaload, 1) := by decide +kernel
theorem dX4_takesOut_57 : decode cX4_takesOut 57 = .ok (.istore 5, 2) := by decide +kernel
theorem dX4_takesOut_59 : decode cX4_takesOut 59 = .ok (.aload_n 0, 1) := by decide +kernel
theorem dX4_takesOut_60 : decode cX4_takesOut 60 = .ok (.iload 4, 2) := by decide +kernel
theorem dX4_takesOut_62 : decode cX4_takesOut 62 = .ok (.iconst 1, 1) := by decide +kernel
theorem dX4_takesOut_63 : decode cX4_takesOut 63 = .ok (.isub, 1) := by decide +kernel
theorem dX4_takesOut_64 : decode cX4_takesOut 64 = .ok (.iload 5, 2) := by decide +kernel
theorem dX4_takesOut_66 : decode cX4_takesOut 66 = .ok (.invokevirtual 25, 3) := by decide +kernel
theorem dX4_takesOut_69 : decode cX4_takesOut 69 = .ok (.aload_n 0, 1) := by decide +kernel
theorem dX4_takesOut_70 : decode cX4_takesOut 70 = .ok (.iload 4, 2) := by decide +kernel
theorem dX4_takesOut_72 : decode cX4_takesOut 72 = .ok (.iconst 1, 1) := by decide +kernel
theorem dX4_takesOut_73 : decode cX4_takesOut 73 = .ok (.iadd, 1) := by decide +kernel
theorem dX4_takesOut_74 : decode cX4_takesOut 74 = .ok (.iload 5, 2) := by decide +kernel
theorem dX4_takesOut_76 : decode cX4_takesOut 76 = .ok (.invokevirtual 25, 3) := by decide +kernel
theorem dX4_takesOut_79 : decode cX4_takesOut 79 = .ok (.iinc 3 1, 3) := by decide +kernel
theorem dX4_takesOut_82 : decode cX4_takesOut 82 = .ok (.goto (-69), 3) := by decide +kernel
theorem dX4_takesOut_85 : decode cX4_takesOut 85 = .ok (.return_, 1) := by decide +kernel
theorem dX4_numberOfParts_0 : decode cX4_numberOfParts 0 = .ok (.iconst 0, 1) := by decide +kernel
theorem dX4_numberOfParts_1 : decode cX4_numberOfParts 1 = .ok (.istore_n 1, 1) := by decide +kernel
theorem dX4_numberOfParts_2 : decode cX4_numberOfParts 2 = .ok (.iconst 0, 1) := by decide +kernel
theorem dX4_numberOfParts_3 : decode cX4_numberOfParts 3 = .ok (.istore_n 2, 1) := by decide +kernel
theorem dX4_numberOfParts_4 : decode cX4_numberOfParts 4 = .ok (.iload_n 2, 1) := by decide +kernel
theorem dX4_numberOfParts_5 : decode cX4_numberOfParts 5 = .ok (.bipush 24, 2) := by decide +kernel
theorem dX4_numberOfParts_7 : decode cX4_numberOfParts 7 = .ok (.if_icmp .ge 54, 3) := by decide +kernel
theorem dX4_numberOfParts_10 : decode cX4_numberOfParts 10 = .ok (.iconst 0, 1) := by decide +kernel
theorem dX4_numberOfParts_11 : decode cX4_numberOfParts 11 = .ok (.istore_n 3, 1) := by decide +kernel
theorem dX4_numberOfParts_12 : decode cX4_numberOfParts 12 = .ok (.iload_n 3, 1) := by decide +kernel
theorem dX4_numberOfParts_13 : decode cX4_numberOfParts 13 = .ok (.bipush 32, 2) := by decide +kernel
theorem dX4_numberOfParts_15 : decode cX4_numberOfParts 15 = .ok (.if_icmp .ge 40, 3) := by decide +kernel
theorem dX4_numberOfParts_18 : decode cX4_numberOfParts 18 = .ok (.aload_n 0, 1) := by decide +kernel
theorem dX4_numberOfParts_19 : decode cX4_numberOfParts 19 = .ok (.getfield 9, 3) := by decide +kernel
theorem dX4_numberOfParts_22 : decode cX4_numberOfParts 22 = .ok (.iload_n 2, 1) := by decide +kernel
theorem dX4_numberOfParts_23 : decode cX4_numberOfParts 23 = .ok (.iaload, 1) := by decide +kernel
theorem dX4_numberOfParts_24 : decode cX4_numberOfParts 24 = .ok (.ifCond .eq 31, 3) := by decide +kernel
theorem dX4_numberOfParts_27 : decode cX4_numberOfParts 27 = .ok (.aload_n 0, 1) := by decide +kernel
theorem dX4_numberOfParts_28 : decode cX4_numberOfParts 28 = .ok (.iload_n 2, 1) := by decide +kernel
theorem dX4_numberOfParts_29 : decode cX4_numberOfParts 29 = .ok (.aload_n 0, 1) := by decide +kernel
theorem dX4_numberOfParts_30 : decode cX4_numberOfParts 30 = .ok (.getfield 9, 3) := by decide +kernel
theorem dX4_numberOfParts_33 : decode cX4_numberOfParts 33 = .ok (.iload_n 2, 1) := by decide +kernel
theorem dX4_numberOfParts_34 : decode cX4_numberOfParts 34 = .ok (.iaload, 1) := by decide +kernel
theorem dX4_numberOfParts_35 : decode cX4_numberOfParts 35 = .ok (.aload_n 0, 1) := by decide +kernel
theorem dX4_numberOfParts_36 : decode cX4_numberOfParts 36 = .ok (.getfield 9, 3) := by decide +kernel
theorem dX4_numberOfParts_39 : decode cX4_numberOfParts 39 = .ok (.iload_n 2, 1) := by decide +kernel
theorem dX4_numberOfParts_40 : decode cX4_numberOfParts 40 = .ok (.iaload, 1) := by decide +kernel
theorem dX4_numberOfParts_41 : decode cX4_numberOfParts 41 = .ok (.ineg, 1) := by decide +kernel
theorem dX4_numberOfParts_42 : decode cX4_numberOfParts 42 = .ok (.iand, 1) := by decide +kernel
theorem dX4_numberOfParts_43 : decode cX4_numberOfParts 43 = .ok (.invokevirtual 29, 3) := by decide +kernel
theorem dX4_numberOfParts_46 : decode cX4_numberOfParts 46 = .ok (.iinc 1 1, 3) := by decide +kernel
theorem dX4_numberOfParts_49 : decode cX4_numberOfParts 49 = .ok (.iinc 3 1, 3) := by decide +kernel
theorem dX4_numberOfParts_52 : decode cX4_numberOfParts 52 = .ok (.goto (-40), 3) := by decide +kernel
theorem dX4_numberOfParts_55 : decode cX4_numberOfParts 55 = .ok (.iinc 2 1, 3) := by decide +kernel
theorem dX4_numberOfParts_58 : decode cX4_numberOfParts 58 = .ok (.goto (-54), 3) := by decide +kernel
theorem dX4_numberOfParts_61 : decode cX4_numberOfParts 61 = .ok (.iload_n 1, 1) := by decide +kernel
theorem dX4_numberOfParts_62 : decode cX4_numberOfParts 62 = .ok (.ireturn, 1) := by decide +kernel
theorem dX4_reaches_0 : decode cX4_reaches 0 = .ok (.iload_n 1, 1) := by decide +kernel
theorem dX4_reaches_1 : decode cX4_reaches 1 = .ok (.iconst 0, 1) := by decide +kernel
theorem dX4_reaches_2 : decode cX4_reaches 2 = .ok (.bipush 23, 2) := by decide +kernel
theorem dX4_reaches_4 : decode cX4_reaches 4 = .ok (.invokestatic 32, 3) := by decide +kernel
theorem dX4_reaches_7 : decode cX4_reaches 7 = .ok (.ifCond .eq 13, 3) := by decide +kernel
theorem dX4_reaches_10 : decode cX4_reaches 10 = .ok (.aload_n 0, 1) := by decide +kernel
theorem dX4_reaches_11 : decode cX4_reaches 11 = .ok (.getfield 21, 3) := by decide +kernel
theorem dX4_reaches_14 : decode cX4_reaches 14 = .ok (.sipush 384, 3) := by decide +kernel
theorem dX4_reaches_17 : decode cX4_reaches 17 = .ok (.if_icmp .lt 4, 3) := by decide +kernel
theorem dX4_reaches_20 : decode cX4_reaches 20 = .ok (.return_, 1) := by decide +kernel
theorem dX4_reaches_21 : decode cX4_reaches 21 = .ok (.aload_n 0, 1) := by decide +kernel
theorem dX4_reaches_22 : decode cX4_reaches 22 = .ok (.getfield 9, 3) := by decide +kernel
theorem dX4_reaches_25 : decode cX4_reaches 25 = .ok (.iload_n 1, 1) := by decide +kernel
theorem dX4_reaches_26 : decode cX4_reaches 26 = .ok (.iaload, 1) := by decide +kernel
theorem dX4_reaches_27 : decode cX4_reaches 27 = .ok (.aload_n 0, 1) := by decide +kernel
theorem dX4_reaches_28 : decode cX4_reaches 28 = .ok (.getfield 9, 3) := by decide +kernel
theorem dX4_reaches_31 : decode cX4_reaches 31 = .ok (.iload_n 1, 1) := by decide +kernel
theorem dX4_reaches_32 : decode cX4_reaches 32 = .ok (.iaload, 1) := by decide +kernel
theorem dX4_reaches_33 : decode cX4_reaches 33 = .ok (.iload_n 2, 1) := by decide +kernel
theorem dX4_reaches_34 : decode cX4_reaches 34 = .ok (.iand, 1) := by decide +kernel
theorem dX4_reaches_35 : decode cX4_reaches 35 = .ok (.invokestatic 36, 3) := by decide +kernel
theorem dX4_reaches_38 : decode cX4_reaches 38 = .ok (.istore_n 3, 1) := by decide +kernel
theorem dX4_reaches_39 : decode cX4_reaches 39 = .ok (.iload_n 3, 1) := by decide +kernel
theorem dX4_reaches_40 : decode cX4_reaches 40 = .ok (.ifCond .eq 45, 3) := by decide +kernel
theorem dX4_reaches_43 : decode cX4_reaches 43 = .ok (.aload_n 0, 1) := by decide +kernel
theorem dX4_reaches_44 : decode cX4_reaches 44 = .ok (.getfield 9, 3) := by decide +kernel
theorem dX4_reaches_47 : decode cX4_reaches 47 = .ok (.iload_n 1, 1) := by decide +kernel
theorem dX4_reaches_48 : decode cX4_reaches 48 = .ok (.dup2, 1) := by decide +kernel
theorem dX4_reaches_49 : decode cX4_reaches 49 = .ok (.iaload, 1) := by decide +kernel
theorem dX4_reaches_50 : decode cX4_reaches 50 = .ok (.iload_n 3, 1) := by decide +kernel
theorem dX4_reaches_51 : decode cX4_reaches 51 = .ok (.iconst (-1), 1) := by decide +kernel
theorem dX4_reaches_52 : decode cX4_reaches 52 = .ok (.ixor, 1) := by decide +kernel
theorem dX4_reaches_53 : decode cX4_reaches 53 = .ok (.iand, 1) := by decide +kernel
theorem dX4_reaches_54 : decode cX4_reaches 54 = .ok (.iastore, 1) := by decide +kernel
theorem dX4_reaches_55 : decode cX4_reaches 55 = .ok (.aload_n 0, 1) := by decide +kernel
theorem dX4_reaches_56 : decode cX4_reaches 56 = .ok (.getfield 15, 3) := by decide +kernel
theorem dX4_reaches_59 : decode cX4_reaches 59 = .ok (.aload_n 0, 1) := by decide +kernel
theorem dX4_reaches_60 : decode cX4_reaches 60 = .ok (.getfield 21, 3) := by decide +kernel
theorem dX4_reaches_63 : decode cX4_reaches 63 = .ok (.iload_n 1, 1) := by decide +kernel
theorem dX4_reaches_64 : decode cX4_reaches 64 = .ok (.iastore, 1) := by decide +kernel
theorem dX4_reaches_65 : decode cX4_reaches 65 = .ok (.aload_n 0, 1) := by decide +kernel
theorem dX4_reaches_66 : decode cX4_reaches 66 = .ok (.getfield 18, 3) := by decide +kernel
theorem dX4_reaches_69 : decode cX4_reaches 69 = .ok (.aload_n 0, 1) := by decide +kernel
theorem dX4_reaches_70 : decode cX4_reaches 70 = .ok (.getfield 21, 3) := by decide +kernel
theorem dX4_reaches_73 : decode cX4_reaches 73 = .ok (.iload_n 3, 1) := by decide +kernel
theorem dX4_reaches_74 : decode cX4_reaches 74 = .ok (.iastore, 1) := by decide +kernel
theorem dX4_reaches_75 : decode cX4_reaches 75 = .ok (.aload_n 0, 1) := by decide +kernel
theorem dX4_reaches_76 : decode cX4_reaches 76 = .ok (.dup, 1) := by decide +kernel
theorem dX4_reaches_77 : decode cX4_reaches 77 = .ok (.getfield 21, 3) := by decide +kernel
theorem dX4_reaches_80 : decode cX4_reaches 80 = .ok (.iconst 1, 1) := by decide +kernel
theorem dX4_reaches_81 : decode cX4_reaches 81 = .ok (.iadd, 1) := by decide +kernel
theorem dX4_reaches_82 : decode cX4_reaches 82 = .ok (.putfield 21, 3) := by decide +kernel
theorem dX4_reaches_85 : decode cX4_reaches 85 = .ok (.return_, 1) := by decide +kernel
theorem dX4_runsThrough_0 : decode cX4_runsThrough 0 = .ok (.iload_n 1, 1) := by decide +kernel
theorem dX4_runsThrough_1 : decode cX4_runsThrough 1 = .ok (.istore_n 2, 1) := by decide +kernel
theorem dX4_runsThrough_2 : decode cX4_runsThrough 2 = .ok (.iload_n 1, 1) := by decide +kernel
theorem dX4_runsThrough_3 : decode cX4_runsThrough 3 = .ok (.istore_n 3, 1) := by decide +kernel
theorem dX4_runsThrough_4 : decode cX4_runsThrough 4 = .ok (.iload_n 0, 1) := by decide +kernel
theorem dX4_runsThrough_5 : decode cX4_runsThrough 5 = .ok (.istore 4, 2) := by decide +kernel
theorem dX4_runsThrough_7 : decode cX4_runsThrough 7 = .ok (.iload_n 0, 1) := by decide +kernel
theorem dX4_runsThrough_8 : decode cX4_runsThrough 8 = .ok (.istore 5, 2) := by decide +kernel
theorem dX4_runsThrough_10 : decode cX4_runsThrough 10 = .ok (.iconst 1, 1) := by decide +kernel
theorem dX4_runsThrough_11 : decode cX4_runsThrough 11 = .ok (.istore 6, 2) := by decide +kernel
theorem dX4_runsThrough_13 : decode cX4_runsThrough 13 = .ok (.iload 6, 2) := by decide +kernel
theorem dX4_runsThrough_15 : decode cX4_runsThrough 15 = .ok (.bipush 32, 2) := by decide +kernel
theorem dX4_runsThrough_17 : decode cX4_runsThrough 17 = .ok (.if_icmp .ge 52, 3) := by decide +kernel
theorem dX4_runsThrough_20 : decode cX4_runsThrough 20 = .ok (.iload_n 2, 1) := by decide +kernel
theorem dX4_runsThrough_21 : decode cX4_runsThrough 21 = .ok (.iload 4, 2) := by decide +kernel
theorem dX4_runsThrough_23 : decode cX4_runsThrough 23 = .ok (.iload_n 2, 1) := by decide +kernel
theorem dX4_runsThrough_24 : decode cX4_runsThrough 24 = .ok (.iload 6, 2) := by decide +kernel
theorem dX4_runsThrough_26 : decode cX4_runsThrough 26 = .ok (.ishl, 1) := by decide +kernel
theorem dX4_runsThrough_27 : decode cX4_runsThrough 27 = .ok (.iand, 1) := by decide +kernel
theorem dX4_runsThrough_28 : decode cX4_runsThrough 28 = .ok (.ior, 1) := by decide +kernel
theorem dX4_runsThrough_29 : decode cX4_runsThrough 29 = .ok (.istore_n 2, 1) := by decide +kernel
theorem dX4_runsThrough_30 : decode cX4_runsThrough 30 = .ok (.iload 4, 2) := by decide +kernel
theorem dX4_runsThrough_32 : decode cX4_runsThrough 32 = .ok (.iload 4, 2) := by decide +kernel
theorem dX4_runsThrough_34 : decode cX4_runsThrough 34 = .ok (.iload 6, 2) := by decide +kernel
theorem dX4_runsThrough_36 : decode cX4_runsThrough 36 = .ok (.ishl, 1) := by decide +kernel
theorem dX4_runsThrough_37 : decode cX4_runsThrough 37 = .ok (.iand, 1) := by decide +kernel
theorem dX4_runsThrough_38 : decode cX4_runsThrough 38 = .ok (.istore 4, 2) := by decide +kernel
theorem dX4_runsThrough_40 : decode cX4_runsThrough 40 = .ok (.iload_n 3, 1) := by decide +kernel
theorem dX4_runsThrough_41 : decode cX4_runsThrough 41 = .ok (.iload 5, 2) := by decide +kernel
theorem dX4_runsThrough_43 : decode cX4_runsThrough 43 = .ok (.iload_n 3, 1) := by decide +kernel
theorem dX4_runsThrough_44 : decode cX4_runsThrough 44 = .ok (.iload 6, 2) := by decide +kernel
theorem dX4_runsThrough_46 : decode cX4_runsThrough 46 = .ok (.iushr, 1) := by decide +kernel
theorem dX4_runsThrough_47 : decode cX4_runsThrough 47 = .ok (.iand, 1) := by decide +kernel
theorem dX4_runsThrough_48 : decode cX4_runsThrough 48 = .ok (.ior, 1) := by decide +kernel
theorem dX4_runsThrough_49 : decode cX4_runsThrough 49 = .ok (.istore_n 3, 1) := by decide +kernel
theorem dX4_runsThrough_50 : decode cX4_runsThrough 50 = .ok (.iload 5, 2) := by decide +kernel
theorem dX4_runsThrough_52 : decode cX4_runsThrough 52 = .ok (.iload 5, 2) := by decide +kernel
theorem dX4_runsThrough_54 : decode cX4_runsThrough 54 = .ok (.iload 6, 2) := by decide +kernel
theorem dX4_runsThrough_56 : decode cX4_runsThrough 56 = .ok (.iushr, 1) := by decide +kernel
theorem dX4_runsThrough_57 : decode cX4_runsThrough 57 = .ok (.iand, 1) := by decide +kernel
theorem dX4_runsThrough_58 : decode cX4_runsThrough 58 = .ok (.istore 5, 2) := by decide +kernel
theorem dX4_runsThrough_60 : decode cX4_runsThrough 60 = .ok (.iload 6, 2) := by decide +kernel
theorem dX4_runsThrough_62 : decode cX4_runsThrough 62 = .ok (.iconst 2, 1) := by decide +kernel
theorem dX4_runsThrough_63 : decode cX4_runsThrough 63 = .ok (.imul, 1) := by decide +kernel
theorem dX4_runsThrough_64 : decode cX4_runsThrough 64 = .ok (.istore 6, 2) := by decide +kernel
theorem dX4_runsThrough_66 : decode cX4_runsThrough 66 = .ok (.goto (-53), 3) := by decide +kernel
theorem dX4_runsThrough_69 : decode cX4_runsThrough 69 = .ok (.iload_n 2, 1) := by decide +kernel
theorem dX4_runsThrough_70 : decode cX4_runsThrough 70 = .ok (.iload_n 3, 1) := by decide +kernel
theorem dX4_runsThrough_71 : decode cX4_runsThrough 71 = .ok (.ior, 1) := by decide +kernel
theorem dX4_runsThrough_72 : decode cX4_runsThrough 72 = .ok (.ireturn, 1) := by decide +kernel
theorem dX5_init_0 : decode cX5_init 0 = .ok (.aload_n 0, 1) := by decide +kernel
theorem dX5_init_1 : decode cX5_init 1 = .ok (.invokespecial 3, 3) := by decide +kernel
theorem dX5_init_4 : decode cX5_init 4 = .ok (.aload_n 0, 1) := by decide +kernel
theorem dX5_init_5 : decode cX5_init 5 = .ok (.bipush 6, 2) := by decide +kernel
theorem dX5_init_7 : decode cX5_init 7 = .ok (.anewarray 9, 3) := by decide +kernel
theorem dX5_init_10 : decode cX5_init 10 = .ok (.putfield 11, 3) := by decide +kernel
theorem dX5_init_13 : decode cX5_init 13 = .ok (.iconst 0, 1) := by decide +kernel
theorem dX5_init_14 : decode cX5_init 14 = .ok (.istore_n 1, 1) := by decide +kernel
theorem dX5_init_15 : decode cX5_init 15 = .ok (.iload_n 1, 1) := by decide +kernel
theorem dX5_init_16 : decode cX5_init 16 = .ok (.bipush 6, 2) := by decide +kernel
theorem dX5_init_18 : decode cX5_init 18 = .ok (.if_icmp .ge 22, 3) := by decide +kernel
theorem dX5_init_21 : decode cX5_init 21 = .ok (.aload_n 0, 1) := by decide +kernel
theorem dX5_init_22 : decode cX5_init 22 = .ok (.getfield 11, 3) := by decide +kernel
theorem dX5_init_25 : decode cX5_init 25 = .ok (.iload_n 1, 1) := by decide +kernel
theorem dX5_init_26 : decode cX5_init 26 = .ok (.new 9, 3) := by decide +kernel
theorem dX5_init_29 : decode cX5_init 29 = .ok (.dup, 1) := by decide +kernel
theorem dX5_init_30 : decode cX5_init 30 = .ok (.invokespecial 17, 3) := by decide +kernel
theorem dX5_init_33 : decode cX5_init 33 = .ok (.aastore, 1) := by decide +kernel
theorem dX5_init_34 : decode cX5_init 34 = .ok (.iinc 1 1, 3) := by decide +kernel
theorem dX5_init_37 : decode cX5_init 37 = .ok (.goto (-22), 3) := by decide +kernel
theorem dX5_init_40 : decode cX5_init 40 = .ok (.return_, 1) := by decide +kernel
theorem dX5_keeps_0 : decode cX5_keeps 0 = .ok (.aload_n 0, 1) := by decide +kernel
theorem dX5_keeps_1 : decode cX5_keeps 1 = .ok (.getfield 11, 3) := by decide +kernel
theorem dX5_keeps_4 : decode cX5_keeps 4 = .ok (.aload_n 0, 1) := by decide +kernel
theorem dX5_keeps_5 : decode cX5_keeps 5 = .ok (.getfield 18, 3) := by decide +kernel
theorem dX5_keeps_8 : decode cX5_keeps 8 = .ok (.aaload, 1) := by decide +kernel
theorem dX5_keeps_9 : decode cX5_keeps 9 = .ok (.aload_n 1, 1) := by decide +kernel
theorem dX5_keeps_10 : decode cX5_keeps 10 = .ok (.invokevirtual 22, 3) := by decide +kernel
theorem dX5_keeps_13 : decode cX5_keeps 13 = .ok (.aload_n 0, 1) := by decide +kernel
theorem dX5_keeps_14 : decode cX5_keeps 14 = .ok (.aload_n 0, 1) := by decide +kernel
theorem dX5_keeps_15 : decode cX5_keeps 15 = .ok (.getfield 18, 3) := by decide +kernel
theorem dX5_keeps_18 : decode cX5_keeps 18 = .ok (.iconst 1, 1) := by decide +kernel
theorem dX5_keeps_19 : decode cX5_keeps 19 = .ok (.iadd, 1) := by decide +kernel
theorem dX5_keeps_20 : decode cX5_keeps 20 = .ok (.bipush 6, 2) := by decide +kernel
theorem dX5_keeps_22 : decode cX5_keeps 22 = .ok (.irem, 1) := by decide +kernel
theorem dX5_keeps_23 : decode cX5_keeps 23 = .ok (.putfield 18, 3) := by decide +kernel
theorem dX5_keeps_26 : decode cX5_keeps 26 = .ok (.aload_n 0, 1) := by decide +kernel
theorem dX5_keeps_27 : decode cX5_keeps 27 = .ok (.aload_n 0, 1) := by decide +kernel
theorem dX5_keeps_28 : decode cX5_keeps 28 = .ok (.getfield 26, 3) := by decide +kernel
theorem dX5_keeps_31 : decode cX5_keeps 31 = .ok (.iconst 1, 1) := by decide +kernel
theorem dX5_keeps_32 : decode cX5_keeps 32 = .ok (.iadd, 1) := by decide +kernel
theorem dX5_keeps_33 : decode cX5_keeps 33 = .ok (.bipush 6, 2) := by decide +kernel
theorem dX5_keeps_35 : decode cX5_keeps 35 = .ok (.invokestatic 29, 3) := by decide +kernel
theorem dX5_keeps_38 : decode cX5_keeps 38 = .ok (.putfield 26, 3) := by decide +kernel
theorem dX5_keeps_41 : decode cX5_keeps 41 = .ok (.return_, 1) := by decide +kernel
theorem dX5_givesBack_0 : decode cX5_givesBack 0 = .ok (.aload_n 0, 1) := by decide +kernel
theorem dX5_givesBack_1 : decode cX5_givesBack 1 = .ok (.getfield 26, 3) := by decide +kernel
theorem dX5_givesBack_4 : decode cX5_givesBack 4 = .ok (.ifCond .ne 4, 3) := by decide +kernel
theorem dX5_givesBack_7 : decode cX5_givesBack 7 = .ok (.return_, 1) := by decide +kernel
theorem dX5_givesBack_8 : decode cX5_givesBack 8 = .ok (.aload_n 0, 1) := by decide +kernel
theorem dX5_givesBack_9 : decode cX5_givesBack 9 = .ok (.aload_n 0, 1) := by decide +kernel
theorem dX5_givesBack_10 : decode cX5_givesBack 10 = .ok (.getfield 18, 3) := by decide +kernel
theorem dX5_givesBack_13 : decode cX5_givesBack 13 = .ok (.bipush 6, 2) := by decide +kernel
theorem dX5_givesBack_15 : decode cX5_givesBack 15 = .ok (.iadd, 1) := by decide +kernel
theorem dX5_givesBack_16 : decode cX5_givesBack 16 = .ok (.iconst 1, 1) := by decide +kernel
theorem dX5_givesBack_17 : decode cX5_givesBack 17 = .ok (.isub, 1) := by decide +kernel
theorem dX5_givesBack_18 : decode cX5_givesBack 18 = .ok (.bipush 6, 2) := by decide +kernel
theorem dX5_givesBack_20 : decode cX5_givesBack 20 = .ok (.irem, 1) := by decide +kernel
theorem dX5_givesBack_21 : decode cX5_givesBack 21 = .ok (.putfield 18, 3) := by decide +kernel
theorem dX5_givesBack_24 : decode cX5_givesBack 24 = .ok (.aload_n 0, 1) := by decide +kernel
theorem dX5_givesBack_25 : decode cX5_givesBack 25 = .ok (.dup, 1) := by decide +kernel
theorem dX5_givesBack_26 : decode cX5_givesBack 26 = .ok (.getfield 26, 3) := by decide +kernel
theorem dX5_givesBack_29 : decode cX5_givesBack 29 = .ok (.iconst 1, 1) := by decide +kernel
theorem dX5_givesBack_30 : decode cX5_givesBack 30 = .ok (.isub, 1) := by decide +kernel
theorem dX5_givesBack_31 : decode cX5_givesBack 31 = .ok (.putfield 26, 3) := by decide +kernel
theorem dX5_givesBack_34 : decode cX5_givesBack 34 = .ok (.aload_n 1, 1) := by decide +kernel
theorem dX5_givesBack_35 : decode cX5_givesBack 35 = .ok (.aload_n 0, 1) := by decide +kernel
theorem dX5_givesBack_36 : decode cX5_givesBack 36 = .ok (.getfield 11, 3) := by decide +kernel
theorem dX5_givesBack_39 : decode cX5_givesBack 39 = .ok (.aload_n 0, 1) := by decide +kernel
theorem dX5_givesBack_40 : decode cX5_givesBack 40 = .ok (.getfield 18, 3) := by decide +kernel
theorem dX5_givesBack_43 : decode cX5_givesBack 43 = .ok (.aaload, 1) := by decide +kernel
theorem dX5_givesBack_44 : decode cX5_givesBack 44 = .ok (.invokevirtual 22, 3) := by decide +kernel
theorem dX5_givesBack_47 : decode cX5_givesBack 47 = .ok (.return_, 1) := by decide +kernel
theorem dX6_init_0 : decode cX6_init 0 = .ok (.aload_n 0, 1) := by decide +kernel
theorem dX6_init_1 : decode cX6_init 1 = .ok (.invokespecial 3, 3) := by decide +kernel
theorem dX6_init_4 : decode cX6_init 4 = .ok (.aload_n 0, 1) := by decide +kernel
theorem dX6_init_5 : decode cX6_init 5 = .ok (.bipush 72, 2) := by decide +kernel
theorem dX6_init_7 : decode cX6_init 7 = .ok (.newarray .int, 2) := by decide +kernel
theorem dX6_init_9 : decode cX6_init 9 = .ok (.putfield 9, 3) := by decide +kernel
theorem dX6_init_12 : decode cX6_init 12 = .ok (.aload_n 0, 1) := by decide +kernel
theorem dX6_init_13 : decode cX6_init 13 = .ok (.bipush 8, 2) := by decide +kernel
theorem dX6_init_15 : decode cX6_init 15 = .ok (.newarray .int, 2) := by decide +kernel
theorem dX6_init_17 : decode cX6_init 17 = .ok (.putfield 15, 3) := by decide +kernel
theorem dX6_init_20 : decode cX6_init 20 = .ok (.aload_n 0, 1) := by decide +kernel
theorem dX6_init_21 : decode cX6_init 21 = .ok (.bipush 16, 2) := by decide +kernel
theorem dX6_init_23 : decode cX6_init 23 = .ok (.newarray .int, 2) := by decide +kernel
theorem dX6_init_25 : decode cX6_init 25 = .ok (.putfield 18, 3) := by decide +kernel
theorem dX6_init_28 : decode cX6_init 28 = .ok (.aload_n 0, 1) := by decide +kernel
theorem dX6_init_29 : decode cX6_init 29 = .ok (.getfield 15, 3) := by decide +kernel
theorem dX6_init_32 : decode cX6_init 32 = .ok (.sipush 255, 3) := by decide +kernel
theorem dX6_init_35 : decode cX6_init 35 = .ok (.invokestatic 21, 3) := by decide +kernel
theorem dX6_init_38 : decode cX6_init 38 = .ok (.return_, 1) := by decide +kernel
theorem dX6_becomes_0 : decode cX6_becomes 0 = .ok (.aload_n 1, 1) := by decide +kernel
theorem dX6_becomes_1 : decode cX6_becomes 1 = .ok (.getfield 9, 3) := by decide +kernel
theorem dX6_becomes_4 : decode cX6_becomes 4 = .ok (.iconst 0, 1) := by decide +kernel
theorem dX6_becomes_5 : decode cX6_becomes 5 = .ok (.aload_n 0, 1) := by decide +kernel
theorem dX6_becomes_6 : decode cX6_becomes 6 = .ok (.getfield 9, 3) := by decide +kernel
theorem dX6_becomes_9 : decode cX6_becomes 9 = .ok (.iconst 0, 1) := by decide +kernel
theorem dX6_becomes_10 : decode cX6_becomes 10 = .ok (.aload_n 0, 1) := by decide +kernel
theorem dX6_becomes_11 : decode cX6_becomes 11 = .ok (.getfield 9, 3) := by decide +kernel
theorem dX6_becomes_14 : decode cX6_becomes 14 = .ok (.arraylength, 1) := by decide +kernel
theorem dX6_becomes_15 : decode cX6_becomes 15 = .ok (.invokestatic 27, 3) := by decide +kernel
theorem dX6_becomes_18 : decode cX6_becomes 18 = .ok (.aload_n 1, 1) := by decide +kernel
theorem dX6_becomes_19 : decode cX6_becomes 19 = .ok (.getfield 15, 3) := by decide +kernel
theorem dX6_becomes_22 : decode cX6_becomes 22 = .ok (.iconst 0, 1) := by decide +kernel
theorem dX6_becomes_23 : decode cX6_becomes 23 = .ok (.aload_n 0, 1) := by decide +kernel
theorem dX6_becomes_24 : decode cX6_becomes 24 = .ok (.getfield 15, 3) := by decide +kernel
theorem dX6_becomes_27 : decode cX6_becomes 27 = .ok (.iconst 0, 1) := by decide +kernel
theorem dX6_becomes_28 : decode cX6_becomes 28 = .ok (.aload_n 0, 1) := by decide +kernel
theorem dX6_becomes_29 : decode cX6_becomes 29 = .ok (.getfield 15, 3) := by decide +kernel
theorem dX6_becomes_32 : decode cX6_becomes 32 = .ok (.arraylength, 1) := by decide +kernel
theorem dX6_becomes_33 : decode cX6_becomes 33 = .ok (.invokestatic 27, 3) := by decide +kernel
theorem dX6_becomes_36 : decode cX6_becomes 36 = .ok (.aload_n 1, 1) := by decide +kernel
theorem dX6_becomes_37 : decode cX6_becomes 37 = .ok (.getfield 18, 3) := by decide +kernel
theorem dX6_becomes_40 : decode cX6_becomes 40 = .ok (.iconst 0, 1) := by decide +kernel
theorem dX6_becomes_41 : decode cX6_becomes 41 = .ok (.aload_n 0, 1) := by decide +kernel
theorem dX6_becomes_42 : decode cX6_becomes 42 = .ok (.getfield 18, 3) := by decide +kernel
theorem dX6_becomes_45 : decode cX6_becomes 45 = .ok (.iconst 0, 1) := by decide +kernel
theorem dX6_becomes_46 : decode cX6_becomes 46 = .ok (.aload_n 0, 1) := by decide +kernel
theorem dX6_becomes_47 : decode cX6_becomes 47 = .ok (.getfield 18, 3) := by decide +kernel
theorem dX6_becomes_50 : decode cX6_becomes 50 = .ok (.arraylength, 1) := by decide +kernel
theorem dX6_becomes_51 : decode cX6_becomes 51 = .ok (.invokestatic 27, 3) := by decide +kernel
theorem dX6_becomes_54 : decode cX6_becomes 54 = .ok (.aload_n 0, 1) := by decide +kernel
theorem dX6_becomes_55 : decode cX6_becomes 55 = .ok (.aload_n 1, 1) := by decide +kernel
theorem dX6_becomes_56 : decode cX6_becomes 56 = .ok (.getfield 33, 3) := by decide +kernel
theorem dX6_becomes_59 : decode cX6_becomes 59 = .ok (.putfield 33, 3) := by decide +kernel
theorem dX6_becomes_62 : decode cX6_becomes 62 = .ok (.return_, 1) := by decide +kernel
theorem dX6_rowAt_0 : decode cX6_rowAt 0 = .ok (.iload_n 1, 1) := by decide +kernel
theorem dX6_rowAt_1 : decode cX6_rowAt 1 = .ok (.invokestatic 37, 3) := by decide +kernel
theorem dX6_rowAt_4 : decode cX6_rowAt 4 = .ok (.ifCond .eq 27, 3) := by decide +kernel
theorem dX6_rowAt_7 : decode cX6_rowAt 7 = .ok (.iload_n 2, 1) := by decide +kernel
theorem dX6_rowAt_8 : decode cX6_rowAt 8 = .ok (.iconst 0, 1) := by decide +kernel
theorem dX6_rowAt_9 : decode cX6_rowAt 9 = .ok (.bipush 23, 2) := by decide +kernel
theorem dX6_rowAt_11 : decode cX6_rowAt 11 = .ok (.invokestatic 41, 3) := by decide +kernel
theorem dX6_rowAt_14 : decode cX6_rowAt 14 = .ok (.ifCond .eq 17, 3) := by decide +kernel
theorem dX6_rowAt_17 : decode cX6_rowAt 17 = .ok (.aload_n 0, 1) := by decide +kernel
theorem dX6_rowAt_18 : decode cX6_rowAt 18 = .ok (.getfield 9, 3) := by decide +kernel
theorem dX6_rowAt_21 : decode cX6_rowAt 21 = .ok (.iload_n 1, 1) := by decide +kernel
theorem dX6_rowAt_22 : decode cX6_rowAt 22 = .ok (.bipush 24, 2) := by decide +kernel
theorem dX6_rowAt_24 : decode cX6_rowAt 24 = .ok (.imul, 1) := by decide +kernel
theorem dX6_rowAt_25 : decode cX6_rowAt 25 = .ok (.iload_n 2, 1) := by decide +kernel
theorem dX6_rowAt_26 : decode cX6_rowAt 26 = .ok (.iadd, 1) := by decide +kernel
theorem dX6_rowAt_27 : decode cX6_rowAt 27 = .ok (.iaload, 1) := by decide +kernel
theorem dX6_rowAt_28 : decode cX6_rowAt 28 = .ok (.goto 4, 3) := by decide +kernel
theorem dX6_rowAt_31 : decode cX6_rowAt 31 = .ok (.iconst 0, 1) := by decide +kernel
theorem dX6_rowAt_32 : decode cX6_rowAt 32 = .ok (.ireturn, 1) := by decide +kernel
theorem dX6_putRow_0 : decode cX6_putRow 0 = .ok (.iload_n 1, 1) := by decide +kernel
theorem dX6_putRow_1 : decode cX6_putRow 1 = .ok (.invokestatic 37, 3) := by decide +kernel
theorem dX6_putRow_4 : decode cX6_putRow 4 = .ok (.ifCond .eq 25, 3) := by decide +kernel
theorem dX6_putRow_7 : decode cX6_putRow 7 = .ok (.iload_n 2, 1) := by decide +kernel
theorem dX6_putRow_8 : decode cX6_putRow 8 = .ok (.iconst 0, 1) := by decide +kernel
theorem dX6_putRow_9 : decode cX6_putRow 9 = .ok (.bipush 23, 2) := by decide +kernel
theorem dX6_putRow_11 : decode cX6_putRow 11 = .ok (.invokestatic 41, 3) := by decide +kernel
theorem dX6_putRow_14 : decode cX6_putRow 14 = .ok (.ifCond .eq 15, 3) := by decide +kernel
theorem dX6_putRow_17 : decode cX6_putRow 17 = .ok (.aload_n 0, 1) := by decide +kernel
theorem dX6_putRow_18 : decode cX6_putRow 18 = .ok (.getfield 9, 3) := by decide +kernel
theorem dX6_putRow_21 : decode cX6_putRow 21 = .ok (.iload_n 1, 1) := by decide +kernel
theorem dX6_putRow_22 : decode cX6_putRow 22 = .ok (.bipush 24, 2) := by decide +kernel
theorem dX6_putRow_24 : decode cX6_putRow 24 = .ok (.imul, 1) := by decide +kernel
theorem dX6_putRow_25 : decode cX6_putRow 25 = .ok (.iload_n 2, 1) := by decide +kernel
theorem dX6_putRow_26 : decode cX6_putRow 26 = .ok (.iadd, 1) := by decide +kernel
theorem dX6_putRow_27 : decode cX6_putRow 27 = .ok (.iload_n 3, 1) := by decide +kernel
theorem dX6_putRow_28 : decode cX6_putRow 28 = .ok (.iastore, 1) := by decide +kernel
theorem dX6_putRow_29 : decode cX6_putRow 29 = .ok (.return_, 1) := by decide +kernel
theorem dX6_dotAt_0 : decode cX6_dotAt 0 = .ok (.iload_n 2, 1) := by decide +kernel
theorem dX6_dotAt_1 : decode cX6_dotAt 1 = .ok (.iload_n 3, 1) := by decide +kernel
theorem dX6_dotAt_2 : decode cX6_dotAt 2 = .ok (.invokestatic 45, 3) := by decide +kernel
theorem dX6_dotAt_5 : decode cX6_dotAt 5 = .ok (.ifCond .eq 21, 3) := by decide +kernel
theorem dX6_dotAt_8 : decode cX6_dotAt 8 = .ok (.aload_n 0, 1) := by decide +kernel
theorem dX6_dotAt_9 : decode cX6_dotAt 9 = .ok (.iload_n 1, 1) := by decide +kernel
theorem dX6_dotAt_10 : decode cX6_dotAt 10 = .ok (.iload_n 3, 1) := by decide +kernel
theorem dX6_dotAt_11 : decode cX6_dotAt 11 = .ok (.invokevirtual 49, 3) := by decide +kernel
theorem dX6_dotAt_14 : decode cX6_dotAt 14 = .ok (.iload_n 2, 1) := by decide +kernel
theorem dX6_dotAt_15 : decode cX6_dotAt 15 = .ok (.invokestatic 53, 3) := by decide +kernel
theorem dX6_dotAt_18 : decode cX6_dotAt 18 = .ok (.iand, 1) := by decide +kernel
theorem dX6_dotAt_19 : decode cX6_dotAt 19 = .ok (.ifCond .eq 7, 3) := by decide +kernel
theorem dX6_dotAt_22 : decode cX6_dotAt 22 = .ok (.iconst 1, 1) := by decide +kernel
theorem dX6_dotAt_23 : decode cX6_dotAt 23 = .ok (.goto 4, 3) := by decide +kernel
theorem dX6_dotAt_26 : decode cX6_dotAt 26 = .ok (.iconst 0, 1) := by decide +kernel
theorem dX6_dotAt_27 : decode cX6_dotAt 27 = .ok (.ireturn, 1) := by decide +kernel
theorem dX6_patternAt_0 : decode cX6_patternAt 0 = .ok (.aload_n 0, 1) := by decide +kernel
theorem dX6_patternAt_1 : decode cX6_patternAt 1 = .ok (.getfield 15, 3) := by decide +kernel
theorem dX6_patternAt_4 : decode cX6_patternAt 4 = .ok (.iload_n 1, 1) := by decide +kernel
theorem dX6_patternAt_5 : decode cX6_patternAt 5 = .ok (.bipush 7, 2) := by decide +kernel
theorem dX6_patternAt_7 : decode cX6_patternAt 7 = .ok (.iand, 1) := by decide +kernel
theorem dX6_patternAt_8 : decode cX6_patternAt 8 = .ok (.iaload, 1) := by decide +kernel
theorem dX6_patternAt_9 : decode cX6_patternAt 9 = .ok (.ldc 57, 2) := by decide +kernel
theorem dX6_patternAt_11 : decode cX6_patternAt 11 = .ok (.imul, 1) := by decide +kernel
theorem dX6_patternAt_12 : decode cX6_patternAt 12 = .ok (.ireturn, 1) := by decide +kernel
theorem dX6_openAt_0 : decode cX6_openAt 0 = .ok (.aload_n 0, 1) := by decide +kernel
theorem dX6_openAt_1 : decode cX6_openAt 1 = .ok (.getfield 33, 3) := by decide +kernel
theorem dX6_openAt_4 : decode cX6_openAt 4 = .ok (.ifCond .ne 5, 3) := by decide +kernel
theorem dX6_openAt_7 : decode cX6_openAt 7 = .ok (.iconst (-1), 1) := by decide +kernel
theorem dX6_openAt_8 : decode cX6_openAt 8 = .ok (.ireturn, 1) := by decide +kernel
theorem dX6_openAt_9 : decode cX6_openAt 9 = .ok (.iconst 0, 1) := by decide +kernel
theorem dX6_openAt_10 : decode cX6_openAt 10 = .ok (.istore_n 2, 1) := by decide +kernel
theorem dX6_openAt_11 : decode cX6_openAt 11 = .ok (.iconst 0, 1) := by decide +kernel
theorem dX6_openAt_12 : decode cX6_openAt 12 = .ok (.istore_n 3, 1) := by decide +kernel
theorem dX6_openAt_13 : decode cX6_openAt 13 = .ok (.iload_n 3, 1) := by decide +kernel
theorem dX6_openAt_14 : decode cX6_openAt 14 = .ok (.aload_n 0, 1) := by decide +kernel
theorem dX6_openAt_15 : decode cX6_openAt 15 = .ok (.getfield 33, 3) := by decide +kernel
theorem dX6_openAt_18 : decode cX6_openAt 18 = .ok (.if_icmp .ge 74, 3) := by decide +kernel
theorem dX6_openAt_21 : decode cX6_openAt 21 = .ok (.iload_n 3, 1) := by decide +kernel
theorem dX6_openAt_22 : decode cX6_openAt 22 = .ok (.iconst 4, 1) := by decide +kernel
theorem dX6_openAt_23 : decode cX6_openAt 23 = .ok (.if_icmp .ge 69, 3) := by decide +kernel
theorem dX6_openAt_26 : decode cX6_openAt 26 = .ok (.iload_n 3, 1) := by decide +kernel
theorem dX6_openAt_27 : decode cX6_openAt 27 = .ok (.iconst 4, 1) := by decide +kernel
theorem dX6_openAt_28 : decode cX6_openAt 28 = .ok (.imul, 1) := by decide +kernel
theorem dX6_openAt_29 : decode cX6_openAt 29 = .ok (.istore 4, 2) := by decide +kernel
theorem dX6_openAt_31 : decode cX6_openAt 31 = .ok (.aload_n 0, 1) := by decide +kernel
theorem dX6_openAt_32 : decode cX6_openAt 32 = .ok (.getfield 18, 3) := by decide +kernel
theorem dX6_openAt_35 : decode cX6_openAt 35 = .ok (.iload 4, 2) := by decide +kernel
theorem dX6_openAt_37 : decode cX6_openAt 37 = .ok (.iconst 1, 1) := by decide +kernel
theorem dX6_openAt_38 : decode cX6_openAt 38 = .ok (.iadd, 1) := by decide +kernel
theorem dX6_openAt_39 : decode cX6_openAt 39 = .ok (.iaload, 1) := by decide +kernel
theorem dX6_openAt_40 : decode cX6_openAt 40 = .ok (.istore 5, 2) := by decide +kernel
theorem dX6_openAt_42 : decode cX6_openAt 42 = .ok (.iload_n 1, 1) := by decide +kernel
theorem dX6_openAt_43 : decode cX6_openAt 43 = .ok (.iload 5, 2) := by decide +kernel
theorem dX6_openAt_45 : decode cX6_openAt 45 = .ok (.if_icmp .lt 41, 3) := by decide +kernel
theorem dX6_openAt_48 : decode cX6_openAt 48 = .ok (.iload_n 1, 1) := by decide +kernel
theorem dX6_openAt_49 : decode cX6_openAt 49 = .ok (.iload 5, 2) := by decide +kernel
theorem dX6_openAt_51 : decode cX6_openAt 51 = .ok (.aload_n 0, 1) := by decide +kernel
theorem dX6_openAt_52 : decode cX6_openAt 52 = .ok (.getfield 18, 3) := by decide +kernel
theorem dX6_openAt_55 : decode cX6_openAt 55 = .ok (.iload 4, 2) := by decide +kernel
theorem dX6_openAt_57 : decode cX6_openAt 57 = .ok (.iconst 3, 1) := by decide +kernel
theorem dX6_openAt_58 : decode cX6_openAt 58 = .ok (.iadd, 1) := by decide +kernel
theorem dX6_openAt_59 : decode cX6_openAt 59 = .ok (.iaload, 1) := by decide +kernel
theorem dX6_openAt_60 : decode cX6_openAt 60 = .ok (.iadd, 1) := by decide +kernel
theorem dX6_openAt_61 : decode cX6_openAt 61 = .ok (.if_icmp .ge 25, 3) := by decide +kernel
theorem dX6_openAt_64 : decode cX6_openAt 64 = .ok (.iload_n 2, 1) := by decide +kernel
theorem dX6_openAt_65 : decode cX6_openAt 65 = .ok (.aload_n 0, 1) := by decide +kernel
theorem dX6_openAt_66 : decode cX6_openAt 66 = .ok (.getfield 18, 3) := by decide +kernel
theorem dX6_openAt_69 : decode cX6_openAt 69 = .ok (.iload 4, 2) := by decide +kernel
theorem dX6_openAt_71 : decode cX6_openAt 71 = .ok (.iaload, 1) := by decide +kernel
theorem dX6_openAt_72 : decode cX6_openAt 72 = .ok (.aload_n 0, 1) := by decide +kernel
theorem dX6_openAt_73 : decode cX6_openAt 73 = .ok (.getfield 18, 3) := by decide +kernel
theorem dX6_openAt_76 : decode cX6_openAt 76 = .ok (.iload 4, 2) := by decide +kernel
theorem dX6_openAt_78 : decode cX6_openAt 78 = .ok (.iconst 2, 1) := by decide +kernel
theorem dX6_openAt_79 : decode cX6_openAt 79 = .ok (.iadd, 1) := by decide +kernel
theorem dX6_openAt_80 : decode cX6_openAt 80 = .ok (.iaload, 1) := by decide +kernel
theorem dX6_openAt_81 : decode cX6_openAt 81 = .ok (.invokestatic 58, 3) := by decide +kernel
theorem dX6_openAt_84 : decode cX6_openAt 84 = .ok (.ior, 1) := by decide +kernel
theorem dX6_openAt_85 : decode cX6_openAt 85 = .ok (.istore_n 2, 1) := by decide +kernel
theorem dX6_openAt_86 : decode cX6_openAt 86 = .ok (.iinc 3 1, 3) := by decide +kernel
theorem dX6_openAt_89 : decode cX6_openAt 89 = .ok (.goto (-76), 3) := by decide +kernel
theorem dX6_openAt_92 : decode cX6_openAt 92 = .ok (.iload_n 2, 1) := by decide +kernel
theorem dX6_openAt_93 : decode cX6_openAt 93 = .ok (.ireturn, 1) := by decide +kernel
theorem dX6_isOpen_0 : decode cX6_isOpen 0 = .ok (.iload_n 1, 1) := by decide +kernel
theorem dX6_isOpen_1 : decode cX6_isOpen 1 = .ok (.iload_n 2, 1) := by decide +kernel
theorem dX6_isOpen_2 : decode cX6_isOpen 2 = .ok (.invokestatic 45, 3) := by decide +kernel
theorem dX6_isOpen_5 : decode cX6_isOpen 5 = .ok (.ifCond .eq 20, 3) := by decide +kernel
theorem dX6_isOpen_8 : decode cX6_isOpen 8 = .ok (.aload_n 0, 1) := by decide +kernel
theorem dX6_isOpen_9 : decode cX6_isOpen 9 = .ok (.iload_n 2, 1) := by decide +kernel
theorem dX6_isOpen_10 : decode cX6_isOpen 10 = .ok (.invokevirtual 61, 3) := by decide +kernel
theorem dX6_isOpen_13 : decode cX6_isOpen 13 = .ok (.iload_n 1, 1) := by decide +kernel
theorem dX6_isOpen_14 : decode cX6_isOpen 14 = .ok (.invokestatic 53, 3) := by decide +kernel
theorem dX6_isOpen_17 : decode cX6_isOpen 17 = .ok (.iand, 1) := by decide +kernel
theorem dX6_isOpen_18 : decode cX6_isOpen 18 = .ok (.ifCond .eq 7, 3) := by decide +kernel
theorem dX6_isOpen_21 : decode cX6_isOpen 21 = .ok (.iconst 1, 1) := by decide +kernel
theorem dX6_isOpen_22 : decode cX6_isOpen 22 = .ok (.goto 4, 3) := by decide +kernel
theorem dX6_isOpen_25 : decode cX6_isOpen 25 = .ok (.iconst 0, 1) := by decide +kernel
theorem dX6_isOpen_26 : decode cX6_isOpen 26 = .ok (.ireturn, 1) := by decide +kernel
theorem dX6_opens_0 : decode cX6_opens 0 = .ok (.aload_n 0, 1) := by decide +kernel
theorem dX6_opens_1 : decode cX6_opens 1 = .ok (.getfield 33, 3) := by decide +kernel
theorem dX6_opens_4 : decode cX6_opens 4 = .ok (.iconst 4, 1) := by decide +kernel
theorem dX6_opens_5 : decode cX6_opens 5 = .ok (.if_icmp .lt 4, 3) := by decide +kernel
theorem dX6_opens_8 : decode cX6_opens 8 = .ok (.return_, 1) := by decide +kernel
theorem dX6_opens_9 : decode cX6_opens 9 = .ok (.aload_n 0, 1) := by decide +kernel
theorem dX6_opens_10 : decode cX6_opens 10 = .ok (.getfield 33, 3) := by decide +kernel
theorem dX6_opens_13 : decode cX6_opens 13 = .ok (.iconst 4, 1) := by decide +kernel
theorem dX6_opens_14 : decode cX6_opens 14 = .ok (.imul, 1) := by decide +kernel
theorem dX6_opens_15 : decode cX6_opens 15 = .ok (.istore 5, 2) := by decide +kernel
theorem dX6_opens_17 : decode cX6_opens 17 = .ok (.aload_n 0, 1) := by decide +kernel
theorem dX6_opens_18 : decode cX6_opens 18 = .ok (.getfield 18, 3) := by decide +kernel
theorem dX6_opens_21 : decode cX6_opens 21 = .ok (.iload 5, 2) := by decide +kernel
theorem dX6_opens_23 : decode cX6_opens 23 = .ok (.iload_n 1, 1) := by decide +kernel
theorem dX6_opens_24 : decode cX6_opens 24 = .ok (.iastore, 1) := by decide +kernel
theorem dX6_opens_25 : decode cX6_opens 25 = .ok (.aload_n 0, 1) := by decide +kernel
theorem dX6_opens_26 : decode cX6_opens 26 = .ok (.getfield 18, 3) := by decide +kernel
theorem dX6_opens_29 : decode cX6_opens 29 = .ok (.iload 5, 2) := by decide +kernel
theorem dX6_opens_31 : decode cX6_opens 31 = .ok (.iconst 1, 1) := by decide +kernel
theorem dX6_opens_32 : decode cX6_opens 32 = .ok (.iadd, 1) := by decide +kernel
theorem dX6_opens_33 : decode cX6_opens 33 = .ok (.iload_n 2, 1) := by decide +kernel
theorem dX6_opens_34 : decode cX6_opens 34 = .ok (.iastore, 1) := by decide +kernel
theorem dX6_opens_35 : decode cX6_opens 35 = .ok (.aload_n 0, 1) := by decide +kernel
theorem dX6_opens_36 : decode cX6_opens 36 = .ok (.getfield 18, 3) := by decide +kernel
theorem dX6_opens_39 : decode cX6_opens 39 = .ok (.iload 5, 2) := by decide +kernel
theorem dX6_opens_41 : decode cX6_opens 41 = .ok (.iconst 2, 1) := by decide +kernel
theorem dX6_opens_42 : decode cX6_opens 42 = .ok (.iadd, 1) := by decide +kernel
theorem dX6_opens_43 : decode cX6_opens 43 = .ok (.iload_n 3, 1) := by decide +kernel
theorem dX6_opens_44 : decode cX6_opens 44 = .ok (.iastore, 1) := by decide +kernel
theorem dX6_opens_45 : decode cX6_opens 45 = .ok (.aload_n 0, 1) := by decide +kernel
theorem dX6_opens_46 : decode cX6_opens 46 = .ok (.getfield 18, 3) := by decide +kernel
theorem dX6_opens_49 : decode cX6_opens 49 = .ok (.iload 5, 2) := by decide +kernel
theorem dX6_opens_51 : decode cX6_opens 51 = .ok (.iconst 3, 1) := by decide +kernel
theorem dX6_opens_52 : decode cX6_opens 52 = .ok (.iadd, 1) := by decide +kernel
theorem dX6_opens_53 : decode cX6_opens 53 = .ok (.iload 4, 2) := by decide +kernel
theorem dX6_opens_55 : decode cX6_opens 55 = .ok (.iastore, 1) := by decide +kernel
theorem dX6_opens_56 : decode cX6_opens 56 = .ok (.aload_n 0, 1) := by decide +kernel
theorem dX6_opens_57 : decode cX6_opens 57 = .ok (.dup, 1) := by decide +kernel
theorem dX6_opens_58 : decode cX6_opens 58 = .ok (.getfield 33, 3) := by decide +kernel
theorem dX6_opens_61 : decode cX6_opens 61 = .ok (.iconst 1, 1) := by decide +kernel
theorem dX6_opens_62 : decode cX6_opens 62 = .ok (.iadd, 1) := by decide +kernel
theorem dX6_opens_63 : decode cX6_opens 63 = .ok (.putfield 33, 3) := by decide +kernel
theorem dX6_opens_66 : decode cX6_opens 66 = .ok (.return_, 1) := by decide +kernel
theorem dX6_joinsRow_0 : decode cX6_joinsRow 0 = .ok (.iload_n 3, 1) := by decide +kernel
theorem dX6_joinsRow_1 : decode cX6_joinsRow 1 = .ok (.aload_n 0, 1) := by decide +kernel
theorem dX6_joinsRow_2 : decode cX6_joinsRow 2 = .ok (.iload_n 2, 1) := by decide +kernel
theorem dX6_joinsRow_3 : decode cX6_joinsRow 3 = .ok (.invokevirtual 61, 3) := by decide +kernel
theorem dX6_joinsRow_6 : decode cX6_joinsRow 6 = .ok (.iand, 1) := by decide +kernel
theorem dX6_joinsRow_7 : decode cX6_joinsRow 7 = .ok (.istore 6, 2) := by decide +kernel
theorem dX6_joinsRow_9 : decode cX6_joinsRow 9 = .ok (.iload 6, 2) := by decide +kernel
theorem dX6_joinsRow_11 : decode cX6_joinsRow 11 = .ok (.ifCond .ne 5, 3) := by decide +kernel
theorem dX6_joinsRow_14 : decode cX6_joinsRow 14 = .ok (.iconst 0, 1) := by decide +kernel
theorem dX6_joinsRow_15 : decode cX6_joinsRow 15 = .ok (.ireturn, 1) := by decide +kernel
theorem dX6_joinsRow_16 : decode cX6_joinsRow 16 = .ok (.aload_n 0, 1) := by decide +kernel
theorem dX6_joinsRow_17 : decode cX6_joinsRow 17 = .ok (.iload_n 1, 1) := by decide +kernel
theorem dX6_joinsRow_18 : decode cX6_joinsRow 18 = .ok (.iload_n 2, 1) := by decide +kernel
theorem dX6_joinsRow_19 : decode cX6_joinsRow 19 = .ok (.invokevirtual 49, 3) := by decide +kernel
theorem dX6_joinsRow_22 : decode cX6_joinsRow 22 = .ok (.istore 7, 2) := by decide +kernel
theorem dX6_joinsRow_24 : decode cX6_joinsRow 24 = .ok (.iload 4, 2) := by decide +kernel
theorem dX6_joinsRow_26 : decode cX6_joinsRow 26 = .ok (.aload_n 0, 1) := by decide +kernel
theorem dX6_joinsRow_27 : decode cX6_joinsRow 27 = .ok (.iload_n 2, 1) := by decide +kernel
theorem dX6_joinsRow_28 : decode cX6_joinsRow 28 = .ok (.invokevirtual 64, 3) := by decide +kernel
theorem dX6_joinsRow_31 : decode cX6_joinsRow 31 = .ok (.iload 7, 2) := by decide +kernel
theorem dX6_joinsRow_33 : decode cX6_joinsRow 33 = .ok (.iload 5, 2) := by decide +kernel
theorem dX6_joinsRow_35 : decode cX6_joinsRow 35 = .ok (.invokestatic 67, 3) := by decide +kernel
theorem dX6_joinsRow_38 : decode cX6_joinsRow 38 = .ok (.istore 8, 2) := by decide +kernel
theorem dX6_joinsRow_40 : decode cX6_joinsRow 40 = .ok (.aload_n 0, 1) := by decide +kernel
theorem dX6_joinsRow_41 : decode cX6_joinsRow 41 = .ok (.iload_n 1, 1) := by decide +kernel
theorem dX6_joinsRow_42 : decode cX6_joinsRow 42 = .ok (.iload_n 2, 1) := by decide +kernel
theorem dX6_joinsRow_43 : decode cX6_joinsRow 43 = .ok (.iload 8, 2) := by decide +kernel
theorem dX6_joinsRow_45 : decode cX6_joinsRow 45 = .ok (.iload 7, 2) := by decide +kernel
theorem dX6_joinsRow_47 : decode cX6_joinsRow 47 = .ok (.ixor, 1) := by decide +kernel
theorem dX6_joinsRow_48 : decode cX6_joinsRow 48 = .ok (.iload 6, 2) := by decide +kernel
theorem dX6_joinsRow_50 : decode cX6_joinsRow 50 = .ok (.iand, 1) := by decide +kernel
theorem dX6_joinsRow_51 : decode cX6_joinsRow 51 = .ok (.invokevirtual 71, 3) := by decide +kernel
theorem dX6_joinsRow_54 : decode cX6_joinsRow 54 = .ok (.ireturn, 1) := by decide +kernel
theorem dX6_turnsDots_0 : decode cX6_turnsDots 0 = .ok (.iload_n 1, 1) := by decide +kernel
theorem dX6_turnsDots_1 : decode cX6_turnsDots 1 = .ok (.invokestatic 37, 3) := by decide +kernel
theorem dX6_turnsDots_4 : decode cX6_turnsDots 4 = .ok (.ifCond .eq 13, 3) := by decide +kernel
theorem dX6_turnsDots_7 : decode cX6_turnsDots 7 = .ok (.iload_n 2, 1) := by decide +kernel
theorem dX6_turnsDots_8 : decode cX6_turnsDots 8 = .ok (.iconst 0, 1) := by decide +kernel
theorem dX6_turnsDots_9 : decode cX6_turnsDots 9 = .ok (.bipush 23, 2) := by decide +kernel
theorem dX6_turnsDots_11 : decode cX6_turnsDots 11 = .ok (.invokestatic 41, 3) := by decide +kernel
theorem dX6_turnsDots_14 : decode cX6_turnsDots 14 = .ok (.ifCond .ne 5, 3) := by decide +kernel
theorem dX6_turnsDots_17 : decode cX6_turnsDots 17 = .ok (.iconst 0, 1) := by decide +kernel
theorem dX6_turnsDots_18 : decode cX6_turnsDots 18 = .ok (.ireturn, 1) := by decide +kernel
theorem dX6_turnsDots_19 : decode cX6_turnsDots 19 = .ok (.aload_n 0, 1) := by decide +kernel
theorem dX6_turnsDots_20 : decode cX6_turnsDots 20 = .ok (.getfield 9, 3) := by decide +kernel
theorem dX6_turnsDots_23 : decode cX6_turnsDots 23 = .ok (.iload_n 1, 1) := by decide +kernel
theorem dX6_turnsDots_24 : decode cX6_turnsDots 24 = .ok (.bipush 24, 2) := by decide +kernel
theorem dX6_turnsDots_26 : decode cX6_turnsDots 26 = .ok (.imul, 1) := by decide +kernel
theorem dX6_turnsDots_27 : decode cX6_turnsDots 27 = .ok (.iload_n 2, 1) := by decide +kernel
theorem dX6_turnsDots_28 : decode cX6_turnsDots 28 = .ok (.iadd, 1) := by decide +kernel
theorem dX6_turnsDots_29 : decode cX6_turnsDots 29 = .ok (.dup2, 1) := by decide +kernel
theorem dX6_turnsDots_30 : decode cX6_turnsDots 30 = .ok (.iaload, 1) := by decide +kernel
theorem dX6_turnsDots_31 : decode cX6_turnsDots 31 = .ok (.iload_n 3, 1) := by decide +kernel
theorem dX6_turnsDots_32 : decode cX6_turnsDots 32 = .ok (.ixor, 1) := by decide +kernel
theorem dX6_turnsDots_33 : decode cX6_turnsDots 33 = .ok (.iastore, 1) := by decide +kernel
theorem dX6_turnsDots_34 : decode cX6_turnsDots 34 = .ok (.iload_n 3, 1) := by decide +kernel
theorem dX6_turnsDots_35 : decode cX6_turnsDots 35 = .ok (.invokestatic 75, 3) := by decide +kernel
theorem dX6_turnsDots_38 : decode cX6_turnsDots 38 = .ok (.ireturn, 1) := by decide +kernel
theorem dX6_mixedInto_0 : decode cX6_mixedInto 0 = .ok (.lload_n 1, 1) := by decide +kernel
theorem dX6_mixedInto_1 : decode cX6_mixedInto 1 = .ok (.lstore_n 3, 1) := by decide +kernel
theorem dX6_mixedInto_2 : decode cX6_mixedInto 2 = .ok (.iconst 0, 1) := by decide +kernel
theorem dX6_mixedInto_3 : decode cX6_mixedInto 3 = .ok (.istore 5, 2) := by decide +kernel
theorem dX6_mixedInto_5 : decode cX6_mixedInto 5 = .ok (.iload 5, 2) := by decide +kernel
theorem dX6_mixedInto_7 : decode cX6_mixedInto 7 = .ok (.aload_n 0, 1) := by decide +kernel
theorem dX6_mixedInto_8 : decode cX6_mixedInto 8 = .ok (.getfield 9, 3) := by decide +kernel
theorem dX6_mixedInto_11 : decode cX6_mixedInto 11 = .ok (.arraylength, 1) := by decide +kernel
theorem dX6_mixedInto_12 : decode cX6_mixedInto 12 = .ok (.if_icmp .ge 24, 3) := by decide +kernel
theorem dX6_mixedInto_15 : decode cX6_mixedInto 15 = .ok (.ldc2_w 80, 3) := by decide +kernel
theorem dX6_mixedInto_18 : decode cX6_mixedInto 18 = .ok (.lload_n 3, 1) := by decide +kernel
theorem dX6_mixedInto_19 : decode cX6_mixedInto 19 = .ok (.lmul, 1) := by decide +kernel
theorem dX6_mixedInto_20 : decode cX6_mixedInto 20 = .ok (.aload_n 0, 1) := by decide +kernel
theorem dX6_mixedInto_21 : decode cX6_mixedInto 21 = .ok (.getfield 9, 3) := by decide +kernel
theorem dX6_mixedInto_24 : decode cX6_mixedInto 24 = .ok (.iload 5, 2) := by decide +kernel
theorem dX6_mixedInto_26 : decode cX6_mixedInto 26 = .ok (.iaload, 1) := by decide +kernel
theorem dX6_mixedInto_27 : decode cX6_mixedInto 27 = .ok (.i2l, 1) := by decide +kernel
theorem dX6_mixedInto_28 : decode cX6_mixedInto 28 = .ok (.ladd, 1) := by decide +kernel
theorem dX6_mixedInto_29 : decode cX6_mixedInto 29 = .ok (.lstore_n 3, 1) := by decide +kernel
theorem dX6_mixedInto_30 : decode cX6_mixedInto 30 = .ok (.iinc 5 1, 3) := by decide +kernel
theorem dX6_mixedInto_33 : decode cX6_mixedInto 33 = .ok (.goto (-28), 3) := by decide +kernel
theorem dX6_mixedInto_36 : decode cX6_mixedInto 36 = .ok (.iconst 0, 1) := by decide +kernel
theorem dX6_mixedInto_37 : decode cX6_mixedInto 37 = .ok (.istore 5, 2) := by decide +kernel
theorem dX6_mixedInto_39 : decode cX6_mixedInto 39 = .ok (.iload 5, 2) := by decide +kernel
theorem dX6_mixedInto_41 : decode cX6_mixedInto 41 = .ok (.bipush 8, 2) := by decide +kernel
theorem dX6_mixedInto_43 : decode cX6_mixedInto 43 = .ok (.if_icmp .ge 24, 3) := by decide +kernel
theorem dX6_mixedInto_46 : decode cX6_mixedInto 46 = .ok (.ldc2_w 80, 3) := by decide +kernel
theorem dX6_mixedInto_49 : decode cX6_mixedInto 49 = .ok (.lload_n 3, 1) := by decide +kernel
theorem dX6_mixedInto_50 : decode cX6_mixedInto 50 = .ok (.lmul, 1) := by decide +kernel
theorem dX6_mixedInto_51 : decode cX6_mixedInto 51 = .ok (.aload_n 0, 1) := by decide +kernel
theorem dX6_mixedInto_52 : decode cX6_mixedInto 52 = .ok (.getfield 15, 3) := by decide +kernel
theorem dX6_mixedInto_55 : decode cX6_mixedInto 55 = .ok (.iload 5, 2) := by decide +kernel
theorem dX6_mixedInto_57 : decode cX6_mixedInto 57 = .ok (.iaload, 1) := by decide +kernel
theorem dX6_mixedInto_58 : decode cX6_mixedInto 58 = .ok (.i2l, 1) := by decide +kernel
theorem dX6_mixedInto_59 : decode cX6_mixedInto 59 = .ok (.ladd, 1) := by decide +kernel
theorem dX6_mixedInto_60 : decode cX6_mixedInto 60 = .ok (.lstore_n 3, 1) := by decide +kernel
theorem dX6_mixedInto_61 : decode cX6_mixedInto 61 = .ok (.iinc 5 1, 3) := by decide +kernel
theorem dX6_mixedInto_64 : decode cX6_mixedInto 64 = .ok (.goto (-25), 3) := by decide +kernel
theorem dX6_mixedInto_67 : decode cX6_mixedInto 67 = .ok (.iconst 0, 1) := by decide +kernel
theorem dX6_mixedInto_68 : decode cX6_mixedInto 68 = .ok (.istore 5, 2) := by decide +kernel
theorem dX6_mixedInto_70 : decode cX6_mixedInto 70 = .ok (.iload 5, 2) := by decide +kernel
theorem dX6_mixedInto_72 : decode cX6_mixedInto 72 = .ok (.aload_n 0, 1) := by decide +kernel
theorem dX6_mixedInto_73 : decode cX6_mixedInto 73 = .ok (.getfield 33, 3) := by decide +kernel
theorem dX6_mixedInto_76 : decode cX6_mixedInto 76 = .ok (.iconst 4, 1) := by decide +kernel
theorem dX6_mixedInto_77 : decode cX6_mixedInto 77 = .ok (.imul, 1) := by decide +kernel
theorem dX6_mixedInto_78 : decode cX6_mixedInto 78 = .ok (.if_icmp .ge 34, 3) := by decide +kernel
theorem dX6_mixedInto_81 : decode cX6_mixedInto 81 = .ok (.iload 5, 2) := by decide +kernel
theorem dX6_mixedInto_83 : decode cX6_mixedInto 83 = .ok (.aload_n 0, 1) := by decide +kernel
theorem dX6_mixedInto_84 : decode cX6_mixedInto 84 = .ok (.getfield 18, 3) := by decide +kernel
theorem dX6_mixedInto_87 : decode cX6_mixedInto 87 = .ok (.arraylength, 1) := by decide +kernel
theorem dX6_mixedInto_88 : decode cX6_mixedInto 88 = .ok (.if_icmp .ge 24, 3) := by decide +kernel
theorem dX6_mixedInto_91 : decode cX6_mixedInto 91 = .ok (.ldc2_w 80, 3) := by decide +kernel
theorem dX6_mixedInto_94 : decode cX6_mixedInto 94 = .ok (.lload_n 3, 1) := by decide +kernel
theorem dX6_mixedInto_95 : decode cX6_mixedInto 95 = .ok (.lmul, 1) := by decide +kernel
theorem dX6_mixedInto_96 : decode cX6_mixedInto 96 = .ok (.aload_n 0, 1) := by decide +kernel
theorem dX6_mixedInto_97 : decode cX6_mixedInto 97 = .ok (.getfield 18, 3) := by decide +kernel
theorem dX6_mixedInto_100 : decode cX6_mixedInto 100 = .ok (.iload 5, 2) := by decide +kernel
theorem dX6_mixedInto_102 : decode cX6_mixedInto 102 = .ok (.iaload, 1) := by decide +kernel
theorem dX6_mixedInto_103 : decode cX6_mixedInto 103 = .ok (.i2l, 1) := by decide +kernel
theorem dX6_mixedInto_104 : decode cX6_mixedInto 104 = .ok (.ladd, 1) := by decide +kernel
theorem dX6_mixedInto_105 : decode cX6_mixedInto 105 = .ok (.lstore_n 3, 1) := by decide +kernel
theorem dX6_mixedInto_106 : decode cX6_mixedInto 106 = .ok (.iinc 5 1, 3) := by decide +kernel
theorem dX6_mixedInto_109 : decode cX6_mixedInto 109 = .ok (.goto (-39), 3) := by decide +kernel
theorem dX6_mixedInto_112 : decode cX6_mixedInto 112 = .ok (.lload_n 3, 1) := by decide +kernel
theorem dX6_mixedInto_113 : decode cX6_mixedInto 113 = .ok (.lreturn, 1) := by decide +kernel
theorem dX7_init_0 : decode cX7_init 0 = .ok (.aload_n 0, 1) := by decide +kernel
theorem dX7_init_1 : decode cX7_init 1 = .ok (.invokespecial 3, 3) := by decide +kernel
theorem dX7_init_4 : decode cX7_init 4 = .ok (.aload_n 0, 1) := by decide +kernel
theorem dX7_init_5 : decode cX7_init 5 = .ok (.bipush 24, 2) := by decide +kernel
theorem dX7_init_7 : decode cX7_init 7 = .ok (.newarray .int, 2) := by decide +kernel
theorem dX7_init_9 : decode cX7_init 9 = .ok (.putfield 9, 3) := by decide +kernel
theorem dX7_init_12 : decode cX7_init 12 = .ok (.aload_n 0, 1) := by decide +kernel
theorem dX7_init_13 : decode cX7_init 13 = .ok (.aload_n 1, 1) := by decide +kernel
theorem dX7_init_14 : decode cX7_init 14 = .ok (.putfield 15, 3) := by decide +kernel
theorem dX7_init_17 : decode cX7_init 17 = .ok (.return_, 1) := by decide +kernel
theorem dX7_drawn_0 : decode cX7_drawn 0 = .ok (.iload_n 2, 1) := by decide +kernel
theorem dX7_drawn_1 : decode cX7_drawn 1 = .ok (.i2l, 1) := by decide +kernel
theorem dX7_drawn_2 : decode cX7_drawn 2 = .ok (.lstore_n 3, 1) := by decide +kernel
theorem dX7_drawn_3 : decode cX7_drawn 3 = .ok (.iconst 0, 1) := by decide +kernel
theorem dX7_drawn_4 : decode cX7_drawn 4 = .ok (.istore 5, 2) := by decide +kernel
theorem dX7_drawn_6 : decode cX7_drawn 6 = .ok (.iload 5, 2) := by decide +kernel
theorem dX7_drawn_8 : decode cX7_drawn 8 = .ok (.bipush 24, 2) := by decide +kernel
theorem dX7_drawn_10 : decode cX7_drawn 10 = .ok (.if_icmp .ge 61, 3) := by decide +kernel
theorem dX7_drawn_13 : decode cX7_drawn 13 = .ok (.lload_n 3, 1) := by decide +kernel
theorem dX7_drawn_14 : decode cX7_drawn 14 = .ok (.invokestatic 19, 3) := by decide +kernel
theorem dX7_drawn_17 : decode cX7_drawn 17 = .ok (.lstore_n 3, 1) := by decide +kernel
theorem dX7_drawn_18 : decode cX7_drawn 18 = .ok (.lload_n 3, 1) := by decide +kernel
theorem dX7_drawn_19 : decode cX7_drawn 19 = .ok (.ldc2_w 23, 3) := by decide +kernel
theorem dX7_drawn_22 : decode cX7_drawn 22 = .ok (.ldiv, 1) := by decide +kernel
theorem dX7_drawn_23 : decode cX7_drawn 23 = .ok (.ldc2_w 25, 3) := by decide +kernel
theorem dX7_drawn_26 : decode cX7_drawn 26 = .ok (.lrem, 1) := by decide +kernel
theorem dX7_drawn_27 : decode cX7_drawn 27 = .ok (.l2i, 1) := by decide +kernel
theorem dX7_drawn_28 : decode cX7_drawn 28 = .ok (.istore 6, 2) := by decide +kernel
theorem dX7_drawn_30 : decode cX7_drawn 30 = .ok (.lload_n 3, 1) := by decide +kernel
theorem dX7_drawn_31 : decode cX7_drawn 31 = .ok (.invokestatic 19, 3) := by decide +kernel
theorem dX7_drawn_34 : decode cX7_drawn 34 = .ok (.lstore_n 3, 1) := by decide +kernel
theorem dX7_drawn_35 : decode cX7_drawn 35 = .ok (.lload_n 3, 1) := by decide +kernel
theorem dX7_drawn_36 : decode cX7_drawn 36 = .ok (.ldc2_w 23, 3) := by decide +kernel
theorem dX7_drawn_39 : decode cX7_drawn 39 = .ok (.ldiv, 1) := by decide +kernel
theorem dX7_drawn_40 : decode cX7_drawn 40 = .ok (.ldc2_w 25, 3) := by decide +kernel
theorem dX7_drawn_43 : decode cX7_drawn 43 = .ok (.lrem, 1) := by decide +kernel
theorem dX7_drawn_44 : decode cX7_drawn 44 = .ok (.l2i, 1) := by decide +kernel
theorem dX7_drawn_45 : decode cX7_drawn 45 = .ok (.istore 7, 2) := by decide +kernel
theorem dX7_drawn_47 : decode cX7_drawn 47 = .ok (.aload_n 0, 1) := by decide +kernel
theorem dX7_drawn_48 : decode cX7_drawn 48 = .ok (.getfield 15, 3) := by decide +kernel
theorem dX7_drawn_51 : decode cX7_drawn 51 = .ok (.iload_n 1, 1) := by decide +kernel
theorem dX7_drawn_52 : decode cX7_drawn 52 = .ok (.iload 5, 2) := by decide +kernel
theorem dX7_drawn_54 : decode cX7_drawn 54 = .ok (.iload 6, 2) := by decide +kernel
theorem dX7_drawn_56 : decode cX7_drawn 56 = .ok (.bipush 16, 2) := by decide +kernel
theorem dX7_drawn_58 : decode cX7_drawn 58 = .ok (.ishl, 1) := by decide +kernel
theorem dX7_drawn_59 : decode cX7_drawn 59 = .ok (.iload 7, 2) := by decide +kernel
theorem dX7_drawn_61 : decode cX7_drawn 61 = .ok (.ior, 1) := by decide +kernel
theorem dX7_drawn_62 : decode cX7_drawn 62 = .ok (.invokevirtual 27, 3) := by decide +kernel
theorem dX7_drawn_65 : decode cX7_drawn 65 = .ok (.iinc 5 1, 3) := by decide +kernel
theorem dX7_drawn_68 : decode cX7_drawn 68 = .ok (.goto (-62), 3) := by decide +kernel
theorem dX7_drawn_71 : decode cX7_drawn 71 = .ok (.return_, 1) := by decide +kernel
theorem dX7_numberBehind_0 : decode cX7_numberBehind 0 = .ok (.lload_n 0, 1) := by decide +kernel
theorem dX7_numberBehind_1 : decode cX7_numberBehind 1 = .ok (.ldc2_w 33, 3) := by decide +kernel
theorem dX7_numberBehind_4 : decode cX7_numberBehind 4 = .ok (.lmul, 1) := by decide +kernel
theorem dX7_numberBehind_5 : decode cX7_numberBehind 5 = .ok (.ldc2_w 35, 3) := by decide +kernel
theorem dX7_numberBehind_8 : decode cX7_numberBehind 8 = .ok (.ladd, 1) := by decide +kernel
theorem dX7_numberBehind_9 : decode cX7_numberBehind 9 = .ok (.ldc2_w 37, 3) := by decide +kernel
theorem dX7_numberBehind_12 : decode cX7_numberBehind 12 = .ok (.lrem, 1) := by decide +kernel
theorem dX7_numberBehind_13 : decode cX7_numberBehind 13 = .ok (.lreturn, 1) := by decide +kernel
theorem dX7_joined_0 : decode cX7_joined 0 = .ok (.iconst 0, 1) := by decide +kernel
theorem dX7_joined_1 : decode cX7_joined 1 = .ok (.istore 4, 2) := by decide +kernel
theorem dX7_joined_3 : decode cX7_joined 3 = .ok (.iconst 0, 1) := by decide +kernel
theorem dX7_joined_4 : decode cX7_joined 4 = .ok (.istore 5, 2) := by decide +kernel
theorem dX7_joined_6 : decode cX7_joined 6 = .ok (.iload 5, 2) := by decide +kernel
theorem dX7_joined_8 : decode cX7_joined 8 = .ok (.bipush 24, 2) := by decide +kernel
theorem dX7_joined_10 : decode cX7_joined 10 = .ok (.if_icmp .ge 36, 3) := by decide +kernel
theorem dX7_joined_13 : decode cX7_joined 13 = .ok (.iload 4, 2) := by decide +kernel
theorem dX7_joined_15 : decode cX7_joined 15 = .ok (.aload_n 0, 1) := by decide +kernel
theorem dX7_joined_16 : decode cX7_joined 16 = .ok (.getfield 15, 3) := by decide +kernel
theorem dX7_joined_19 : decode cX7_joined 19 = .ok (.iload_n 2, 1) := by decide +kernel
theorem dX7_joined_20 : decode cX7_joined 20 = .ok (.iload 5, 2) := by decide +kernel
theorem dX7_joined_22 : decode cX7_joined 22 = .ok (.iconst (-1), 1) := by decide +kernel
theorem dX7_joined_23 : decode cX7_joined 23 = .ok (.aload_n 0, 1) := by decide +kernel
theorem dX7_joined_24 : decode cX7_joined 24 = .ok (.getfield 15, 3) := by decide +kernel
theorem dX7_joined_27 : decode cX7_joined 27 = .ok (.iload_n 1, 1) := by decide +kernel
theorem dX7_joined_28 : decode cX7_joined 28 = .ok (.iload 5, 2) := by decide +kernel
theorem dX7_joined_30 : decode cX7_joined 30 = .ok (.invokevirtual 39, 3) := by decide +kernel
theorem dX7_joined_33 : decode cX7_joined 33 = .ok (.iload_n 3, 1) := by decide +kernel
theorem dX7_joined_34 : decode cX7_joined 34 = .ok (.invokevirtual 43, 3) := by decide +kernel
theorem dX7_joined_37 : decode cX7_joined 37 = .ok (.iadd, 1) := by decide +kernel
theorem dX7_joined_38 : decode cX7_joined 38 = .ok (.istore 4, 2) := by decide +kernel
theorem dX7_joined_40 : decode cX7_joined 40 = .ok (.iinc 5 1, 3) := by decide +kernel
theorem dX7_joined_43 : decode cX7_joined 43 = .ok (.goto (-37), 3) := by decide +kernel
theorem dX7_joined_46 : decode cX7_joined 46 = .ok (.iload 4, 2) := by decide +kernel
theorem dX7_joined_48 : decode cX7_joined 48 = .ok (.ireturn, 1) := by decide +kernel
theorem dX7_changed_0 : decode cX7_changed 0 = .ok (.iconst 0, 1) := by decide +kernel
theorem dX7_changed_1 : decode cX7_changed 1 = .ok (.istore_n 3, 1) := by decide +kernel
theorem dX7_changed_2 : decode cX7_changed 2 = .ok (.iload_n 3, 1) := by decide +kernel
theorem dX7_changed_3 : decode cX7_changed 3 = .ok (.bipush 24, 2) := by decide +kernel
theorem dX7_changed_5 : decode cX7_changed 5 = .ok (.if_icmp .ge 22, 3) := by decide +kernel
theorem dX7_changed_8 : decode cX7_changed 8 = .ok (.aload_n 0, 1) := by decide +kernel
theorem dX7_changed_9 : decode cX7_changed 9 = .ok (.getfield 9, 3) := by decide +kernel
theorem dX7_changed_12 : decode cX7_changed 12 = .ok (.iload_n 3, 1) := by decide +kernel
theorem dX7_changed_13 : decode cX7_changed 13 = .ok (.aload_n 0, 1) := by decide +kernel
theorem dX7_changed_14 : decode cX7_changed 14 = .ok (.iload_n 1, 1) := by decide +kernel
theorem dX7_changed_15 : decode cX7_changed 15 = .ok (.iload_n 3, 1) := by decide +kernel
theorem dX7_changed_16 : decode cX7_changed 16 = .ok (.iload_n 2, 1) := by decide +kernel
theorem dX7_changed_17 : decode cX7_changed 17 = .ok (.invokevirtual 47, 3) := by decide +kernel
theorem dX7_changed_20 : decode cX7_changed 20 = .ok (.iastore, 1) := by decide +kernel
theorem dX7_changed_21 : decode cX7_changed 21 = .ok (.iinc 3 1, 3) := by decide +kernel
theorem dX7_changed_24 : decode cX7_changed 24 = .ok (.goto (-22), 3) := by decide +kernel
theorem dX7_changed_27 : decode cX7_changed 27 = .ok (.aload_n 0, 1) := by decide +kernel
theorem dX7_changed_28 : decode cX7_changed 28 = .ok (.iload_n 1, 1) := by decide +kernel
theorem dX7_changed_29 : decode cX7_changed 29 = .ok (.invokevirtual 51, 3) := by decide +kernel
theorem dX7_changed_32 : decode cX7_changed 32 = .ok (.ireturn, 1) := by decide +kernel
theorem dX7_rolled_0 : decode cX7_rolled 0 = .ok (.iconst 0, 1) := by decide +kernel
theorem dX7_rolled_1 : decode cX7_rolled 1 = .ok (.istore 4, 2) := by decide +kernel
theorem dX7_rolled_3 : decode cX7_rolled 3 = .ok (.iload 4, 2) := by decide +kernel
theorem dX7_rolled_5 : decode cX7_rolled 5 = .ok (.bipush 24, 2) := by decide +kernel
theorem dX7_rolled_7 : decode cX7_rolled 7 = .ok (.if_icmp .ge 61, 3) := by decide +kernel
theorem dX7_rolled_10 : decode cX7_rolled 10 = .ok (.aload_n 0, 1) := by decide +kernel
theorem dX7_rolled_11 : decode cX7_rolled 11 = .ok (.getfield 15, 3) := by decide +kernel
theorem dX7_rolled_14 : decode cX7_rolled 14 = .ok (.iload_n 1, 1) := by decide +kernel
theorem dX7_rolled_15 : decode cX7_rolled 15 = .ok (.iload 4, 2) := by decide +kernel
theorem dX7_rolled_17 : decode cX7_rolled 17 = .ok (.iload_n 3, 1) := by decide +kernel
theorem dX7_rolled_18 : decode cX7_rolled 18 = .ok (.isub, 1) := by decide +kernel
theorem dX7_rolled_19 : decode cX7_rolled 19 = .ok (.bipush 24, 2) := by decide +kernel
theorem dX7_rolled_21 : decode cX7_rolled 21 = .ok (.invokestatic 55, 3) := by decide +kernel
theorem dX7_rolled_24 : decode cX7_rolled 24 = .ok (.invokevirtual 39, 3) := by decide +kernel
theorem dX7_rolled_27 : decode cX7_rolled 27 = .ok (.istore 5, 2) := by decide +kernel
theorem dX7_rolled_29 : decode cX7_rolled 29 = .ok (.iload_n 2, 1) := by decide +kernel
theorem dX7_rolled_30 : decode cX7_rolled 30 = .ok (.bipush 32, 2) := by decide +kernel
theorem dX7_rolled_32 : decode cX7_rolled 32 = .ok (.invokestatic 55, 3) := by decide +kernel
theorem dX7_rolled_35 : decode cX7_rolled 35 = .ok (.istore 6, 2) := by decide +kernel
theorem dX7_rolled_37 : decode cX7_rolled 37 = .ok (.aload_n 0, 1) := by decide +kernel
theorem dX7_rolled_38 : decode cX7_rolled 38 = .ok (.getfield 9, 3) := by decide +kernel
theorem dX7_rolled_41 : decode cX7_rolled 41 = .ok (.iload 4, 2) := by decide +kernel
theorem dX7_rolled_43 : decode cX7_rolled 43 = .ok (.iload 5, 2) := by decide +kernel
theorem dX7_rolled_45 : decode cX7_rolled 45 = .ok (.iload 6, 2) := by decide +kernel
theorem dX7_rolled_47 : decode cX7_rolled 47 = .ok (.invokestatic 60, 3) := by decide +kernel
theorem dX7_rolled_50 : decode cX7_rolled 50 = .ok (.iload 5, 2) := by decide +kernel
theorem dX7_rolled_52 : decode cX7_rolled 52 = .ok (.iload 6, 2) := by decide +kernel
theorem dX7_rolled_54 : decode cX7_rolled 54 = .ok (.bipush 32, 2) := by decide +kernel
theorem dX7_rolled_56 : decode cX7_rolled 56 = .ok (.isub, 1) := by decide +kernel
theorem dX7_rolled_57 : decode cX7_rolled 57 = .ok (.invokestatic 60, 3) := by decide +kernel
theorem dX7_rolled_60 : decode cX7_rolled 60 = .ok (.ior, 1) := by decide +kernel
theorem dX7_rolled_61 : decode cX7_rolled 61 = .ok (.iastore, 1) := by decide +kernel
theorem dX7_rolled_62 : decode cX7_rolled 62 = .ok (.iinc 4 1, 3) := by decide +kernel
theorem dX7_rolled_65 : decode cX7_rolled 65 = .ok (.goto (-62), 3) := by decide +kernel
theorem dX7_rolled_68 : decode cX7_rolled 68 = .ok (.aload_n 0, 1) := by decide +kernel
theorem dX7_rolled_69 : decode cX7_rolled 69 = .ok (.iload_n 1, 1) := by decide +kernel
theorem dX7_rolled_70 : decode cX7_rolled 70 = .ok (.invokevirtual 51, 3) := by decide +kernel
theorem dX7_rolled_73 : decode cX7_rolled 73 = .ok (.ireturn, 1) := by decide +kernel
theorem dX7_changedRow_0 : decode cX7_changedRow 0 = .ok (.iload_n 3, 1) := by decide +kernel
theorem dX7_changedRow_1 : decode cX7_changedRow 1 = .ok (.tableswitch 71 0 3 #[31, 44, 57, 64], 31) := by decide +kernel
theorem dX7_changedRow_32 : decode cX7_changedRow 32 = .ok (.aload_n 0, 1) := by decide +kernel
theorem dX7_changedRow_33 : decode cX7_changedRow 33 = .ok (.getfield 15, 3) := by decide +kernel
theorem dX7_changedRow_36 : decode cX7_changedRow 36 = .ok (.iload_n 1, 1) := by decide +kernel
theorem dX7_changedRow_37 : decode cX7_changedRow 37 = .ok (.iload_n 2, 1) := by decide +kernel
theorem dX7_changedRow_38 : decode cX7_changedRow 38 = .ok (.invokevirtual 39, 3) := by decide +kernel
theorem dX7_changedRow_41 : decode cX7_changedRow 41 = .ok (.invokestatic 63, 3) := by decide +kernel
theorem dX7_changedRow_44 : decode cX7_changedRow 44 = .ok (.ireturn, 1) := by decide +kernel
theorem dX7_changedRow_45 : decode cX7_changedRow 45 = .ok (.aload_n 0, 1) := by decide +kernel
theorem dX7_changedRow_46 : decode cX7_changedRow 46 = .ok (.getfield 15, 3) := by decide +kernel
theorem dX7_changedRow_49 : decode cX7_changedRow 49 = .ok (.iload_n 1, 1) := by decide +kernel
theorem dX7_changedRow_50 : decode cX7_changedRow 50 = .ok (.bipush 23, 2) := by decide +kernel
theorem dX7_changedRow_52 : decode cX7_changedRow 52 = .ok (.iload_n 2, 1) := by decide +kernel
theorem dX7_changedRow_53 : decode cX7_changedRow 53 = .ok (.isub, 1) := by decide +kernel
theorem dX7_changedRow_54 : decode cX7_changedRow 54 = .ok (.invokevirtual 39, 3) := by decide +kernel
theorem dX7_changedRow_57 : decode cX7_changedRow 57 = .ok (.ireturn, 1) := by decide +kernel
theorem dX7_changedRow_58 : decode cX7_changedRow 58 = .ok (.aload_n 0, 1) := by decide +kernel
theorem dX7_changedRow_59 : decode cX7_changedRow 59 = .ok (.iload_n 1, 1) := by decide +kernel
theorem dX7_changedRow_60 : decode cX7_changedRow 60 = .ok (.iload_n 2, 1) := by decide +kernel
theorem dX7_changedRow_61 : decode cX7_changedRow 61 = .ok (.invokevirtual 66, 3) := by decide +kernel
theorem dX7_changedRow_64 : decode cX7_changedRow 64 = .ok (.ireturn, 1) := by decide +kernel
theorem dX7_changedRow_65 : decode cX7_changedRow 65 = .ok (.aload_n 0, 1) := by decide +kernel
theorem dX7_changedRow_66 : decode cX7_changedRow 66 = .ok (.iload_n 1, 1) := by decide +kernel
theorem dX7_changedRow_67 : decode cX7_changedRow 67 = .ok (.iload_n 2, 1) := by decide +kernel
theorem dX7_changedRow_68 : decode cX7_changedRow 68 = .ok (.invokevirtual 69, 3) := by decide +kernel
theorem dX7_changedRow_71 : decode cX7_changedRow 71 = .ok (.ireturn, 1) := by decide +kernel
theorem dX7_changedRow_72 : decode cX7_changedRow 72 = .ok (.aload_n 0, 1) := by decide +kernel
theorem dX7_changedRow_73 : decode cX7_changedRow 73 = .ok (.getfield 15, 3) := by decide +kernel
theorem dX7_changedRow_76 : decode cX7_changedRow 76 = .ok (.iload_n 1, 1) := by decide +kernel
theorem dX7_changedRow_77 : decode cX7_changedRow 77 = .ok (.iload_n 2, 1) := by decide +kernel
theorem dX7_changedRow_78 : decode cX7_changedRow 78 = .ok (.invokevirtual 39, 3) := by decide +kernel
theorem dX7_changedRow_81 : decode cX7_changedRow 81 = .ok (.aload_n 0, 1) := by decide +kernel
theorem dX7_changedRow_82 : decode cX7_changedRow 82 = .ok (.iload_n 1, 1) := by decide +kernel
theorem dX7_changedRow_83 : decode cX7_changedRow 83 = .ok (.iload_n 2, 1) := by decide +kernel
theorem dX7_changedRow_84 : decode cX7_changedRow 84 = .ok (.invokevirtual 69, 3) := by decide +kernel
theorem dX7_changedRow_87 : decode cX7_changedRow 87 = .ok (.iconst (-1), 1) := by decide +kernel
theorem dX7_changedRow_88 : decode cX7_changedRow 88 = .ok (.ixor, 1) := by decide +kernel
theorem dX7_changedRow_89 : decode cX7_changedRow 89 = .ok (.iand, 1) := by decide +kernel
theorem dX7_changedRow_90 : decode cX7_changedRow 90 = .ok (.ireturn, 1) := by decide +kernel
theorem dX7_grownRow_0 : decode cX7_grownRow 0 = .ok (.aload_n 0, 1) := by decide +kernel
theorem dX7_grownRow_1 : decode cX7_grownRow 1 = .ok (.getfield 15, 3) := by decide +kernel
theorem dX7_grownRow_4 : decode cX7_grownRow 4 = .ok (.iload_n 1, 1) := by decide +kernel
theorem dX7_grownRow_5 : decode cX7_grownRow 5 = .ok (.iload_n 2, 1) := by decide +kernel
theorem dX7_grownRow_6 : decode cX7_grownRow 6 = .ok (.invokevirtual 39, 3) := by decide +kernel
theorem dX7_grownRow_9 : decode cX7_grownRow 9 = .ok (.istore_n 3, 1) := by decide +kernel
theorem dX7_grownRow_10 : decode cX7_grownRow 10 = .ok (.iload_n 3, 1) := by decide +kernel
theorem dX7_grownRow_11 : decode cX7_grownRow 11 = .ok (.iload_n 3, 1) := by decide +kernel
theorem dX7_grownRow_12 : decode cX7_grownRow 12 = .ok (.iconst 1, 1) := by decide +kernel
theorem dX7_grownRow_13 : decode cX7_grownRow 13 = .ok (.ishl, 1) := by decide +kernel
theorem dX7_grownRow_14 : decode cX7_grownRow 14 = .ok (.ior, 1) := by decide +kernel
theorem dX7_grownRow_15 : decode cX7_grownRow 15 = .ok (.iload_n 3, 1) := by decide +kernel
theorem dX7_grownRow_16 : decode cX7_grownRow 16 = .ok (.iconst 1, 1) := by decide +kernel
theorem dX7_grownRow_17 : decode cX7_grownRow 17 = .ok (.iushr, 1) := by decide +kernel
theorem dX7_grownRow_18 : decode cX7_grownRow 18 = .ok (.ior, 1) := by decide +kernel
theorem dX7_grownRow_19 : decode cX7_grownRow 19 = .ok (.aload_n 0, 1) := by decide +kernel
theorem dX7_grownRow_20 : decode cX7_grownRow 20 = .ok (.getfield 15, 3) := by decide +kernel
theorem dX7_grownRow_23 : decode cX7_grownRow 23 = .ok (.iload_n 1, 1) := by decide +kernel
theorem dX7_grownRow_24 : decode cX7_grownRow 24 = .ok (.iload_n 2, 1) := by decide +kernel
theorem dX7_grownRow_25 : decode cX7_grownRow 25 = .ok (.iconst 1, 1) := by decide +kernel
theorem dX7_grownRow_26 : decode cX7_grownRow 26 = .ok (.isub, 1) := by decide +kernel
theorem dX7_grownRow_27 : decode cX7_grownRow 27 = .ok (.invokevirtual 39, 3) := by decide +kernel
theorem dX7_grownRow_30 : decode cX7_grownRow 30 = .ok (.ior, 1) := by decide +kernel
theorem dX7_grownRow_31 : decode cX7_grownRow 31 = .ok (.aload_n 0, 1) := by decide +kernel
theorem dX7_grownRow_32 : decode cX7_grownRow 32 = .ok (.getfield 15, 3) := by decide +kernel
theorem dX7_grownRow_35 : decode cX7_grownRow 35 = .ok (.iload_n 1, 1) := by decide +kernel
theorem dX7_grownRow_36 : decode cX7_grownRow 36 = .ok (.iload_n 2, 1) := by decide +kernel
theorem dX7_grownRow_37 : decode cX7_grownRow 37 = .ok (.iconst 1, 1) := by decide +kernel
theorem dX7_grownRow_38 : decode cX7_grownRow 38 = .ok (.iadd, 1) := by decide +kernel
theorem dX7_grownRow_39 : decode cX7_grownRow 39 = .ok (.invokevirtual 39, 3) := by decide +kernel
theorem dX7_grownRow_42 : decode cX7_grownRow 42 = .ok (.ior, 1) := by decide +kernel
theorem dX7_grownRow_43 : decode cX7_grownRow 43 = .ok (.ireturn, 1) := by decide +kernel
theorem dX7_thinnedRow_0 : decode cX7_thinnedRow 0 = .ok (.aload_n 0, 1) := by decide +kernel
theorem dX7_thinnedRow_1 : decode cX7_thinnedRow 1 = .ok (.getfield 15, 3) := by decide +kernel
theorem dX7_thinnedRow_4 : decode cX7_thinnedRow 4 = .ok (.iload_n 1, 1) := by decide +kernel
theorem dX7_thinnedRow_5 : decode cX7_thinnedRow 5 = .ok (.iload_n 2, 1) := by decide +kernel
theorem dX7_thinnedRow_6 : decode cX7_thinnedRow 6 = .ok (.invokevirtual 39, 3) := by decide +kernel
theorem dX7_thinnedRow_9 : decode cX7_thinnedRow 9 = .ok (.istore_n 3, 1) := by decide +kernel
theorem dX7_thinnedRow_10 : decode cX7_thinnedRow 10 = .ok (.iload_n 3, 1) := by decide +kernel
theorem dX7_thinnedRow_11 : decode cX7_thinnedRow 11 = .ok (.iload_n 3, 1) := by decide +kernel
theorem dX7_thinnedRow_12 : decode cX7_thinnedRow 12 = .ok (.iconst 1, 1) := by decide +kernel
theorem dX7_thinnedRow_13 : decode cX7_thinnedRow 13 = .ok (.ishl, 1) := by decide +kernel
theorem dX7_thinnedRow_14 : decode cX7_thinnedRow 14 = .ok (.iand, 1) := by decide +kernel
theorem dX7_thinnedRow_15 : decode cX7_thinnedRow 15 = .ok (.iload_n 3, 1) := by decide +kernel
theorem dX7_thinnedRow_16 : decode cX7_thinnedRow 16 = .ok (.iconst 1, 1) := by decide +kernel
theorem dX7_thinnedRow_17 : decode cX7_thinnedRow 17 = .ok (.iushr, 1) := by decide +kernel
theorem dX7_thinnedRow_18 : decode cX7_thinnedRow 18 = .ok (.iand, 1) := by decide +kernel
theorem dX7_thinnedRow_19 : decode cX7_thinnedRow 19 = .ok (.aload_n 0, 1) := by decide +kernel
theorem dX7_thinnedRow_20 : decode cX7_thinnedRow 20 = .ok (.getfield 15, 3) := by decide +kernel
theorem dX7_thinnedRow_23 : decode cX7_thinnedRow 23 = .ok (.iload_n 1, 1) := by decide +kernel
theorem dX7_thinnedRow_24 : decode cX7_thinnedRow 24 = .ok (.iload_n 2, 1) := by decide +kernel
theorem dX7_thinnedRow_25 : decode cX7_thinnedRow 25 = .ok (.iconst 1, 1) := by decide +kernel
theorem dX7_thinnedRow_26 : decode cX7_thinnedRow 26 = .ok (.isub, 1) := by decide +kernel
theorem dX7_thinnedRow_27 : decode cX7_thinnedRow 27 = .ok (.invokevirtual 39, 3) := by decide +kernel
theorem dX7_thinnedRow_30 : decode cX7_thinnedRow 30 = .ok (.iand, 1) := by decide +kernel
theorem dX7_thinnedRow_31 : decode cX7_thinnedRow 31 = .ok (.aload_n 0, 1) := by decide +kernel
theorem dX7_thinnedRow_32 : decode cX7_thinnedRow 32 = .ok (.getfield 15, 3) := by decide +kernel
theorem dX7_thinnedRow_35 : decode cX7_thinnedRow 35 = .ok (.iload_n 1, 1) := by decide +kernel
theorem dX7_thinnedRow_36 : decode cX7_thinnedRow 36 = .ok (.iload_n 2, 1) := by decide +kernel
theorem dX7_thinnedRow_37 : decode cX7_thinnedRow 37 = .ok (.iconst 1, 1) := by decide +kernel
theorem dX7_thinnedRow_38 : decode cX7_thinnedRow 38 = .ok (.iadd, 1) := by decide +kernel
theorem dX7_thinnedRow_39 : decode cX7_thinnedRow 39 = .ok (.invokevirtual 39, 3) := by decide +kernel
theorem dX7_thinnedRow_42 : decode cX7_thinnedRow 42 = .ok (.iand, 1) := by decide +kernel
theorem dX7_thinnedRow_43 : decode cX7_thinnedRow 43 = .ok (.ireturn, 1) := by decide +kernel
theorem dX7_mirroredRow_0 : decode cX7_mirroredRow 0 = .ok (.iconst 0, 1) := by decide +kernel
theorem dX7_mirroredRow_1 : decode cX7_mirroredRow 1 = .ok (.istore_n 1, 1) := by decide +kernel
theorem dX7_mirroredRow_2 : decode cX7_mirroredRow 2 = .ok (.iconst 0, 1) := by decide +kernel
theorem dX7_mirroredRow_3 : decode cX7_mirroredRow 3 = .ok (.istore_n 2, 1) := by decide +kernel
theorem dX7_mirroredRow_4 : decode cX7_mirroredRow 4 = .ok (.iload_n 2, 1) := by decide +kernel
theorem dX7_mirroredRow_5 : decode cX7_mirroredRow 5 = .ok (.bipush 32, 2) := by decide +kernel
theorem dX7_mirroredRow_7 : decode cX7_mirroredRow 7 = .ok (.if_icmp .ge 22, 3) := by decide +kernel
theorem dX7_mirroredRow_10 : decode cX7_mirroredRow 10 = .ok (.iload_n 1, 1) := by decide +kernel
theorem dX7_mirroredRow_11 : decode cX7_mirroredRow 11 = .ok (.iload_n 0, 1) := by decide +kernel
theorem dX7_mirroredRow_12 : decode cX7_mirroredRow 12 = .ok (.iload_n 2, 1) := by decide +kernel
theorem dX7_mirroredRow_13 : decode cX7_mirroredRow 13 = .ok (.iushr, 1) := by decide +kernel
theorem dX7_mirroredRow_14 : decode cX7_mirroredRow 14 = .ok (.iconst 1, 1) := by decide +kernel
theorem dX7_mirroredRow_15 : decode cX7_mirroredRow 15 = .ok (.iand, 1) := by decide +kernel
theorem dX7_mirroredRow_16 : decode cX7_mirroredRow 16 = .ok (.bipush 31, 2) := by decide +kernel
theorem dX7_mirroredRow_18 : decode cX7_mirroredRow 18 = .ok (.iload_n 2, 1) := by decide +kernel
theorem dX7_mirroredRow_19 : decode cX7_mirroredRow 19 = .ok (.isub, 1) := by decide +kernel
theorem dX7_mirroredRow_20 : decode cX7_mirroredRow 20 = .ok (.ishl, 1) := by decide +kernel
theorem dX7_mirroredRow_21 : decode cX7_mirroredRow 21 = .ok (.ior, 1) := by decide +kernel
theorem dX7_mirroredRow_22 : decode cX7_mirroredRow 22 = .ok (.istore_n 1, 1) := by decide +kernel
theorem dX7_mirroredRow_23 : decode cX7_mirroredRow 23 = .ok (.iinc 2 1, 3) := by decide +kernel
theorem dX7_mirroredRow_26 : decode cX7_mirroredRow 26 = .ok (.goto (-22), 3) := by decide +kernel
theorem dX7_mirroredRow_29 : decode cX7_mirroredRow 29 = .ok (.iload_n 1, 1) := by decide +kernel
theorem dX7_mirroredRow_30 : decode cX7_mirroredRow 30 = .ok (.ireturn, 1) := by decide +kernel
theorem dX7_becomesWhatComes_0 : decode cX7_becomesWhatComes 0 = .ok (.iconst 0, 1) := by decide +kernel
theorem dX7_becomesWhatComes_1 : decode cX7_becomesWhatComes 1 = .ok (.istore_n 2, 1) := by decide +kernel
theorem dX7_becomesWhatComes_2 : decode cX7_becomesWhatComes 2 = .ok (.iconst 0, 1) := by decide +kernel
theorem dX7_becomesWhatComes_3 : decode cX7_becomesWhatComes 3 = .ok (.istore_n 3, 1) := by decide +kernel
theorem dX7_becomesWhatComes_4 : decode cX7_becomesWhatComes 4 = .ok (.iload_n 3, 1) := by decide +kernel
theorem dX7_becomesWhatComes_5 : decode cX7_becomesWhatComes 5 = .ok (.bipush 24, 2) := by decide +kernel
theorem dX7_becomesWhatComes_7 : decode cX7_becomesWhatComes 7 = .ok (.if_icmp .ge 37, 3) := by decide +kernel
theorem dX7_becomesWhatComes_10 : decode cX7_becomesWhatComes 10 = .ok (.iload_n 2, 1) := by decide +kernel
theorem dX7_becomesWhatComes_11 : decode cX7_becomesWhatComes 11 = .ok (.aload_n 0, 1) := by decide +kernel
theorem dX7_becomesWhatComes_12 : decode cX7_becomesWhatComes 12 = .ok (.getfield 15, 3) := by decide +kernel
theorem dX7_becomesWhatComes_15 : decode cX7_becomesWhatComes 15 = .ok (.iload_n 1, 1) := by decide +kernel
theorem dX7_becomesWhatComes_16 : decode cX7_becomesWhatComes 16 = .ok (.iload_n 3, 1) := by decide +kernel
theorem dX7_becomesWhatComes_17 : decode cX7_becomesWhatComes 17 = .ok (.aload_n 0, 1) := by decide +kernel
theorem dX7_becomesWhatComes_18 : decode cX7_becomesWhatComes 18 = .ok (.getfield 15, 3) := by decide +kernel
theorem dX7_becomesWhatComes_21 : decode cX7_becomesWhatComes 21 = .ok (.iload_n 1, 1) := by decide +kernel
theorem dX7_becomesWhatComes_22 : decode cX7_becomesWhatComes 22 = .ok (.iload_n 3, 1) := by decide +kernel
theorem dX7_becomesWhatComes_23 : decode cX7_becomesWhatComes 23 = .ok (.invokevirtual 39, 3) := by decide +kernel
theorem dX7_becomesWhatComes_26 : decode cX7_becomesWhatComes 26 = .ok (.aload_n 0, 1) := by decide +kernel
theorem dX7_becomesWhatComes_27 : decode cX7_becomesWhatComes 27 = .ok (.getfield 9, 3) := by decide +kernel
theorem dX7_becomesWhatComes_30 : decode cX7_becomesWhatComes 30 = .ok (.iload_n 3, 1) := by decide +kernel
theorem dX7_becomesWhatComes_31 : decode cX7_becomesWhatComes 31 = .ok (.iaload, 1) := by decide +kernel
theorem dX7_becomesWhatComes_32 : decode cX7_becomesWhatComes 32 = .ok (.ixor, 1) := by decide +kernel
theorem dX7_becomesWhatComes_33 : decode cX7_becomesWhatComes 33 = .ok (.invokevirtual 72, 3) := by decide +kernel
theorem dX7_becomesWhatComes_36 : decode cX7_becomesWhatComes 36 = .ok (.iadd, 1) := by decide +kernel
theorem dX7_becomesWhatComes_37 : decode cX7_becomesWhatComes 37 = .ok (.istore_n 2, 1) := by decide +kernel
theorem dX7_becomesWhatComes_38 : decode cX7_becomesWhatComes 38 = .ok (.iinc 3 1, 3) := by decide +kernel
theorem dX7_becomesWhatComes_41 : decode cX7_becomesWhatComes 41 = .ok (.goto (-37), 3) := by decide +kernel
theorem dX7_becomesWhatComes_44 : decode cX7_becomesWhatComes 44 = .ok (.iload_n 2, 1) := by decide +kernel
theorem dX7_becomesWhatComes_45 : decode cX7_becomesWhatComes 45 = .ok (.ireturn, 1) := by decide +kernel
theorem dX8_init_0 : decode cX8_init 0 = .ok (.aload_n 0, 1) := by decide +kernel
theorem dX8_init_1 : decode cX8_init 1 = .ok (.invokespecial 1, 3) := by decide +kernel
theorem dX8_init_4 : decode cX8_init 4 = .ok (.new 7, 3) := by decide +kernel
theorem dX8_init_7 : decode cX8_init 7 = .ok (.dup, 1) := by decide +kernel
theorem dX8_init_8 : decode cX8_init 8 = .ok (.invokespecial 9, 3) := by decide +kernel
theorem dX8_init_11 : decode cX8_init 11 = .ok (.astore_n 1, 1) := by decide +kernel
theorem dX8_init_12 : decode cX8_init 12 = .ok (.new 10, 3) := by decide +kernel
theorem dX8_init_15 : decode cX8_init 15 = .ok (.dup, 1) := by decide +kernel
theorem dX8_init_16 : decode cX8_init 16 = .ok (.invokespecial 12, 3) := by decide +kernel
theorem dX8_init_19 : decode cX8_init 19 = .ok (.astore_n 2, 1) := by decide +kernel
theorem dX8_init_20 : decode cX8_init 20 = .ok (.aload_n 0, 1) := by decide +kernel
theorem dX8_init_21 : decode cX8_init 21 = .ok (.aload_n 1, 1) := by decide +kernel
theorem dX8_init_22 : decode cX8_init 22 = .ok (.putfield 13, 3) := by decide +kernel
theorem dX8_init_25 : decode cX8_init 25 = .ok (.aload_n 0, 1) := by decide +kernel
theorem dX8_init_26 : decode cX8_init 26 = .ok (.new 19, 3) := by decide +kernel
theorem dX8_init_29 : decode cX8_init 29 = .ok (.dup, 1) := by decide +kernel
theorem dX8_init_30 : decode cX8_init 30 = .ok (.invokespecial 21, 3) := by decide +kernel
theorem dX8_init_33 : decode cX8_init 33 = .ok (.putfield 22, 3) := by decide +kernel
theorem dX8_init_36 : decode cX8_init 36 = .ok (.aload_n 0, 1) := by decide +kernel
theorem dX8_init_37 : decode cX8_init 37 = .ok (.new 26, 3) := by decide +kernel
theorem dX8_init_40 : decode cX8_init 40 = .ok (.dup, 1) := by decide +kernel
theorem dX8_init_41 : decode cX8_init 41 = .ok (.aload_n 1, 1) := by decide +kernel
theorem dX8_init_42 : decode cX8_init 42 = .ok (.aload_n 2, 1) := by decide +kernel
theorem dX8_init_43 : decode cX8_init 43 = .ok (.invokespecial 28, 3) := by decide +kernel
theorem dX8_init_46 : decode cX8_init 46 = .ok (.putfield 31, 3) := by decide +kernel
theorem dX8_init_49 : decode cX8_init 49 = .ok (.aload_n 0, 1) := by decide +kernel
theorem dX8_init_50 : decode cX8_init 50 = .ok (.new 35, 3) := by decide +kernel
theorem dX8_init_53 : decode cX8_init 53 = .ok (.dup, 1) := by decide +kernel
theorem dX8_init_54 : decode cX8_init 54 = .ok (.aload_n 1, 1) := by decide +kernel
theorem dX8_init_55 : decode cX8_init 55 = .ok (.invokespecial 37, 3) := by decide +kernel
theorem dX8_init_58 : decode cX8_init 58 = .ok (.putfield 40, 3) := by decide +kernel
theorem dX8_init_61 : decode cX8_init 61 = .ok (.aload_n 0, 1) := by decide +kernel
theorem dX8_init_62 : decode cX8_init 62 = .ok (.new 44, 3) := by decide +kernel
theorem dX8_init_65 : decode cX8_init 65 = .ok (.dup, 1) := by decide +kernel
theorem dX8_init_66 : decode cX8_init 66 = .ok (.aload_n 1, 1) := by decide +kernel
theorem dX8_init_67 : decode cX8_init 67 = .ok (.aload_n 2, 1) := by decide +kernel
theorem dX8_init_68 : decode cX8_init 68 = .ok (.invokespecial 46, 3) := by decide +kernel
theorem dX8_init_71 : decode cX8_init 71 = .ok (.putfield 47, 3) := by decide +kernel
theorem dX8_init_74 : decode cX8_init 74 = .ok (.aload_n 0, 1) := by decide +kernel
theorem dX8_init_75 : decode cX8_init 75 = .ok (.new 51, 3) := by decide +kernel
theorem dX8_init_78 : decode cX8_init 78 = .ok (.dup, 1) := by decide +kernel
theorem dX8_init_79 : decode cX8_init 79 = .ok (.invokespecial 53, 3) := by decide +kernel
theorem dX8_init_82 : decode cX8_init 82 = .ok (.putfield 54, 3) := by decide +kernel
theorem dX8_init_85 : decode cX8_init 85 = .ok (.aload_n 0, 1) := by decide +kernel
theorem dX8_init_86 : decode cX8_init 86 = .ok (.new 58, 3) := by decide +kernel
theorem dX8_init_89 : decode cX8_init 89 = .ok (.dup, 1) := by decide +kernel
theorem dX8_init_90 : decode cX8_init 90 = .ok (.invokespecial 60, 3) := by decide +kernel
theorem dX8_init_93 : decode cX8_init 93 = .ok (.putfield 61, 3) := by decide +kernel
theorem dX8_init_96 : decode cX8_init 96 = .ok (.return_, 1) := by decide +kernel
theorem dX8_dot_0 : decode cX8_dot 0 = .ok (.iload_n 1, 1) := by decide +kernel
theorem dX8_dot_1 : decode cX8_dot 1 = .ok (.invokestatic 65, 3) := by decide +kernel
theorem dX8_dot_4 : decode cX8_dot 4 = .ok (.ifCond .eq 21, 3) := by decide +kernel
theorem dX8_dot_7 : decode cX8_dot 7 = .ok (.iload_n 2, 1) := by decide +kernel
theorem dX8_dot_8 : decode cX8_dot 8 = .ok (.iload_n 3, 1) := by decide +kernel
theorem dX8_dot_9 : decode cX8_dot 9 = .ok (.invokestatic 69, 3) := by decide +kernel
theorem dX8_dot_12 : decode cX8_dot 12 = .ok (.ifCond .eq 13, 3) := by decide +kernel
theorem dX8_dot_15 : decode cX8_dot 15 = .ok (.iload 4, 2) := by decide +kernel
theorem dX8_dot_17 : decode cX8_dot 17 = .ok (.iconst 0, 1) := by decide +kernel
theorem dX8_dot_18 : decode cX8_dot 18 = .ok (.iconst 1, 1) := by decide +kernel
theorem dX8_dot_19 : decode cX8_dot 19 = .ok (.invokestatic 73, 3) := by decide +kernel
theorem dX8_dot_22 : decode cX8_dot 22 = .ok (.ifCond .ne 8, 3) := by decide +kernel
theorem dX8_dot_25 : decode cX8_dot 25 = .ok (.aload_n 0, 1) := by decide +kernel
theorem dX8_dot_26 : decode cX8_dot 26 = .ok (.invokevirtual 77, 3) := by decide +kernel
theorem dX8_dot_29 : decode cX8_dot 29 = .ok (.ireturn, 1) := by decide +kernel
theorem dX8_dot_30 : decode cX8_dot 30 = .ok (.aload_n 0, 1) := by decide +kernel
theorem dX8_dot_31 : decode cX8_dot 31 = .ok (.getfield 22, 3) := by decide +kernel
theorem dX8_dot_34 : decode cX8_dot 34 = .ok (.aload_n 0, 1) := by decide +kernel
theorem dX8_dot_35 : decode cX8_dot 35 = .ok (.getfield 13, 3) := by decide +kernel
theorem dX8_dot_38 : decode cX8_dot 38 = .ok (.invokevirtual 81, 3) := by decide +kernel
theorem dX8_dot_41 : decode cX8_dot 41 = .ok (.aload_n 0, 1) := by decide +kernel
theorem dX8_dot_42 : decode cX8_dot 42 = .ok (.getfield 13, 3) := by decide +kernel
theorem dX8_dot_45 : decode cX8_dot 45 = .ok (.iload_n 1, 1) := by decide +kernel
theorem dX8_dot_46 : decode cX8_dot 46 = .ok (.iload_n 2, 1) := by decide +kernel
theorem dX8_dot_47 : decode cX8_dot 47 = .ok (.iload_n 3, 1) := by decide +kernel
theorem dX8_dot_48 : decode cX8_dot 48 = .ok (.invokevirtual 84, 3) := by decide +kernel
theorem dX8_dot_51 : decode cX8_dot 51 = .ok (.istore 5, 2) := by decide +kernel
theorem dX8_dot_53 : decode cX8_dot 53 = .ok (.iload 5, 2) := by decide +kernel
theorem dX8_dot_55 : decode cX8_dot 55 = .ok (.iload 4, 2) := by decide +kernel
theorem dX8_dot_57 : decode cX8_dot 57 = .ok (.if_icmp .eq 26, 3) := by decide +kernel
theorem dX8_dot_60 : decode cX8_dot 60 = .ok (.aload_n 0, 1) := by decide +kernel
theorem dX8_dot_61 : decode cX8_dot 61 = .ok (.getfield 13, 3) := by decide +kernel
theorem dX8_dot_64 : decode cX8_dot 64 = .ok (.iload_n 1, 1) := by decide +kernel
theorem dX8_dot_65 : decode cX8_dot 65 = .ok (.iload_n 3, 1) := by decide +kernel
theorem dX8_dot_66 : decode cX8_dot 66 = .ok (.aload_n 0, 1) := by decide +kernel
theorem dX8_dot_67 : decode cX8_dot 67 = .ok (.getfield 13, 3) := by decide +kernel
theorem dX8_dot_70 : decode cX8_dot 70 = .ok (.iload_n 1, 1) := by decide +kernel
theorem dX8_dot_71 : decode cX8_dot 71 = .ok (.iload_n 3, 1) := by decide +kernel
theorem dX8_dot_72 : decode cX8_dot 72 = .ok (.invokevirtual 88, 3) := by decide +kernel
theorem dX8_dot_75 : decode cX8_dot 75 = .ok (.iload_n 2, 1) := by decide +kernel
theorem dX8_dot_76 : decode cX8_dot 76 = .ok (.invokestatic 92, 3) := by decide +kernel
theorem dX8_dot_79 : decode cX8_dot 79 = .ok (.ixor, 1) := by decide +kernel
theorem dX8_dot_80 : decode cX8_dot 80 = .ok (.invokevirtual 96, 3) := by decide +kernel
theorem dX8_dot_83 : decode cX8_dot 83 = .ok (.iload 5, 2) := by decide +kernel
theorem dX8_dot_85 : decode cX8_dot 85 = .ok (.ireturn, 1) := by decide +kernel
theorem dX8_pattern_0 : decode cX8_pattern 0 = .ok (.iload_n 1, 1) := by decide +kernel
theorem dX8_pattern_1 : decode cX8_pattern 1 = .ok (.iconst 0, 1) := by decide +kernel
theorem dX8_pattern_2 : decode cX8_pattern 2 = .ok (.bipush 7, 2) := by decide +kernel
theorem dX8_pattern_4 : decode cX8_pattern 4 = .ok (.invokestatic 73, 3) := by decide +kernel
theorem dX8_pattern_7 : decode cX8_pattern 7 = .ok (.ifCond .eq 14, 3) := by decide +kernel
theorem dX8_pattern_10 : decode cX8_pattern 10 = .ok (.iload_n 2, 1) := by decide +kernel
theorem dX8_pattern_11 : decode cX8_pattern 11 = .ok (.iconst 0, 1) := by decide +kernel
theorem dX8_pattern_12 : decode cX8_pattern 12 = .ok (.sipush 255, 3) := by decide +kernel
theorem dX8_pattern_15 : decode cX8_pattern 15 = .ok (.invokestatic 73, 3) := by decide +kernel
theorem dX8_pattern_18 : decode cX8_pattern 18 = .ok (.ifCond .ne 8, 3) := by decide +kernel
theorem dX8_pattern_21 : decode cX8_pattern 21 = .ok (.aload_n 0, 1) := by decide +kernel
theorem dX8_pattern_22 : decode cX8_pattern 22 = .ok (.invokevirtual 77, 3) := by decide +kernel
theorem dX8_pattern_25 : decode cX8_pattern 25 = .ok (.ireturn, 1) := by decide +kernel
theorem dX8_pattern_26 : decode cX8_pattern 26 = .ok (.aload_n 0, 1) := by decide +kernel
theorem dX8_pattern_27 : decode cX8_pattern 27 = .ok (.getfield 22, 3) := by decide +kernel
theorem dX8_pattern_30 : decode cX8_pattern 30 = .ok (.aload_n 0, 1) := by decide +kernel
theorem dX8_pattern_31 : decode cX8_pattern 31 = .ok (.getfield 13, 3) := by decide +kernel
theorem dX8_pattern_34 : decode cX8_pattern 34 = .ok (.invokevirtual 81, 3) := by decide +kernel
theorem dX8_pattern_37 : decode cX8_pattern 37 = .ok (.aload_n 0, 1) := by decide +kernel
theorem dX8_pattern_38 : decode cX8_pattern 38 = .ok (.getfield 13, 3) := by decide +kernel
theorem dX8_pattern_41 : decode cX8_pattern 41 = .ok (.getfield 100, 3) := by decide +kernel
theorem dX8_pattern_44 : decode cX8_pattern 44 = .ok (.iload_n 1, 1) := by decide +kernel
theorem dX8_pattern_45 : decode cX8_pattern 45 = .ok (.iaload, 1) := by decide +kernel
theorem dX8_pattern_46 : decode cX8_pattern 46 = .ok (.istore_n 3, 1) := by decide +kernel
theorem dX8_pattern_47 : decode cX8_pattern 47 = .ok (.aload_n 0, 1) := by decide +kernel
theorem dX8_pattern_48 : decode cX8_pattern 48 = .ok (.getfield 13, 3) := by decide +kernel
theorem dX8_pattern_51 : decode cX8_pattern 51 = .ok (.getfield 100, 3) := by decide +kernel
theorem dX8_pattern_54 : decode cX8_pattern 54 = .ok (.iload_n 1, 1) := by decide +kernel
theorem dX8_pattern_55 : decode cX8_pattern 55 = .ok (.iload_n 2, 1) := by decide +kernel
theorem dX8_pattern_56 : decode cX8_pattern 56 = .ok (.iastore, 1) := by decide +kernel
theorem dX8_pattern_57 : decode cX8_pattern 57 = .ok (.iload_n 3, 1) := by decide +kernel
theorem dX8_pattern_58 : decode cX8_pattern 58 = .ok (.ireturn, 1) := by decide +kernel
theorem dX8_draw_0 : decode cX8_draw 0 = .ok (.iload_n 1, 1) := by decide +kernel
theorem dX8_draw_1 : decode cX8_draw 1 = .ok (.invokestatic 65, 3) := by decide +kernel
theorem dX8_draw_4 : decode cX8_draw 4 = .ok (.ifCond .eq 13, 3) := by decide +kernel
theorem dX8_draw_7 : decode cX8_draw 7 = .ok (.iload_n 2, 1) := by decide +kernel
theorem dX8_draw_8 : decode cX8_draw 8 = .ok (.iconst 0, 1) := by decide +kernel
theorem dX8_draw_9 : decode cX8_draw 9 = .ok (.ldc 104, 2) := by decide +kernel
theorem dX8_draw_11 : decode cX8_draw 11 = .ok (.invokestatic 73, 3) := by decide +kernel
theorem dX8_draw_14 : decode cX8_draw 14 = .ok (.ifCond .ne 8, 3) := by decide +kernel
theorem dX8_draw_17 : decode cX8_draw 17 = .ok (.aload_n 0, 1) := by decide +kernel
theorem dX8_draw_18 : decode cX8_draw 18 = .ok (.invokevirtual 77, 3) := by decide +kernel
theorem dX8_draw_21 : decode cX8_draw 21 = .ok (.ireturn, 1) := by decide +kernel
theorem dX8_draw_22 : decode cX8_draw 22 = .ok (.aload_n 0, 1) := by decide +kernel
theorem dX8_draw_23 : decode cX8_draw 23 = .ok (.getfield 22, 3) := by decide +kernel
theorem dX8_draw_26 : decode cX8_draw 26 = .ok (.aload_n 0, 1) := by decide +kernel
theorem dX8_draw_27 : decode cX8_draw 27 = .ok (.getfield 13, 3) := by decide +kernel
theorem dX8_draw_30 : decode cX8_draw 30 = .ok (.invokevirtual 81, 3) := by decide +kernel
theorem dX8_draw_33 : decode cX8_draw 33 = .ok (.aload_n 0, 1) := by decide +kernel
theorem dX8_draw_34 : decode cX8_draw 34 = .ok (.getfield 40, 3) := by decide +kernel
theorem dX8_draw_37 : decode cX8_draw 37 = .ok (.iload_n 1, 1) := by decide +kernel
theorem dX8_draw_38 : decode cX8_draw 38 = .ok (.iload_n 2, 1) := by decide +kernel
theorem dX8_draw_39 : decode cX8_draw 39 = .ok (.invokevirtual 105, 3) := by decide +kernel
theorem dX8_draw_42 : decode cX8_draw 42 = .ok (.aload_n 0, 1) := by decide +kernel
theorem dX8_draw_43 : decode cX8_draw 43 = .ok (.getfield 47, 3) := by decide +kernel
theorem dX8_draw_46 : decode cX8_draw 46 = .ok (.iload_n 1, 1) := by decide +kernel
theorem dX8_draw_47 : decode cX8_draw 47 = .ok (.invokevirtual 109, 3) := by decide +kernel
theorem dX8_draw_50 : decode cX8_draw 50 = .ok (.ireturn, 1) := by decide +kernel
theorem dX8_opening_0 : decode cX8_opening 0 = .ok (.aload_n 0, 1) := by decide +kernel
theorem dX8_opening_1 : decode cX8_opening 1 = .ok (.getfield 54, 3) := by decide +kernel
theorem dX8_opening_4 : decode cX8_opening 4 = .ok (.bipush 111, 2) := by decide +kernel
theorem dX8_opening_6 : decode cX8_opening 6 = .ok (.invokevirtual 112, 3) := by decide +kernel
theorem dX8_opening_9 : decode cX8_opening 9 = .ok (.aload_n 0, 1) := by decide +kernel
theorem dX8_opening_10 : decode cX8_opening 10 = .ok (.getfield 54, 3) := by decide +kernel
theorem dX8_opening_13 : decode cX8_opening 13 = .ok (.iload_n 1, 1) := by decide +kernel
theorem dX8_opening_14 : decode cX8_opening 14 = .ok (.invokevirtual 116, 3) := by decide +kernel
theorem dX8_opening_17 : decode cX8_opening 17 = .ok (.iload_n 2, 1) := by decide +kernel
theorem dX8_opening_18 : decode cX8_opening 18 = .ok (.invokevirtual 116, 3) := by decide +kernel
theorem dX8_opening_21 : decode cX8_opening 21 = .ok (.iload_n 3, 1) := by decide +kernel
theorem dX8_opening_22 : decode cX8_opening 22 = .ok (.invokevirtual 116, 3) := by decide +kernel
theorem dX8_opening_25 : decode cX8_opening 25 = .ok (.iload 4, 2) := by decide +kernel
theorem dX8_opening_27 : decode cX8_opening 27 = .ok (.invokevirtual 116, 3) := by decide +kernel
theorem dX8_opening_30 : decode cX8_opening 30 = .ok (.pop, 1) := by decide +kernel
theorem dX8_opening_31 : decode cX8_opening 31 = .ok (.aload_n 0, 1) := by decide +kernel
theorem dX8_opening_32 : decode cX8_opening 32 = .ok (.getfield 54, 3) := by decide +kernel
theorem dX8_opening_35 : decode cX8_opening 35 = .ok (.invokevirtual 120, 3) := by decide +kernel
theorem dX8_opening_38 : decode cX8_opening 38 = .ok (.ifCond .ne 8, 3) := by decide +kernel
theorem dX8_opening_41 : decode cX8_opening 41 = .ok (.aload_n 0, 1) := by decide +kernel
theorem dX8_opening_42 : decode cX8_opening 42 = .ok (.invokevirtual 77, 3) := by decide +kernel
theorem dX8_opening_45 : decode cX8_opening 45 = .ok (.ireturn, 1) := by decide +kernel
theorem dX8_opening_46 : decode cX8_opening 46 = .ok (.aload_n 0, 1) := by decide +kernel
theorem dX8_opening_47 : decode cX8_opening 47 = .ok (.getfield 13, 3) := by decide +kernel
theorem dX8_opening_50 : decode cX8_opening 50 = .ok (.getfield 124, 3) := by decide +kernel
theorem dX8_opening_53 : decode cX8_opening 53 = .ok (.iconst 4, 1) := by decide +kernel
theorem dX8_opening_54 : decode cX8_opening 54 = .ok (.if_icmp .lt 8, 3) := by decide +kernel
theorem dX8_opening_57 : decode cX8_opening 57 = .ok (.aload_n 0, 1) := by decide +kernel
theorem dX8_opening_58 : decode cX8_opening 58 = .ok (.invokevirtual 128, 3) := by decide +kernel
theorem dX8_opening_61 : decode cX8_opening 61 = .ok (.ireturn, 1) := by decide +kernel
theorem dX8_opening_62 : decode cX8_opening 62 = .ok (.aload_n 0, 1) := by decide +kernel
theorem dX8_opening_63 : decode cX8_opening 63 = .ok (.getfield 22, 3) := by decide +kernel
theorem dX8_opening_66 : decode cX8_opening 66 = .ok (.aload_n 0, 1) := by decide +kernel
theorem dX8_opening_67 : decode cX8_opening 67 = .ok (.getfield 13, 3) := by decide +kernel
theorem dX8_opening_70 : decode cX8_opening 70 = .ok (.invokevirtual 81, 3) := by decide +kernel
theorem dX8_opening_73 : decode cX8_opening 73 = .ok (.aload_n 0, 1) := by decide +kernel
theorem dX8_opening_74 : decode cX8_opening 74 = .ok (.getfield 31, 3) := by decide +kernel
theorem dX8_opening_77 : decode cX8_opening 77 = .ok (.aload_n 0, 1) := by decide +kernel
theorem dX8_opening_78 : decode cX8_opening 78 = .ok (.getfield 54, 3) := by decide +kernel
theorem dX8_opening_81 : decode cX8_opening 81 = .ok (.invokevirtual 131, 3) := by decide +kernel
theorem dX8_opening_84 : decode cX8_opening 84 = .ok (.pop, 1) := by decide +kernel
theorem dX8_opening_85 : decode cX8_opening 85 = .ok (.aload_n 0, 1) := by decide +kernel
theorem dX8_opening_86 : decode cX8_opening 86 = .ok (.getfield 13, 3) := by decide +kernel
theorem dX8_opening_89 : decode cX8_opening 89 = .ok (.getfield 124, 3) := by decide +kernel
theorem dX8_opening_92 : decode cX8_opening 92 = .ok (.ireturn, 1) := by decide +kernel
theorem dX8_closes_0 : decode cX8_closes 0 = .ok (.aload_n 0, 1) := by decide +kernel
theorem dX8_closes_1 : decode cX8_closes 1 = .ok (.getfield 13, 3) := by decide +kernel
theorem dX8_closes_4 : decode cX8_closes 4 = .ok (.getfield 124, 3) := by decide +kernel
theorem dX8_closes_7 : decode cX8_closes 7 = .ok (.istore_n 1, 1) := by decide +kernel
theorem dX8_closes_8 : decode cX8_closes 8 = .ok (.aload_n 0, 1) := by decide +kernel
theorem dX8_closes_9 : decode cX8_closes 9 = .ok (.getfield 22, 3) := by decide +kernel
theorem dX8_closes_12 : decode cX8_closes 12 = .ok (.aload_n 0, 1) := by decide +kernel
theorem dX8_closes_13 : decode cX8_closes 13 = .ok (.getfield 13, 3) := by decide +kernel
theorem dX8_closes_16 : decode cX8_closes 16 = .ok (.invokevirtual 81, 3) := by decide +kernel
theorem dX8_closes_19 : decode cX8_closes 19 = .ok (.aload_n 0, 1) := by decide +kernel
theorem dX8_closes_20 : decode cX8_closes 20 = .ok (.getfield 13, 3) := by decide +kernel
theorem dX8_closes_23 : decode cX8_closes 23 = .ok (.iconst 0, 1) := by decide +kernel
theorem dX8_closes_24 : decode cX8_closes 24 = .ok (.putfield 124, 3) := by decide +kernel
theorem dX8_closes_27 : decode cX8_closes 27 = .ok (.iload_n 1, 1) := by decide +kernel
theorem dX8_closes_28 : decode cX8_closes 28 = .ok (.ireturn, 1) := by decide +kernel
theorem dX8_move_0 : decode cX8_move 0 = .ok (.aload_n 0, 1) := by decide +kernel
theorem dX8_move_1 : decode cX8_move 1 = .ok (.getfield 54, 3) := by decide +kernel
theorem dX8_move_4 : decode cX8_move 4 = .ok (.bipush 109, 2) := by decide +kernel
theorem dX8_move_6 : decode cX8_move 6 = .ok (.invokevirtual 112, 3) := by decide +kernel
theorem dX8_move_9 : decode cX8_move 9 = .ok (.aload_n 0, 1) := by decide +kernel
theorem dX8_move_10 : decode cX8_move 10 = .ok (.getfield 54, 3) := by decide +kernel
theorem dX8_move_13 : decode cX8_move 13 = .ok (.iload_n 1, 1) := by decide +kernel
theorem dX8_move_14 : decode cX8_move 14 = .ok (.invokevirtual 116, 3) := by decide +kernel
theorem dX8_move_17 : decode cX8_move 17 = .ok (.iload_n 2, 1) := by decide +kernel
theorem dX8_move_18 : decode cX8_move 18 = .ok (.invokevirtual 116, 3) := by decide +kernel
theorem dX8_move_21 : decode cX8_move 21 = .ok (.iload_n 3, 1) := by decide +kernel
theorem dX8_move_22 : decode cX8_move 22 = .ok (.invokevirtual 116, 3) := by decide +kernel
theorem dX8_move_25 : decode cX8_move 25 = .ok (.iload 4, 2) := by decide +kernel
theorem dX8_move_27 : decode cX8_move 27 = .ok (.invokevirtual 116, 3) := by decide +kernel
theorem dX8_move_30 : decode cX8_move 30 = .ok (.iload 5, 2) := by decide +kernel
theorem dX8_move_32 : decode cX8_move 32 = .ok (.invokevirtual 116, 3) := by decide +kernel
theorem dX8_move_35 : decode cX8_move 35 = .ok (.iload 6, 2) := by decide +kernel
theorem dX8_move_37 : decode cX8_move 37 = .ok (.invokevirtual 116, 3) := by decide +kernel
theorem dX8_move_40 : decode cX8_move 40 = .ok (.iload 7, 2) := by decide +kernel
theorem dX8_move_42 : decode cX8_move 42 = .ok (.invokevirtual 116, 3) := by decide +kernel
theorem dX8_move_45 : decode cX8_move 45 = .ok (.iload 8, 2) := by decide +kernel
theorem dX8_move_47 : decode cX8_move 47 = .ok (.invokevirtual 116, 3) := by decide +kernel
theorem dX8_move_50 : decode cX8_move 50 = .ok (.iload 9, 2) := by decide +kernel
theorem dX8_move_52 : decode cX8_move 52 = .ok (.invokevirtual 116, 3) := by decide +kernel
theorem dX8_move_55 : decode cX8_move 55 = .ok (.pop, 1) := by decide +kernel
theorem dX8_move_56 : decode cX8_move 56 = .ok (.aload_n 0, 1) := by decide +kernel
theorem dX8_move_57 : decode cX8_move 57 = .ok (.getfield 54, 3) := by decide +kernel
theorem dX8_move_60 : decode cX8_move 60 = .ok (.invokevirtual 120, 3) := by decide +kernel
theorem dX8_move_63 : decode cX8_move 63 = .ok (.ifCond .ne 8, 3) := by decide +kernel
theorem dX8_move_66 : decode cX8_move 66 = .ok (.aload_n 0, 1) := by decide +kernel
theorem dX8_move_67 : decode cX8_move 67 = .ok (.invokevirtual 77, 3) := by decide +kernel
theorem dX8_move_70 : decode cX8_move 70 = .ok (.ireturn, 1) := by decide +kernel
theorem dX8_move_71 : decode cX8_move 71 = .ok (.aload_n 0, 1) := by decide +kernel
theorem dX8_move_72 : decode cX8_move 72 = .ok (.getfield 22, 3) := by decide +kernel
theorem dX8_move_75 : decode cX8_move 75 = .ok (.aload_n 0, 1) := by decide +kernel
theorem dX8_move_76 : decode cX8_move 76 = .ok (.getfield 13, 3) := by decide +kernel
theorem dX8_move_79 : decode cX8_move 79 = .ok (.invokevirtual 81, 3) := by decide +kernel
theorem dX8_move_82 : decode cX8_move 82 = .ok (.aload_n 0, 1) := by decide +kernel
theorem dX8_move_83 : decode cX8_move 83 = .ok (.getfield 31, 3) := by decide +kernel
theorem dX8_move_86 : decode cX8_move 86 = .ok (.aload_n 0, 1) := by decide +kernel
theorem dX8_move_87 : decode cX8_move 87 = .ok (.getfield 54, 3) := by decide +kernel
theorem dX8_move_90 : decode cX8_move 90 = .ok (.invokevirtual 131, 3) := by decide +kernel
theorem dX8_move_93 : decode cX8_move 93 = .ok (.ireturn, 1) := by decide +kernel
theorem dX8_line_0 : decode cX8_line 0 = .ok (.aload_n 0, 1) := by decide +kernel
theorem dX8_line_1 : decode cX8_line 1 = .ok (.getfield 54, 3) := by decide +kernel
theorem dX8_line_4 : decode cX8_line 4 = .ok (.bipush 108, 2) := by decide +kernel
theorem dX8_line_6 : decode cX8_line 6 = .ok (.invokevirtual 112, 3) := by decide +kernel
theorem dX8_line_9 : decode cX8_line 9 = .ok (.aload_n 0, 1) := by decide +kernel
theorem dX8_line_10 : decode cX8_line 10 = .ok (.getfield 54, 3) := by decide +kernel
theorem dX8_line_13 : decode cX8_line 13 = .ok (.iload_n 1, 1) := by decide +kernel
theorem dX8_line_14 : decode cX8_line 14 = .ok (.invokevirtual 116, 3) := by decide +kernel
theorem dX8_line_17 : decode cX8_line 17 = .ok (.iload_n 2, 1) := by decide +kernel
theorem dX8_line_18 : decode cX8_line 18 = .ok (.invokevirtual 116, 3) := by decide +kernel
theorem dX8_line_21 : decode cX8_line 21 = .ok (.iload_n 3, 1) := by decide +kernel
theorem dX8_line_22 : decode cX8_line 22 = .ok (.invokevirtual 116, 3) := by decide +kernel
theorem dX8_line_25 : decode cX8_line 25 = .ok (.iload 4, 2) := by decide +kernel
theorem dX8_line_27 : decode cX8_line 27 = .ok (.invokevirtual 116, 3) := by decide +kernel
theorem dX8_line_30 : decode cX8_line 30 = .ok (.iload 5, 2) := by decide +kernel
theorem dX8_line_32 : decode cX8_line 32 = .ok (.invokevirtual 116, 3) := by decide +kernel
theorem dX8_line_35 : decode cX8_line 35 = .ok (.iload 6, 2) := by decide +kernel
theorem dX8_line_37 : decode cX8_line 37 = .ok (.invokevirtual 116, 3) := by decide +kernel
theorem dX8_line_40 : decode cX8_line 40 = .ok (.pop, 1) := by decide +kernel
theorem dX8_line_41 : decode cX8_line 41 = .ok (.aload_n 0, 1) := by decide +kernel
theorem dX8_line_42 : decode cX8_line 42 = .ok (.getfield 54, 3) := by decide +kernel
theorem dX8_line_45 : decode cX8_line 45 = .ok (.invokevirtual 120, 3) := by decide +kernel
theorem dX8_line_48 : decode cX8_line 48 = .ok (.ifCond .ne 8, 3) := by decide +kernel
theorem dX8_line_51 : decode cX8_line 51 = .ok (.aload_n 0, 1) := by decide +kernel
theorem dX8_line_52 : decode cX8_line 52 = .ok (.invokevirtual 77, 3) := by decide +kernel
theorem dX8_line_55 : decode cX8_line 55 = .ok (.ireturn, 1) := by decide +kernel
theorem dX8_line_56 : decode cX8_line 56 = .ok (.aload_n 0, 1) := by decide +kernel
theorem dX8_line_57 : decode cX8_line 57 = .ok (.getfield 22, 3) := by decide +kernel
theorem dX8_line_60 : decode cX8_line 60 = .ok (.aload_n 0, 1) := by decide +kernel
theorem dX8_line_61 : decode cX8_line 61 = .ok (.getfield 13, 3) := by decide +kernel
theorem dX8_line_64 : decode cX8_line 64 = .ok (.invokevirtual 81, 3) := by decide +kernel
theorem dX8_line_67 : decode cX8_line 67 = .ok (.aload_n 0, 1) := by decide +kernel
theorem dX8_line_68 : decode cX8_line 68 = .ok (.getfield 31, 3) := by decide +kernel
theorem dX8_line_71 : decode cX8_line 71 = .ok (.aload_n 0, 1) := by decide +kernel
theorem dX8_line_72 : decode cX8_line 72 = .ok (.getfield 54, 3) := by decide +kernel
theorem dX8_line_75 : decode cX8_line 75 = .ok (.invokevirtual 131, 3) := by decide +kernel
theorem dX8_line_78 : decode cX8_line 78 = .ok (.ireturn, 1) := by decide +kernel
theorem dX8_flood_0 : decode cX8_flood 0 = .ok (.aload_n 0, 1) := by decide +kernel
theorem dX8_flood_1 : decode cX8_flood 1 = .ok (.getfield 54, 3) := by decide +kernel
theorem dX8_flood_4 : decode cX8_flood 4 = .ok (.bipush 102, 2) := by decide +kernel
theorem dX8_flood_6 : decode cX8_flood 6 = .ok (.invokevirtual 112, 3) := by decide +kernel
theorem dX8_flood_9 : decode cX8_flood 9 = .ok (.aload_n 0, 1) := by decide +kernel
theorem dX8_flood_10 : decode cX8_flood 10 = .ok (.getfield 54, 3) := by decide +kernel
theorem dX8_flood_13 : decode cX8_flood 13 = .ok (.iload_n 1, 1) := by decide +kernel
theorem dX8_flood_14 : decode cX8_flood 14 = .ok (.invokevirtual 116, 3) := by decide +kernel
theorem dX8_flood_17 : decode cX8_flood 17 = .ok (.iload_n 2, 1) := by decide +kernel
theorem dX8_flood_18 : decode cX8_flood 18 = .ok (.invokevirtual 116, 3) := by decide +kernel
theorem dX8_flood_21 : decode cX8_flood 21 = .ok (.iload_n 3, 1) := by decide +kernel
theorem dX8_flood_22 : decode cX8_flood 22 = .ok (.invokevirtual 116, 3) := by decide +kernel
theorem dX8_flood_25 : decode cX8_flood 25 = .ok (.pop, 1) := by decide +kernel
theorem dX8_flood_26 : decode cX8_flood 26 = .ok (.aload_n 0, 1) := by decide +kernel
theorem dX8_flood_27 : decode cX8_flood 27 = .ok (.getfield 54, 3) := by decide +kernel
theorem dX8_flood_30 : decode cX8_flood 30 = .ok (.invokevirtual 120, 3) := by decide +kernel
theorem dX8_flood_33 : decode cX8_flood 33 = .ok (.ifCond .ne 8, 3) := by decide +kernel
theorem dX8_flood_36 : decode cX8_flood 36 = .ok (.aload_n 0, 1) := by decide +kernel
theorem dX8_flood_37 : decode cX8_flood 37 = .ok (.invokevirtual 77, 3) := by decide +kernel
theorem dX8_flood_40 : decode cX8_flood 40 = .ok (.ireturn, 1) := by decide +kernel
theorem dX8_flood_41 : decode cX8_flood 41 = .ok (.aload_n 0, 1) := by decide +kernel
theorem dX8_flood_42 : decode cX8_flood 42 = .ok (.getfield 13, 3) := by decide +kernel
theorem dX8_flood_45 : decode cX8_flood 45 = .ok (.iload_n 2, 1) := by decide +kernel
theorem dX8_flood_46 : decode cX8_flood 46 = .ok (.iload_n 3, 1) := by decide +kernel
theorem dX8_flood_47 : decode cX8_flood 47 = .ok (.invokevirtual 135, 3) := by decide +kernel
theorem dX8_flood_50 : decode cX8_flood 50 = .ok (.ifCond .ne 8, 3) := by decide +kernel
theorem dX8_flood_53 : decode cX8_flood 53 = .ok (.aload_n 0, 1) := by decide +kernel
theorem dX8_flood_54 : decode cX8_flood 54 = .ok (.invokevirtual 138, 3) := by decide +kernel
theorem dX8_flood_57 : decode cX8_flood 57 = .ok (.ireturn, 1) := by decide +kernel
theorem dX8_flood_58 : decode cX8_flood 58 = .ok (.aload_n 0, 1) := by decide +kernel
theorem dX8_flood_59 : decode cX8_flood 59 = .ok (.getfield 22, 3) := by decide +kernel
theorem dX8_flood_62 : decode cX8_flood 62 = .ok (.aload_n 0, 1) := by decide +kernel
theorem dX8_flood_63 : decode cX8_flood 63 = .ok (.getfield 13, 3) := by decide +kernel
theorem dX8_flood_66 : decode cX8_flood 66 = .ok (.invokevirtual 81, 3) := by decide +kernel
theorem dX8_flood_69 : decode cX8_flood 69 = .ok (.aload_n 0, 1) := by decide +kernel
theorem dX8_flood_70 : decode cX8_flood 70 = .ok (.getfield 31, 3) := by decide +kernel
theorem dX8_flood_73 : decode cX8_flood 73 = .ok (.aload_n 0, 1) := by decide +kernel
theorem dX8_flood_74 : decode cX8_flood 74 = .ok (.getfield 54, 3) := by decide +kernel
theorem dX8_flood_77 : decode cX8_flood 77 = .ok (.invokevirtual 131, 3) := by decide +kernel
theorem dX8_flood_80 : decode cX8_flood 80 = .ok (.ireturn, 1) := by decide +kernel
theorem dX8_rectangle_0 : decode cX8_rectangle 0 = .ok (.aload_n 0, 1) := by decide +kernel
theorem dX8_rectangle_1 : decode cX8_rectangle 1 = .ok (.getfield 54, 3) := by decide +kernel
theorem dX8_rectangle_4 : decode cX8_rectangle 4 = .ok (.bipush 114, 2) := by decide +kernel
theorem dX8_rectangle_6 : decode cX8_rectangle 6 = .ok (.invokevirtual 112, 3) := by decide +kernel
theorem dX8_rectangle_9 : decode cX8_rectangle 9 = .ok (.aload_n 0, 1) := by decide +kernel
theorem dX8_rectangle_10 : decode cX8_rectangle 10 = .ok (.getfield 54, 3) := by decide +kernel
theorem dX8_rectangle_13 : decode cX8_rectangle 13 = .ok (.iload_n 1, 1) := by decide +kernel
theorem dX8_rectangle_14 : decode cX8_rectangle 14 = .ok (.invokevirtual 116, 3) := by decide +kernel
theorem dX8_rectangle_17 : decode cX8_rectangle 17 = .ok (.iload_n 2, 1) := by decide +kernel
theorem dX8_rectangle_18 : decode cX8_rectangle 18 = .ok (.invokevirtual 116, 3) := by decide +kernel
theorem dX8_rectangle_21 : decode cX8_rectangle 21 = .ok (.iload_n 3, 1) := by decide +kernel
theorem dX8_rectangle_22 : decode cX8_rectangle 22 = .ok (.invokevirtual 116, 3) := by decide +kernel
theorem dX8_rectangle_25 : decode cX8_rectangle 25 = .ok (.iload 4, 2) := by decide +kernel
theorem dX8_rectangle_27 : decode cX8_rectangle 27 = .ok (.invokevirtual 116, 3) := by decide +kernel
theorem dX8_rectangle_30 : decode cX8_rectangle 30 = .ok (.iload 5, 2) := by decide +kernel
theorem dX8_rectangle_32 : decode cX8_rectangle 32 = .ok (.invokevirtual 116, 3) := by decide +kernel
theorem dX8_rectangle_35 : decode cX8_rectangle 35 = .ok (.iload 6, 2) := by decide +kernel
theorem dX8_rectangle_37 : decode cX8_rectangle 37 = .ok (.invokevirtual 116, 3) := by decide +kernel
theorem dX8_rectangle_40 : decode cX8_rectangle 40 = .ok (.pop, 1) := by decide +kernel
theorem dX8_rectangle_41 : decode cX8_rectangle 41 = .ok (.aload_n 0, 1) := by decide +kernel
theorem dX8_rectangle_42 : decode cX8_rectangle 42 = .ok (.getfield 54, 3) := by decide +kernel
theorem dX8_rectangle_45 : decode cX8_rectangle 45 = .ok (.invokevirtual 120, 3) := by decide +kernel
theorem dX8_rectangle_48 : decode cX8_rectangle 48 = .ok (.ifCond .ne 8, 3) := by decide +kernel
theorem dX8_rectangle_51 : decode cX8_rectangle 51 = .ok (.aload_n 0, 1) := by decide +kernel
theorem dX8_rectangle_52 : decode cX8_rectangle 52 = .ok (.invokevirtual 77, 3) := by decide +kernel
theorem dX8_rectangle_55 : decode cX8_rectangle 55 = .ok (.ireturn, 1) := by decide +kernel
theorem dX8_rectangle_56 : decode cX8_rectangle 56 = .ok (.aload_n 0, 1) := by decide +kernel
theorem dX8_rectangle_57 : decode cX8_rectangle 57 = .ok (.getfield 22, 3) := by decide +kernel
theorem dX8_rectangle_60 : decode cX8_rectangle 60 = .ok (.aload_n 0, 1) := by decide +kernel
theorem dX8_rectangle_61 : decode cX8_rectangle 61 = .ok (.getfield 13, 3) := by decide +kernel
theorem dX8_rectangle_64 : decode cX8_rectangle 64 = .ok (.invokevirtual 81, 3) := by decide +kernel
theorem dX8_rectangle_67 : decode cX8_rectangle 67 = .ok (.aload_n 0, 1) := by decide +kernel
theorem dX8_rectangle_68 : decode cX8_rectangle 68 = .ok (.getfield 31, 3) := by decide +kernel
theorem dX8_rectangle_71 : decode cX8_rectangle 71 = .ok (.aload_n 0, 1) := by decide +kernel
theorem dX8_rectangle_72 : decode cX8_rectangle 72 = .ok (.getfield 54, 3) := by decide +kernel
theorem dX8_rectangle_75 : decode cX8_rectangle 75 = .ok (.invokevirtual 131, 3) := by decide +kernel
theorem dX8_rectangle_78 : decode cX8_rectangle 78 = .ok (.ireturn, 1) := by decide +kernel
theorem dX8_letter_0 : decode cX8_letter 0 = .ok (.aload_n 0, 1) := by decide +kernel
theorem dX8_letter_1 : decode cX8_letter 1 = .ok (.getfield 54, 3) := by decide +kernel
theorem dX8_letter_4 : decode cX8_letter 4 = .ok (.bipush 99, 2) := by decide +kernel
theorem dX8_letter_6 : decode cX8_letter 6 = .ok (.invokevirtual 112, 3) := by decide +kernel
theorem dX8_letter_9 : decode cX8_letter 9 = .ok (.aload_n 0, 1) := by decide +kernel
theorem dX8_letter_10 : decode cX8_letter 10 = .ok (.getfield 54, 3) := by decide +kernel
theorem dX8_letter_13 : decode cX8_letter 13 = .ok (.iload_n 1, 1) := by decide +kernel
theorem dX8_letter_14 : decode cX8_letter 14 = .ok (.invokevirtual 116, 3) := by decide +kernel
theorem dX8_letter_17 : decode cX8_letter 17 = .ok (.iload_n 2, 1) := by decide +kernel
theorem dX8_letter_18 : decode cX8_letter 18 = .ok (.invokevirtual 116, 3) := by decide +kernel
theorem dX8_letter_21 : decode cX8_letter 21 = .ok (.iload_n 3, 1) := by decide +kernel
theorem dX8_letter_22 : decode cX8_letter 22 = .ok (.invokevirtual 116, 3) := by decide +kernel
theorem dX8_letter_25 : decode cX8_letter 25 = .ok (.iload 4, 2) := by decide +kernel
theorem dX8_letter_27 : decode cX8_letter 27 = .ok (.invokevirtual 116, 3) := by decide +kernel
theorem dX8_letter_30 : decode cX8_letter 30 = .ok (.iload 5, 2) := by decide +kernel
theorem dX8_letter_32 : decode cX8_letter 32 = .ok (.invokevirtual 116, 3) := by decide +kernel
theorem dX8_letter_35 : decode cX8_letter 35 = .ok (.pop, 1) := by decide +kernel
theorem dX8_letter_36 : decode cX8_letter 36 = .ok (.aload_n 0, 1) := by decide +kernel
theorem dX8_letter_37 : decode cX8_letter 37 = .ok (.getfield 54, 3) := by decide +kernel
theorem dX8_letter_40 : decode cX8_letter 40 = .ok (.invokevirtual 120, 3) := by decide +kernel
theorem dX8_letter_43 : decode cX8_letter 43 = .ok (.ifCond .ne 8, 3) := by decide +kernel
theorem dX8_letter_46 : decode cX8_letter 46 = .ok (.aload_n 0, 1) := by decide +kernel
theorem dX8_letter_47 : decode cX8_letter 47 = .ok (.invokevirtual 77, 3) := by decide +kernel
theorem dX8_letter_50 : decode cX8_letter 50 = .ok (.ireturn, 1) := by decide +kernel
theorem dX8_letter_51 : decode cX8_letter 51 = .ok (.aload_n 0, 1) := by decide +kernel
theorem dX8_letter_52 : decode cX8_letter 52 = .ok (.getfield 22, 3) := by decide +kernel
theorem dX8_letter_55 : decode cX8_letter 55 = .ok (.aload_n 0, 1) := by decide +kernel
theorem dX8_letter_56 : decode cX8_letter 56 = .ok (.getfield 13, 3) := by decide +kernel
theorem dX8_letter_59 : decode cX8_letter 59 = .ok (.invokevirtual 81, 3) := by decide +kernel
theorem dX8_letter_62 : decode cX8_letter 62 = .ok (.aload_n 0, 1) := by decide +kernel
theorem dX8_letter_63 : decode cX8_letter 63 = .ok (.getfield 31, 3) := by decide +kernel
theorem dX8_letter_66 : decode cX8_letter 66 = .ok (.aload_n 0, 1) := by decide +kernel
theorem dX8_letter_67 : decode cX8_letter 67 = .ok (.getfield 54, 3) := by decide +kernel
theorem dX8_letter_70 : decode cX8_letter 70 = .ok (.invokevirtual 131, 3) := by decide +kernel
theorem dX8_letter_73 : decode cX8_letter 73 = .ok (.ireturn, 1) := by decide +kernel
theorem dX8_joins_0 : decode cX8_joins 0 = .ok (.iload_n 1, 1) := by decide +kernel
theorem dX8_joins_1 : decode cX8_joins 1 = .ok (.invokestatic 65, 3) := by decide +kernel
theorem dX8_joins_4 : decode cX8_joins 4 = .ok (.ifCond .eq 21, 3) := by decide +kernel
theorem dX8_joins_7 : decode cX8_joins 7 = .ok (.iload_n 2, 1) := by decide +kernel
theorem dX8_joins_8 : decode cX8_joins 8 = .ok (.invokestatic 65, 3) := by decide +kernel
theorem dX8_joins_11 : decode cX8_joins 11 = .ok (.ifCond .eq 14, 3) := by decide +kernel
theorem dX8_joins_14 : decode cX8_joins 14 = .ok (.iload_n 3, 1) := by decide +kernel
theorem dX8_joins_15 : decode cX8_joins 15 = .ok (.iconst 0, 1) := by decide +kernel
theorem dX8_joins_16 : decode cX8_joins 16 = .ok (.sipush 255, 3) := by decide +kernel
theorem dX8_joins_19 : decode cX8_joins 19 = .ok (.invokestatic 73, 3) := by decide +kernel
theorem dX8_joins_22 : decode cX8_joins 22 = .ok (.ifCond .ne 8, 3) := by decide +kernel
theorem dX8_joins_25 : decode cX8_joins 25 = .ok (.aload_n 0, 1) := by decide +kernel
theorem dX8_joins_26 : decode cX8_joins 26 = .ok (.invokevirtual 77, 3) := by decide +kernel
theorem dX8_joins_29 : decode cX8_joins 29 = .ok (.ireturn, 1) := by decide +kernel
theorem dX8_joins_30 : decode cX8_joins 30 = .ok (.aload_n 0, 1) := by decide +kernel
theorem dX8_joins_31 : decode cX8_joins 31 = .ok (.getfield 22, 3) := by decide +kernel
theorem dX8_joins_34 : decode cX8_joins 34 = .ok (.aload_n 0, 1) := by decide +kernel
theorem dX8_joins_35 : decode cX8_joins 35 = .ok (.getfield 13, 3) := by decide +kernel
theorem dX8_joins_38 : decode cX8_joins 38 = .ok (.invokevirtual 81, 3) := by decide +kernel
theorem dX8_joins_41 : decode cX8_joins 41 = .ok (.aload_n 0, 1) := by decide +kernel
theorem dX8_joins_42 : decode cX8_joins 42 = .ok (.getfield 40, 3) := by decide +kernel
theorem dX8_joins_45 : decode cX8_joins 45 = .ok (.iload_n 1, 1) := by decide +kernel
theorem dX8_joins_46 : decode cX8_joins 46 = .ok (.iload_n 2, 1) := by decide +kernel
theorem dX8_joins_47 : decode cX8_joins 47 = .ok (.iload_n 3, 1) := by decide +kernel
theorem dX8_joins_48 : decode cX8_joins 48 = .ok (.invokevirtual 141, 3) := by decide +kernel
theorem dX8_joins_51 : decode cX8_joins 51 = .ok (.ireturn, 1) := by decide +kernel
theorem dX8_changes_0 : decode cX8_changes 0 = .ok (.iload_n 1, 1) := by decide +kernel
theorem dX8_changes_1 : decode cX8_changes 1 = .ok (.invokestatic 65, 3) := by decide +kernel
theorem dX8_changes_4 : decode cX8_changes 4 = .ok (.ifCond .eq 12, 3) := by decide +kernel
theorem dX8_changes_7 : decode cX8_changes 7 = .ok (.iload_n 2, 1) := by decide +kernel
theorem dX8_changes_8 : decode cX8_changes 8 = .ok (.iconst 0, 1) := by decide +kernel
theorem dX8_changes_9 : decode cX8_changes 9 = .ok (.iconst 4, 1) := by decide +kernel
theorem dX8_changes_10 : decode cX8_changes 10 = .ok (.invokestatic 73, 3) := by decide +kernel
theorem dX8_changes_13 : decode cX8_changes 13 = .ok (.ifCond .ne 8, 3) := by decide +kernel
theorem dX8_changes_16 : decode cX8_changes 16 = .ok (.aload_n 0, 1) := by decide +kernel
theorem dX8_changes_17 : decode cX8_changes 17 = .ok (.invokevirtual 77, 3) := by decide +kernel
theorem dX8_changes_20 : decode cX8_changes 20 = .ok (.ireturn, 1) := by decide +kernel
theorem dX8_changes_21 : decode cX8_changes 21 = .ok (.aload_n 0, 1) := by decide +kernel
theorem dX8_changes_22 : decode cX8_changes 22 = .ok (.getfield 22, 3) := by decide +kernel
theorem dX8_changes_25 : decode cX8_changes 25 = .ok (.aload_n 0, 1) := by decide +kernel
theorem dX8_changes_26 : decode cX8_changes 26 = .ok (.getfield 13, 3) := by decide +kernel
theorem dX8_changes_29 : decode cX8_changes 29 = .ok (.invokevirtual 81, 3) := by decide +kernel
theorem dX8_changes_32 : decode cX8_changes 32 = .ok (.aload_n 0, 1) := by decide +kernel
theorem dX8_changes_33 : decode cX8_changes 33 = .ok (.getfield 40, 3) := by decide +kernel
theorem dX8_changes_36 : decode cX8_changes 36 = .ok (.iload_n 1, 1) := by decide +kernel
theorem dX8_changes_37 : decode cX8_changes 37 = .ok (.iload_n 2, 1) := by decide +kernel
theorem dX8_changes_38 : decode cX8_changes 38 = .ok (.invokevirtual 144, 3) := by decide +kernel
theorem dX8_changes_41 : decode cX8_changes 41 = .ok (.ireturn, 1) := by decide +kernel
theorem dX8_rolls_0 : decode cX8_rolls 0 = .ok (.iload_n 1, 1) := by decide +kernel
theorem dX8_rolls_1 : decode cX8_rolls 1 = .ok (.invokestatic 65, 3) := by decide +kernel
theorem dX8_rolls_4 : decode cX8_rolls 4 = .ok (.ifCond .eq 25, 3) := by decide +kernel
theorem dX8_rolls_7 : decode cX8_rolls 7 = .ok (.iload_n 2, 1) := by decide +kernel
theorem dX8_rolls_8 : decode cX8_rolls 8 = .ok (.bipush (-31), 2) := by decide +kernel
theorem dX8_rolls_10 : decode cX8_rolls 10 = .ok (.bipush 31, 2) := by decide +kernel
theorem dX8_rolls_12 : decode cX8_rolls 12 = .ok (.invokestatic 73, 3) := by decide +kernel
theorem dX8_rolls_15 : decode cX8_rolls 15 = .ok (.ifCond .eq 14, 3) := by decide +kernel
theorem dX8_rolls_18 : decode cX8_rolls 18 = .ok (.iload_n 3, 1) := by decide +kernel
theorem dX8_rolls_19 : decode cX8_rolls 19 = .ok (.bipush (-31), 2) := by decide +kernel
theorem dX8_rolls_21 : decode cX8_rolls 21 = .ok (.bipush 31, 2) := by decide +kernel
theorem dX8_rolls_23 : decode cX8_rolls 23 = .ok (.invokestatic 73, 3) := by decide +kernel
theorem dX8_rolls_26 : decode cX8_rolls 26 = .ok (.ifCond .ne 8, 3) := by decide +kernel
theorem dX8_rolls_29 : decode cX8_rolls 29 = .ok (.aload_n 0, 1) := by decide +kernel
theorem dX8_rolls_30 : decode cX8_rolls 30 = .ok (.invokevirtual 77, 3) := by decide +kernel
theorem dX8_rolls_33 : decode cX8_rolls 33 = .ok (.ireturn, 1) := by decide +kernel
theorem dX8_rolls_34 : decode cX8_rolls 34 = .ok (.aload_n 0, 1) := by decide +kernel
theorem dX8_rolls_35 : decode cX8_rolls 35 = .ok (.getfield 22, 3) := by decide +kernel
theorem dX8_rolls_38 : decode cX8_rolls 38 = .ok (.aload_n 0, 1) := by decide +kernel
theorem dX8_rolls_39 : decode cX8_rolls 39 = .ok (.getfield 13, 3) := by decide +kernel
theorem dX8_rolls_42 : decode cX8_rolls 42 = .ok (.invokevirtual 81, 3) := by decide +kernel
theorem dX8_rolls_45 : decode cX8_rolls 45 = .ok (.aload_n 0, 1) := by decide +kernel
theorem dX8_rolls_46 : decode cX8_rolls 46 = .ok (.getfield 40, 3) := by decide +kernel
theorem dX8_rolls_49 : decode cX8_rolls 49 = .ok (.iload_n 1, 1) := by decide +kernel
theorem dX8_rolls_50 : decode cX8_rolls 50 = .ok (.iload_n 2, 1) := by decide +kernel
theorem dX8_rolls_51 : decode cX8_rolls 51 = .ok (.iload_n 3, 1) := by decide +kernel
theorem dX8_rolls_52 : decode cX8_rolls 52 = .ok (.invokevirtual 147, 3) := by decide +kernel
theorem dX8_rolls_55 : decode cX8_rolls 55 = .ok (.ireturn, 1) := by decide +kernel
theorem dX8_at_0 : decode cX8_at 0 = .ok (.iload_n 1, 1) := by decide +kernel
theorem dX8_at_1 : decode cX8_at 1 = .ok (.invokestatic 65, 3) := by decide +kernel
theorem dX8_at_4 : decode cX8_at 4 = .ok (.ifCond .eq 16, 3) := by decide +kernel
theorem dX8_at_7 : decode cX8_at 7 = .ok (.aload_n 0, 1) := by decide +kernel
theorem dX8_at_8 : decode cX8_at 8 = .ok (.getfield 13, 3) := by decide +kernel
theorem dX8_at_11 : decode cX8_at 11 = .ok (.iload_n 1, 1) := by decide +kernel
theorem dX8_at_12 : decode cX8_at 12 = .ok (.iload_n 2, 1) := by decide +kernel
theorem dX8_at_13 : decode cX8_at 13 = .ok (.iload_n 3, 1) := by decide +kernel
theorem dX8_at_14 : decode cX8_at 14 = .ok (.invokevirtual 84, 3) := by decide +kernel
theorem dX8_at_17 : decode cX8_at 17 = .ok (.goto 7, 3) := by decide +kernel
theorem dX8_at_20 : decode cX8_at 20 = .ok (.aload_n 0, 1) := by decide +kernel
theorem dX8_at_21 : decode cX8_at 21 = .ok (.invokevirtual 77, 3) := by decide +kernel
theorem dX8_at_24 : decode cX8_at 24 = .ok (.ireturn, 1) := by decide +kernel
theorem dX8_row_0 : decode cX8_row 0 = .ok (.iload_n 1, 1) := by decide +kernel
theorem dX8_row_1 : decode cX8_row 1 = .ok (.invokestatic 65, 3) := by decide +kernel
theorem dX8_row_4 : decode cX8_row 4 = .ok (.ifCond .eq 13, 3) := by decide +kernel
theorem dX8_row_7 : decode cX8_row 7 = .ok (.iload_n 2, 1) := by decide +kernel
theorem dX8_row_8 : decode cX8_row 8 = .ok (.iconst 0, 1) := by decide +kernel
theorem dX8_row_9 : decode cX8_row 9 = .ok (.bipush 23, 2) := by decide +kernel
theorem dX8_row_11 : decode cX8_row 11 = .ok (.invokestatic 73, 3) := by decide +kernel
theorem dX8_row_14 : decode cX8_row 14 = .ok (.ifCond .ne 10, 3) := by decide +kernel
theorem dX8_row_17 : decode cX8_row 17 = .ok (.aload_n 0, 1) := by decide +kernel
theorem dX8_row_18 : decode cX8_row 18 = .ok (.invokevirtual 77, 3) := by decide +kernel
theorem dX8_row_21 : decode cX8_row 21 = .ok (.pop, 1) := by decide +kernel
theorem dX8_row_22 : decode cX8_row 22 = .ok (.iconst 0, 1) := by decide +kernel
theorem dX8_row_23 : decode cX8_row 23 = .ok (.ireturn, 1) := by decide +kernel
theorem dX8_row_24 : decode cX8_row 24 = .ok (.aload_n 0, 1) := by decide +kernel
theorem dX8_row_25 : decode cX8_row 25 = .ok (.getfield 13, 3) := by decide +kernel
theorem dX8_row_28 : decode cX8_row 28 = .ok (.iload_n 1, 1) := by decide +kernel
theorem dX8_row_29 : decode cX8_row 29 = .ok (.iload_n 2, 1) := by decide +kernel
theorem dX8_row_30 : decode cX8_row 30 = .ok (.invokevirtual 88, 3) := by decide +kernel
theorem dX8_row_33 : decode cX8_row 33 = .ok (.ireturn, 1) := by decide +kernel
theorem dX8_of_0 : decode cX8_of 0 = .ok (.iload_n 1, 1) := by decide +kernel
theorem dX8_of_1 : decode cX8_of 1 = .ok (.invokestatic 65, 3) := by decide +kernel
theorem dX8_of_4 : decode cX8_of 4 = .ok (.ifCond .eq 13, 3) := by decide +kernel
theorem dX8_of_7 : decode cX8_of 7 = .ok (.iload_n 2, 1) := by decide +kernel
theorem dX8_of_8 : decode cX8_of 8 = .ok (.iconst 0, 1) := by decide +kernel
theorem dX8_of_9 : decode cX8_of 9 = .ok (.bipush 6, 2) := by decide +kernel
theorem dX8_of_11 : decode cX8_of 11 = .ok (.invokestatic 73, 3) := by decide +kernel
theorem dX8_of_14 : decode cX8_of 14 = .ok (.ifCond .ne 8, 3) := by decide +kernel
theorem dX8_of_17 : decode cX8_of 17 = .ok (.aload_n 0, 1) := by decide +kernel
theorem dX8_of_18 : decode cX8_of 18 = .ok (.invokevirtual 77, 3) := by decide +kernel
theorem dX8_of_21 : decode cX8_of 21 = .ok (.ireturn, 1) := by decide +kernel
theorem dX8_of_22 : decode cX8_of 22 = .ok (.aload_n 0, 1) := by decide +kernel
theorem dX8_of_23 : decode cX8_of 23 = .ok (.getfield 47, 3) := by decide +kernel
theorem dX8_of_26 : decode cX8_of 26 = .ok (.iload_n 1, 1) := by decide +kernel
theorem dX8_of_27 : decode cX8_of 27 = .ok (.iload_n 2, 1) := by decide +kernel
theorem dX8_of_28 : decode cX8_of 28 = .ok (.invokevirtual 150, 3) := by decide +kernel
theorem dX8_of_31 : decode cX8_of 31 = .ok (.ireturn, 1) := by decide +kernel
theorem dX8_count_0 : decode cX8_count 0 = .ok (.iload_n 1, 1) := by decide +kernel
theorem dX8_count_1 : decode cX8_count 1 = .ok (.invokestatic 65, 3) := by decide +kernel
theorem dX8_count_4 : decode cX8_count 4 = .ok (.ifCond .eq 33, 3) := by decide +kernel
theorem dX8_count_7 : decode cX8_count 7 = .ok (.iload_n 2, 1) := by decide +kernel
theorem dX8_count_8 : decode cX8_count 8 = .ok (.invokestatic 153, 3) := by decide +kernel
theorem dX8_count_11 : decode cX8_count 11 = .ok (.ifCond .eq 26, 3) := by decide +kernel
theorem dX8_count_14 : decode cX8_count 14 = .ok (.iload_n 3, 1) := by decide +kernel
theorem dX8_count_15 : decode cX8_count 15 = .ok (.invokestatic 153, 3) := by decide +kernel
theorem dX8_count_18 : decode cX8_count 18 = .ok (.ifCond .eq 19, 3) := by decide +kernel
theorem dX8_count_21 : decode cX8_count 21 = .ok (.iload 4, 2) := by decide +kernel
theorem dX8_count_23 : decode cX8_count 23 = .ok (.invokestatic 156, 3) := by decide +kernel
theorem dX8_count_26 : decode cX8_count 26 = .ok (.ifCond .eq 11, 3) := by decide +kernel
theorem dX8_count_29 : decode cX8_count 29 = .ok (.iload 5, 2) := by decide +kernel
theorem dX8_count_31 : decode cX8_count 31 = .ok (.invokestatic 156, 3) := by decide +kernel
theorem dX8_count_34 : decode cX8_count 34 = .ok (.ifCond .ne 8, 3) := by decide +kernel
theorem dX8_count_37 : decode cX8_count 37 = .ok (.aload_n 0, 1) := by decide +kernel
theorem dX8_count_38 : decode cX8_count 38 = .ok (.invokevirtual 77, 3) := by decide +kernel
theorem dX8_count_41 : decode cX8_count 41 = .ok (.ireturn, 1) := by decide +kernel
theorem dX8_count_42 : decode cX8_count 42 = .ok (.aload_n 0, 1) := by decide +kernel
theorem dX8_count_43 : decode cX8_count 43 = .ok (.getfield 47, 3) := by decide +kernel
theorem dX8_count_46 : decode cX8_count 46 = .ok (.iload_n 1, 1) := by decide +kernel
theorem dX8_count_47 : decode cX8_count 47 = .ok (.iload_n 2, 1) := by decide +kernel
theorem dX8_count_48 : decode cX8_count 48 = .ok (.iload_n 3, 1) := by decide +kernel
theorem dX8_count_49 : decode cX8_count 49 = .ok (.iload 4, 2) := by decide +kernel
theorem dX8_count_51 : decode cX8_count 51 = .ok (.iload 5, 2) := by decide +kernel
theorem dX8_count_53 : decode cX8_count 53 = .ok (.invokevirtual 159, 3) := by decide +kernel
theorem dX8_count_56 : decode cX8_count 56 = .ok (.ireturn, 1) := by decide +kernel
theorem dX8_unlike_0 : decode cX8_unlike 0 = .ok (.iload_n 1, 1) := by decide +kernel
theorem dX8_unlike_1 : decode cX8_unlike 1 = .ok (.invokestatic 65, 3) := by decide +kernel
theorem dX8_unlike_4 : decode cX8_unlike 4 = .ok (.ifCond .eq 22, 3) := by decide +kernel
theorem dX8_unlike_7 : decode cX8_unlike 7 = .ok (.iload_n 2, 1) := by decide +kernel
theorem dX8_unlike_8 : decode cX8_unlike 8 = .ok (.invokestatic 65, 3) := by decide +kernel
theorem dX8_unlike_11 : decode cX8_unlike 11 = .ok (.ifCond .eq 15, 3) := by decide +kernel
theorem dX8_unlike_14 : decode cX8_unlike 14 = .ok (.aload_n 0, 1) := by decide +kernel
theorem dX8_unlike_15 : decode cX8_unlike 15 = .ok (.getfield 47, 3) := by decide +kernel
theorem dX8_unlike_18 : decode cX8_unlike 18 = .ok (.iload_n 1, 1) := by decide +kernel
theorem dX8_unlike_19 : decode cX8_unlike 19 = .ok (.iload_n 2, 1) := by decide +kernel
theorem dX8_unlike_20 : decode cX8_unlike 20 = .ok (.invokevirtual 163, 3) := by decide +kernel
theorem dX8_unlike_23 : decode cX8_unlike 23 = .ok (.goto 7, 3) := by decide +kernel
theorem dX8_unlike_26 : decode cX8_unlike 26 = .ok (.aload_n 0, 1) := by decide +kernel
theorem dX8_unlike_27 : decode cX8_unlike 27 = .ok (.invokevirtual 77, 3) := by decide +kernel
theorem dX8_unlike_30 : decode cX8_unlike 30 = .ok (.ireturn, 1) := by decide +kernel
theorem dX8_finds_0 : decode cX8_finds 0 = .ok (.iload_n 1, 1) := by decide +kernel
theorem dX8_finds_1 : decode cX8_finds 1 = .ok (.invokestatic 65, 3) := by decide +kernel
theorem dX8_finds_4 : decode cX8_finds 4 = .ok (.ifCond .eq 33, 3) := by decide +kernel
theorem dX8_finds_7 : decode cX8_finds 7 = .ok (.iload 6, 2) := by decide +kernel
theorem dX8_finds_9 : decode cX8_finds 9 = .ok (.invokestatic 65, 3) := by decide +kernel
theorem dX8_finds_12 : decode cX8_finds 12 = .ok (.ifCond .eq 25, 3) := by decide +kernel
theorem dX8_finds_15 : decode cX8_finds 15 = .ok (.iload 4, 2) := by decide +kernel
theorem dX8_finds_17 : decode cX8_finds 17 = .ok (.iconst 1, 1) := by decide +kernel
theorem dX8_finds_18 : decode cX8_finds 18 = .ok (.bipush 8, 2) := by decide +kernel
theorem dX8_finds_20 : decode cX8_finds 20 = .ok (.invokestatic 73, 3) := by decide +kernel
theorem dX8_finds_23 : decode cX8_finds 23 = .ok (.ifCond .eq 14, 3) := by decide +kernel
theorem dX8_finds_26 : decode cX8_finds 26 = .ok (.iload 5, 2) := by decide +kernel
theorem dX8_finds_28 : decode cX8_finds 28 = .ok (.iconst 1, 1) := by decide +kernel
theorem dX8_finds_29 : decode cX8_finds 29 = .ok (.bipush 8, 2) := by decide +kernel
theorem dX8_finds_31 : decode cX8_finds 31 = .ok (.invokestatic 73, 3) := by decide +kernel
theorem dX8_finds_34 : decode cX8_finds 34 = .ok (.ifCond .ne 8, 3) := by decide +kernel
theorem dX8_finds_37 : decode cX8_finds 37 = .ok (.aload_n 0, 1) := by decide +kernel
theorem dX8_finds_38 : decode cX8_finds 38 = .ok (.invokevirtual 77, 3) := by decide +kernel
theorem dX8_finds_41 : decode cX8_finds 41 = .ok (.ireturn, 1) := by decide +kernel
theorem dX8_finds_42 : decode cX8_finds 42 = .ok (.iload_n 2, 1) := by decide +kernel
theorem dX8_finds_43 : decode cX8_finds 43 = .ok (.iconst 0, 1) := by decide +kernel
theorem dX8_finds_44 : decode cX8_finds 44 = .ok (.bipush 32, 2) := by decide +kernel
theorem dX8_finds_46 : decode cX8_finds 46 = .ok (.iload 4, 2) := by decide +kernel
theorem dX8_finds_48 : decode cX8_finds 48 = .ok (.isub, 1) := by decide +kernel
theorem dX8_finds_49 : decode cX8_finds 49 = .ok (.invokestatic 73, 3) := by decide +kernel
theorem dX8_finds_52 : decode cX8_finds 52 = .ok (.ifCond .eq 16, 3) := by decide +kernel
theorem dX8_finds_55 : decode cX8_finds 55 = .ok (.iload_n 3, 1) := by decide +kernel
theorem dX8_finds_56 : decode cX8_finds 56 = .ok (.iconst 0, 1) := by decide +kernel
theorem dX8_finds_57 : decode cX8_finds 57 = .ok (.bipush 24, 2) := by decide +kernel
theorem dX8_finds_59 : decode cX8_finds 59 = .ok (.iload 5, 2) := by decide +kernel
theorem dX8_finds_61 : decode cX8_finds 61 = .ok (.isub, 1) := by decide +kernel
theorem dX8_finds_62 : decode cX8_finds 62 = .ok (.invokestatic 73, 3) := by decide +kernel
theorem dX8_finds_65 : decode cX8_finds 65 = .ok (.ifCond .ne 8, 3) := by decide +kernel
theorem dX8_finds_68 : decode cX8_finds 68 = .ok (.aload_n 0, 1) := by decide +kernel
theorem dX8_finds_69 : decode cX8_finds 69 = .ok (.invokevirtual 77, 3) := by decide +kernel
theorem dX8_finds_72 : decode cX8_finds 72 = .ok (.ireturn, 1) := by decide +kernel
theorem dX8_finds_73 : decode cX8_finds 73 = .ok (.aload_n 0, 1) := by decide +kernel
theorem dX8_finds_74 : decode cX8_finds 74 = .ok (.getfield 47, 3) := by decide +kernel
theorem dX8_finds_77 : decode cX8_finds 77 = .ok (.iload_n 1, 1) := by decide +kernel
theorem dX8_finds_78 : decode cX8_finds 78 = .ok (.iload_n 2, 1) := by decide +kernel
theorem dX8_finds_79 : decode cX8_finds 79 = .ok (.iload_n 3, 1) := by decide +kernel
theorem dX8_finds_80 : decode cX8_finds 80 = .ok (.iload 5, 2) := by decide +kernel
theorem dX8_finds_82 : decode cX8_finds 82 = .ok (.invokevirtual 166, 3) := by decide +kernel
theorem dX8_finds_85 : decode cX8_finds 85 = .ok (.aload_n 0, 1) := by decide +kernel
theorem dX8_finds_86 : decode cX8_finds 86 = .ok (.getfield 47, 3) := by decide +kernel
theorem dX8_finds_89 : decode cX8_finds 89 = .ok (.iload 6, 2) := by decide +kernel
theorem dX8_finds_91 : decode cX8_finds 91 = .ok (.iload 4, 2) := by decide +kernel
theorem dX8_finds_93 : decode cX8_finds 93 = .ok (.iload 5, 2) := by decide +kernel
theorem dX8_finds_95 : decode cX8_finds 95 = .ok (.invokevirtual 170, 3) := by decide +kernel
theorem dX8_finds_98 : decode cX8_finds 98 = .ok (.ireturn, 1) := by decide +kernel
theorem dX8_open_0 : decode cX8_open 0 = .ok (.iload_n 1, 1) := by decide +kernel
theorem dX8_open_1 : decode cX8_open 1 = .ok (.iload_n 2, 1) := by decide +kernel
theorem dX8_open_2 : decode cX8_open 2 = .ok (.invokestatic 69, 3) := by decide +kernel
theorem dX8_open_5 : decode cX8_open 5 = .ok (.ifCond .ne 8, 3) := by decide +kernel
theorem dX8_open_8 : decode cX8_open 8 = .ok (.aload_n 0, 1) := by decide +kernel
theorem dX8_open_9 : decode cX8_open 9 = .ok (.invokevirtual 77, 3) := by decide +kernel
theorem dX8_open_12 : decode cX8_open 12 = .ok (.ireturn, 1) := by decide +kernel
theorem dX8_open_13 : decode cX8_open 13 = .ok (.aload_n 0, 1) := by decide +kernel
theorem dX8_open_14 : decode cX8_open 14 = .ok (.getfield 13, 3) := by decide +kernel
theorem dX8_open_17 : decode cX8_open 17 = .ok (.iload_n 1, 1) := by decide +kernel
theorem dX8_open_18 : decode cX8_open 18 = .ok (.iload_n 2, 1) := by decide +kernel
theorem dX8_open_19 : decode cX8_open 19 = .ok (.invokevirtual 135, 3) := by decide +kernel
theorem dX8_open_22 : decode cX8_open 22 = .ok (.ifCond .eq 7, 3) := by decide +kernel
theorem dX8_open_25 : decode cX8_open 25 = .ok (.iconst 1, 1) := by decide +kernel
theorem dX8_open_26 : decode cX8_open 26 = .ok (.goto 4, 3) := by decide +kernel
theorem dX8_open_29 : decode cX8_open 29 = .ok (.iconst 0, 1) := by decide +kernel
theorem dX8_open_30 : decode cX8_open 30 = .ok (.ireturn, 1) := by decide +kernel
theorem dX8_type_0 : decode cX8_type 0 = .ok (.iload_n 1, 1) := by decide +kernel
theorem dX8_type_1 : decode cX8_type 1 = .ok (.iconst 0, 1) := by decide +kernel
theorem dX8_type_2 : decode cX8_type 2 = .ok (.bipush 127, 2) := by decide +kernel
theorem dX8_type_4 : decode cX8_type 4 = .ok (.invokestatic 73, 3) := by decide +kernel
theorem dX8_type_7 : decode cX8_type 7 = .ok (.ifCond .ne 8, 3) := by decide +kernel
theorem dX8_type_10 : decode cX8_type 10 = .ok (.aload_n 0, 1) := by decide +kernel
theorem dX8_type_11 : decode cX8_type 11 = .ok (.invokevirtual 77, 3) := by decide +kernel
theorem dX8_type_14 : decode cX8_type 14 = .ok (.ireturn, 1) := by decide +kernel
theorem dX8_type_15 : decode cX8_type 15 = .ok (.aload_n 0, 1) := by decide +kernel
theorem dX8_type_16 : decode cX8_type 16 = .ok (.getfield 61, 3) := by decide +kernel
theorem dX8_type_19 : decode cX8_type 19 = .ok (.getfield 173, 3) := by decide +kernel
theorem dX8_type_22 : decode cX8_type 22 = .ok (.bipush 120, 2) := by decide +kernel
theorem dX8_type_24 : decode cX8_type 24 = .ok (.if_icmp .lt 8, 3) := by decide +kernel
theorem dX8_type_27 : decode cX8_type 27 = .ok (.aload_n 0, 1) := by decide +kernel
theorem dX8_type_28 : decode cX8_type 28 = .ok (.invokevirtual 128, 3) := by decide +kernel
theorem dX8_type_31 : decode cX8_type 31 = .ok (.ireturn, 1) := by decide +kernel
theorem dX8_type_32 : decode cX8_type 32 = .ok (.aload_n 0, 1) := by decide +kernel
theorem dX8_type_33 : decode cX8_type 33 = .ok (.getfield 61, 3) := by decide +kernel
theorem dX8_type_36 : decode cX8_type 36 = .ok (.iload_n 1, 1) := by decide +kernel
theorem dX8_type_37 : decode cX8_type 37 = .ok (.invokevirtual 176, 3) := by decide +kernel
theorem dX8_type_40 : decode cX8_type 40 = .ok (.aload_n 0, 1) := by decide +kernel
theorem dX8_type_41 : decode cX8_type 41 = .ok (.getfield 61, 3) := by decide +kernel
theorem dX8_type_44 : decode cX8_type 44 = .ok (.getfield 173, 3) := by decide +kernel
theorem dX8_type_47 : decode cX8_type 47 = .ok (.ireturn, 1) := by decide +kernel
theorem dX8_clear_0 : decode cX8_clear 0 = .ok (.aload_n 0, 1) := by decide +kernel
theorem dX8_clear_1 : decode cX8_clear 1 = .ok (.getfield 61, 3) := by decide +kernel
theorem dX8_clear_4 : decode cX8_clear 4 = .ok (.getfield 173, 3) := by decide +kernel
theorem dX8_clear_7 : decode cX8_clear 7 = .ok (.istore_n 1, 1) := by decide +kernel
theorem dX8_clear_8 : decode cX8_clear 8 = .ok (.aload_n 0, 1) := by decide +kernel
theorem dX8_clear_9 : decode cX8_clear 9 = .ok (.getfield 61, 3) := by decide +kernel
theorem dX8_clear_12 : decode cX8_clear 12 = .ok (.iconst 0, 1) := by decide +kernel
theorem dX8_clear_13 : decode cX8_clear 13 = .ok (.putfield 173, 3) := by decide +kernel
theorem dX8_clear_16 : decode cX8_clear 16 = .ok (.iload_n 1, 1) := by decide +kernel
theorem dX8_clear_17 : decode cX8_clear 17 = .ok (.ireturn, 1) := by decide +kernel
theorem dX8_does_0 : decode cX8_does 0 = .ok (.aload_n 0, 1) := by decide +kernel
theorem dX8_does_1 : decode cX8_does 1 = .ok (.getfield 61, 3) := by decide +kernel
theorem dX8_does_4 : decode cX8_does 4 = .ok (.aload_n 0, 1) := by decide +kernel
theorem dX8_does_5 : decode cX8_does 5 = .ok (.getfield 54, 3) := by decide +kernel
theorem dX8_does_8 : decode cX8_does 8 = .ok (.aload_n 0, 1) := by decide +kernel
theorem dX8_does_9 : decode cX8_does 9 = .ok (.getfield 13, 3) := by decide +kernel
theorem dX8_does_12 : decode cX8_does 12 = .ok (.getfield 124, 3) := by decide +kernel
theorem dX8_does_15 : decode cX8_does 15 = .ok (.invokevirtual 179, 3) := by decide +kernel
theorem dX8_does_18 : decode cX8_does 18 = .ok (.istore_n 1, 1) := by decide +kernel
theorem dX8_does_19 : decode cX8_does 19 = .ok (.iload_n 1, 1) := by decide +kernel
theorem dX8_does_20 : decode cX8_does 20 = .ok (.iconst (-1), 1) := by decide +kernel
theorem dX8_does_21 : decode cX8_does 21 = .ok (.if_icmp .eq 8, 3) := by decide +kernel
theorem dX8_does_24 : decode cX8_does 24 = .ok (.bipush (-10), 2) := by decide +kernel
theorem dX8_does_26 : decode cX8_does 26 = .ok (.iload_n 1, 1) := by decide +kernel
theorem dX8_does_27 : decode cX8_does 27 = .ok (.isub, 1) := by decide +kernel
theorem dX8_does_28 : decode cX8_does 28 = .ok (.ireturn, 1) := by decide +kernel
theorem dX8_does_29 : decode cX8_does 29 = .ok (.aload_n 0, 1) := by decide +kernel
theorem dX8_does_30 : decode cX8_does 30 = .ok (.getfield 22, 3) := by decide +kernel
theorem dX8_does_33 : decode cX8_does 33 = .ok (.aload_n 0, 1) := by decide +kernel
theorem dX8_does_34 : decode cX8_does 34 = .ok (.getfield 13, 3) := by decide +kernel
theorem dX8_does_37 : decode cX8_does 37 = .ok (.invokevirtual 81, 3) := by decide +kernel
theorem dX8_does_40 : decode cX8_does 40 = .ok (.aload_n 0, 1) := by decide +kernel
theorem dX8_does_41 : decode cX8_does 41 = .ok (.getfield 61, 3) := by decide +kernel
theorem dX8_does_44 : decode cX8_does 44 = .ok (.invokevirtual 183, 3) := by decide +kernel
theorem dX8_does_47 : decode cX8_does 47 = .ok (.iconst 0, 1) := by decide +kernel
theorem dX8_does_48 : decode cX8_does 48 = .ok (.istore_n 2, 1) := by decide +kernel
theorem dX8_does_49 : decode cX8_does 49 = .ok (.iconst 0, 1) := by decide +kernel
theorem dX8_does_50 : decode cX8_does 50 = .ok (.istore_n 3, 1) := by decide +kernel
theorem dX8_does_51 : decode cX8_does 51 = .ok (.iload_n 3, 1) := by decide +kernel
theorem dX8_does_52 : decode cX8_does 52 = .ok (.bipush 120, 2) := by decide +kernel
theorem dX8_does_54 : decode cX8_does 54 = .ok (.if_icmp .ge 45, 3) := by decide +kernel
theorem dX8_does_57 : decode cX8_does 57 = .ok (.aload_n 0, 1) := by decide +kernel
theorem dX8_does_58 : decode cX8_does 58 = .ok (.getfield 61, 3) := by decide +kernel
theorem dX8_does_61 : decode cX8_does 61 = .ok (.invokevirtual 186, 3) := by decide +kernel
theorem dX8_does_64 : decode cX8_does 64 = .ok (.ifCond .ne 35, 3) := by decide +kernel
theorem dX8_does_67 : decode cX8_does 67 = .ok (.aload_n 0, 1) := by decide +kernel
theorem dX8_does_68 : decode cX8_does 68 = .ok (.getfield 61, 3) := by decide +kernel
theorem dX8_does_71 : decode cX8_does 71 = .ok (.aload_n 0, 1) := by decide +kernel
theorem dX8_does_72 : decode cX8_does 72 = .ok (.getfield 54, 3) := by decide +kernel
theorem dX8_does_75 : decode cX8_does 75 = .ok (.invokevirtual 189, 3) := by decide +kernel
theorem dX8_does_78 : decode cX8_does 78 = .ok (.pop, 1) := by decide +kernel
theorem dX8_does_79 : decode cX8_does 79 = .ok (.iload_n 2, 1) := by decide +kernel
theorem dX8_does_80 : decode cX8_does 80 = .ok (.aload_n 0, 1) := by decide +kernel
theorem dX8_does_81 : decode cX8_does 81 = .ok (.getfield 31, 3) := by decide +kernel
theorem dX8_does_84 : decode cX8_does 84 = .ok (.aload_n 0, 1) := by decide +kernel
theorem dX8_does_85 : decode cX8_does 85 = .ok (.getfield 54, 3) := by decide +kernel
theorem dX8_does_88 : decode cX8_does 88 = .ok (.invokevirtual 131, 3) := by decide +kernel
theorem dX8_does_91 : decode cX8_does 91 = .ok (.iadd, 1) := by decide +kernel
theorem dX8_does_92 : decode cX8_does 92 = .ok (.istore_n 2, 1) := by decide +kernel
theorem dX8_does_93 : decode cX8_does 93 = .ok (.iinc 3 1, 3) := by decide +kernel
theorem dX8_does_96 : decode cX8_does 96 = .ok (.goto (-45), 3) := by decide +kernel
theorem dX8_does_99 : decode cX8_does 99 = .ok (.iload_n 2, 1) := by decide +kernel
theorem dX8_does_100 : decode cX8_does 100 = .ok (.ireturn, 1) := by decide +kernel
theorem dX8_back_0 : decode cX8_back 0 = .ok (.aload_n 0, 1) := by decide +kernel
theorem dX8_back_1 : decode cX8_back 1 = .ok (.getfield 22, 3) := by decide +kernel
theorem dX8_back_4 : decode cX8_back 4 = .ok (.getfield 192, 3) := by decide +kernel
theorem dX8_back_7 : decode cX8_back 7 = .ok (.ifCond .ne 8, 3) := by decide +kernel
theorem dX8_back_10 : decode cX8_back 10 = .ok (.aload_n 0, 1) := by decide +kernel
theorem dX8_back_11 : decode cX8_back 11 = .ok (.invokevirtual 138, 3) := by decide +kernel
theorem dX8_back_14 : decode cX8_back 14 = .ok (.ireturn, 1) := by decide +kernel
theorem dX8_back_15 : decode cX8_back 15 = .ok (.aload_n 0, 1) := by decide +kernel
theorem dX8_back_16 : decode cX8_back 16 = .ok (.getfield 22, 3) := by decide +kernel
theorem dX8_back_19 : decode cX8_back 19 = .ok (.aload_n 0, 1) := by decide +kernel
theorem dX8_back_20 : decode cX8_back 20 = .ok (.getfield 13, 3) := by decide +kernel
theorem dX8_back_23 : decode cX8_back 23 = .ok (.invokevirtual 195, 3) := by decide +kernel
theorem dX8_back_26 : decode cX8_back 26 = .ok (.aload_n 0, 1) := by decide +kernel
theorem dX8_back_27 : decode cX8_back 27 = .ok (.getfield 22, 3) := by decide +kernel
theorem dX8_back_30 : decode cX8_back 30 = .ok (.getfield 192, 3) := by decide +kernel
theorem dX8_back_33 : decode cX8_back 33 = .ok (.ireturn, 1) := by decide +kernel
theorem dX8_told_0 : decode cX8_told 0 = .ok (.iload_n 1, 1) := by decide +kernel
theorem dX8_told_1 : decode cX8_told 1 = .ok (.iconst 0, 1) := by decide +kernel
theorem dX8_told_2 : decode cX8_told 2 = .ok (.iconst 5, 1) := by decide +kernel
theorem dX8_told_3 : decode cX8_told 3 = .ok (.invokestatic 73, 3) := by decide +kernel
theorem dX8_told_6 : decode cX8_told 6 = .ok (.ifCond .eq 11, 3) := by decide +kernel
theorem dX8_told_9 : decode cX8_told 9 = .ok (.aload_n 0, 1) := by decide +kernel
theorem dX8_told_10 : decode cX8_told 10 = .ok (.iload_n 1, 1) := by decide +kernel
theorem dX8_told_11 : decode cX8_told 11 = .ok (.invokevirtual 198, 3) := by decide +kernel
theorem dX8_told_14 : decode cX8_told 14 = .ok (.goto 7, 3) := by decide +kernel
theorem dX8_told_17 : decode cX8_told 17 = .ok (.aload_n 0, 1) := by decide +kernel
theorem dX8_told_18 : decode cX8_told 18 = .ok (.invokevirtual 77, 3) := by decide +kernel
theorem dX8_told_21 : decode cX8_told 21 = .ok (.ireturn, 1) := by decide +kernel
theorem dX8_digest_0 : decode cX8_digest 0 = .ok (.ldc2_w 201, 3) := by decide +kernel
theorem dX8_digest_3 : decode cX8_digest 3 = .ok (.lstore_n 1, 1) := by decide +kernel
theorem dX8_digest_4 : decode cX8_digest 4 = .ok (.iconst 0, 1) := by decide +kernel
theorem dX8_digest_5 : decode cX8_digest 5 = .ok (.istore_n 3, 1) := by decide +kernel
theorem dX8_digest_6 : decode cX8_digest 6 = .ok (.iload_n 3, 1) := by decide +kernel
theorem dX8_digest_7 : decode cX8_digest 7 = .ok (.iconst 5, 1) := by decide +kernel
theorem dX8_digest_8 : decode cX8_digest 8 = .ok (.if_icmp .gt 22, 3) := by decide +kernel
theorem dX8_digest_11 : decode cX8_digest 11 = .ok (.ldc2_w 203, 3) := by decide +kernel
theorem dX8_digest_14 : decode cX8_digest 14 = .ok (.lload_n 1, 1) := by decide +kernel
theorem dX8_digest_15 : decode cX8_digest 15 = .ok (.lmul, 1) := by decide +kernel
theorem dX8_digest_16 : decode cX8_digest 16 = .ok (.aload_n 0, 1) := by decide +kernel
theorem dX8_digest_17 : decode cX8_digest 17 = .ok (.iload_n 3, 1) := by decide +kernel
theorem dX8_digest_18 : decode cX8_digest 18 = .ok (.invokevirtual 198, 3) := by decide +kernel
theorem dX8_digest_21 : decode cX8_digest 21 = .ok (.i2l, 1) := by decide +kernel
theorem dX8_digest_22 : decode cX8_digest 22 = .ok (.ladd, 1) := by decide +kernel
theorem dX8_digest_23 : decode cX8_digest 23 = .ok (.lstore_n 1, 1) := by decide +kernel
theorem dX8_digest_24 : decode cX8_digest 24 = .ok (.iinc 3 1, 3) := by decide +kernel
theorem dX8_digest_27 : decode cX8_digest 27 = .ok (.goto (-21), 3) := by decide +kernel
theorem dX8_digest_30 : decode cX8_digest 30 = .ok (.aload_n 0, 1) := by decide +kernel
theorem dX8_digest_31 : decode cX8_digest 31 = .ok (.getfield 13, 3) := by decide +kernel
theorem dX8_digest_34 : decode cX8_digest 34 = .ok (.lload_n 1, 1) := by decide +kernel
theorem dX8_digest_35 : decode cX8_digest 35 = .ok (.invokevirtual 205, 3) := by decide +kernel
theorem dX8_digest_38 : decode cX8_digest 38 = .ok (.lreturn, 1) := by decide +kernel
theorem dX8_refusedBad_0 : decode cX8_refusedBad 0 = .ok (.aload_n 0, 1) := by decide +kernel
theorem dX8_refusedBad_1 : decode cX8_refusedBad 1 = .ok (.dup, 1) := by decide +kernel
theorem dX8_refusedBad_2 : decode cX8_refusedBad 2 = .ok (.getfield 209, 3) := by decide +kernel
theorem dX8_refusedBad_5 : decode cX8_refusedBad 5 = .ok (.iconst 1, 1) := by decide +kernel
theorem dX8_refusedBad_6 : decode cX8_refusedBad 6 = .ok (.iadd, 1) := by decide +kernel
theorem dX8_refusedBad_7 : decode cX8_refusedBad 7 = .ok (.putfield 209, 3) := by decide +kernel
theorem dX8_refusedBad_10 : decode cX8_refusedBad 10 = .ok (.bipush (-2), 2) := by decide +kernel
theorem dX8_refusedBad_12 : decode cX8_refusedBad 12 = .ok (.ireturn, 1) := by decide +kernel
theorem dX8_refusedNo_0 : decode cX8_refusedNo 0 = .ok (.aload_n 0, 1) := by decide +kernel
theorem dX8_refusedNo_1 : decode cX8_refusedNo 1 = .ok (.dup, 1) := by decide +kernel
theorem dX8_refusedNo_2 : decode cX8_refusedNo 2 = .ok (.getfield 212, 3) := by decide +kernel
theorem dX8_refusedNo_5 : decode cX8_refusedNo 5 = .ok (.iconst 1, 1) := by decide +kernel
theorem dX8_refusedNo_6 : decode cX8_refusedNo 6 = .ok (.iadd, 1) := by decide +kernel
theorem dX8_refusedNo_7 : decode cX8_refusedNo 7 = .ok (.putfield 212, 3) := by decide +kernel
theorem dX8_refusedNo_10 : decode cX8_refusedNo 10 = .ok (.bipush (-3), 2) := by decide +kernel
theorem dX8_refusedNo_12 : decode cX8_refusedNo 12 = .ok (.ireturn, 1) := by decide +kernel
theorem dX8_refusedFull_0 : decode cX8_refusedFull 0 = .ok (.aload_n 0, 1) := by decide +kernel
theorem dX8_refusedFull_1 : decode cX8_refusedFull 1 = .ok (.dup, 1) := by decide +kernel
theorem dX8_refusedFull_2 : decode cX8_refusedFull 2 = .ok (.getfield 215, 3) := by decide +kernel
theorem dX8_refusedFull_5 : decode cX8_refusedFull 5 = .ok (.iconst 1, 1) := by decide +kernel
theorem dX8_refusedFull_6 : decode cX8_refusedFull 6 = .ok (.iadd, 1) := by decide +kernel
theorem dX8_refusedFull_7 : decode cX8_refusedFull 7 = .ok (.putfield 215, 3) := by decide +kernel
theorem dX8_refusedFull_10 : decode cX8_refusedFull 10 = .ok (.bipush (-4), 2) := by decide +kernel
theorem dX8_refusedFull_12 : decode cX8_refusedFull 12 = .ok (.ireturn, 1) := by decide +kernel
theorem dX8_tally_0 : decode cX8_tally 0 = .ok (.iload_n 1, 1) := by decide +kernel
theorem dX8_tally_1 : decode cX8_tally 1 = .ok (.tableswitch 66 0 4 #[35, 40, 45, 50, 58], 35) := by decide +kernel
theorem dX8_tally_36 : decode cX8_tally 36 = .ok (.aload_n 0, 1) := by decide +kernel
theorem dX8_tally_37 : decode cX8_tally 37 = .ok (.getfield 209, 3) := by decide +kernel
theorem dX8_tally_40 : decode cX8_tally 40 = .ok (.ireturn, 1) := by decide +kernel
theorem dX8_tally_41 : decode cX8_tally 41 = .ok (.aload_n 0, 1) := by decide +kernel
theorem dX8_tally_42 : decode cX8_tally 42 = .ok (.getfield 212, 3) := by decide +kernel
theorem dX8_tally_45 : decode cX8_tally 45 = .ok (.ireturn, 1) := by decide +kernel
theorem dX8_tally_46 : decode cX8_tally 46 = .ok (.aload_n 0, 1) := by decide +kernel
theorem dX8_tally_47 : decode cX8_tally 47 = .ok (.getfield 215, 3) := by decide +kernel
theorem dX8_tally_50 : decode cX8_tally 50 = .ok (.ireturn, 1) := by decide +kernel
theorem dX8_tally_51 : decode cX8_tally 51 = .ok (.aload_n 0, 1) := by decide +kernel
theorem dX8_tally_52 : decode cX8_tally 52 = .ok (.getfield 61, 3) := by decide +kernel
theorem dX8_tally_55 : decode cX8_tally 55 = .ok (.getfield 173, 3) := by decide +kernel
theorem dX8_tally_58 : decode cX8_tally 58 = .ok (.ireturn, 1) := by decide +kernel
theorem dX8_tally_59 : decode cX8_tally 59 = .ok (.aload_n 0, 1) := by decide +kernel
theorem dX8_tally_60 : decode cX8_tally 60 = .ok (.getfield 13, 3) := by decide +kernel
theorem dX8_tally_63 : decode cX8_tally 63 = .ok (.getfield 124, 3) := by decide +kernel
theorem dX8_tally_66 : decode cX8_tally 66 = .ok (.ireturn, 1) := by decide +kernel
theorem dX8_tally_67 : decode cX8_tally 67 = .ok (.aload_n 0, 1) := by decide +kernel
theorem dX8_tally_68 : decode cX8_tally 68 = .ok (.getfield 22, 3) := by decide +kernel
theorem dX8_tally_71 : decode cX8_tally 71 = .ok (.getfield 192, 3) := by decide +kernel
theorem dX8_tally_74 : decode cX8_tally 74 = .ok (.ireturn, 1) := by decide +kernel
theorem dX8_isWithin_0 : decode cX8_isWithin 0 = .ok (.iload_n 0, 1) := by decide +kernel
theorem dX8_isWithin_1 : decode cX8_isWithin 1 = .ok (.iload_n 1, 1) := by decide +kernel
theorem dX8_isWithin_2 : decode cX8_isWithin 2 = .ok (.if_icmp .lt 12, 3) := by decide +kernel
theorem dX8_isWithin_5 : decode cX8_isWithin 5 = .ok (.iload_n 0, 1) := by decide +kernel
theorem dX8_isWithin_6 : decode cX8_isWithin 6 = .ok (.iload_n 2, 1) := by decide +kernel
theorem dX8_isWithin_7 : decode cX8_isWithin 7 = .ok (.if_icmp .gt 7, 3) := by decide +kernel
theorem dX8_isWithin_10 : decode cX8_isWithin 10 = .ok (.iconst 1, 1) := by decide +kernel
theorem dX8_isWithin_11 : decode cX8_isWithin 11 = .ok (.goto 4, 3) := by decide +kernel
theorem dX8_isWithin_14 : decode cX8_isWithin 14 = .ok (.iconst 0, 1) := by decide +kernel
theorem dX8_isWithin_15 : decode cX8_isWithin 15 = .ok (.ireturn, 1) := by decide +kernel
theorem dX8_isPicture_0 : decode cX8_isPicture 0 = .ok (.iload_n 0, 1) := by decide +kernel
theorem dX8_isPicture_1 : decode cX8_isPicture 1 = .ok (.iconst 0, 1) := by decide +kernel
theorem dX8_isPicture_2 : decode cX8_isPicture 2 = .ok (.iconst 2, 1) := by decide +kernel
theorem dX8_isPicture_3 : decode cX8_isPicture 3 = .ok (.invokestatic 73, 3) := by decide +kernel
theorem dX8_isPicture_6 : decode cX8_isPicture 6 = .ok (.ireturn, 1) := by decide +kernel
theorem dX8_isInPicture_0 : decode cX8_isInPicture 0 = .ok (.iload_n 0, 1) := by decide +kernel
theorem dX8_isInPicture_1 : decode cX8_isInPicture 1 = .ok (.iconst 0, 1) := by decide +kernel
theorem dX8_isInPicture_2 : decode cX8_isInPicture 2 = .ok (.bipush 31, 2) := by decide +kernel
theorem dX8_isInPicture_4 : decode cX8_isInPicture 4 = .ok (.invokestatic 73, 3) := by decide +kernel
theorem dX8_isInPicture_7 : decode cX8_isInPicture 7 = .ok (.ifCond .eq 17, 3) := by decide +kernel
theorem dX8_isInPicture_10 : decode cX8_isInPicture 10 = .ok (.iload_n 1, 1) := by decide +kernel
theorem dX8_isInPicture_11 : decode cX8_isInPicture 11 = .ok (.iconst 0, 1) := by decide +kernel
theorem dX8_isInPicture_12 : decode cX8_isInPicture 12 = .ok (.bipush 23, 2) := by decide +kernel
theorem dX8_isInPicture_14 : decode cX8_isInPicture 14 = .ok (.invokestatic 73, 3) := by decide +kernel
theorem dX8_isInPicture_17 : decode cX8_isInPicture 17 = .ok (.ifCond .eq 7, 3) := by decide +kernel
theorem dX8_isInPicture_20 : decode cX8_isInPicture 20 = .ok (.iconst 1, 1) := by decide +kernel
theorem dX8_isInPicture_21 : decode cX8_isInPicture 21 = .ok (.goto 4, 3) := by decide +kernel
theorem dX8_isInPicture_24 : decode cX8_isInPicture 24 = .ok (.iconst 0, 1) := by decide +kernel
theorem dX8_isInPicture_25 : decode cX8_isInPicture 25 = .ok (.ireturn, 1) := by decide +kernel
theorem dX8_isPlace_0 : decode cX8_isPlace 0 = .ok (.iload_n 0, 1) := by decide +kernel
theorem dX8_isPlace_1 : decode cX8_isPlace 1 = .ok (.bipush (-64), 2) := by decide +kernel
theorem dX8_isPlace_3 : decode cX8_isPlace 3 = .ok (.bipush 63, 2) := by decide +kernel
theorem dX8_isPlace_5 : decode cX8_isPlace 5 = .ok (.invokestatic 73, 3) := by decide +kernel
theorem dX8_isPlace_8 : decode cX8_isPlace 8 = .ok (.ireturn, 1) := by decide +kernel
theorem dX8_isSize_0 : decode cX8_isSize 0 = .ok (.iload_n 0, 1) := by decide +kernel
theorem dX8_isSize_1 : decode cX8_isSize 1 = .ok (.iconst 1, 1) := by decide +kernel
theorem dX8_isSize_2 : decode cX8_isSize 2 = .ok (.bipush 64, 2) := by decide +kernel
theorem dX8_isSize_4 : decode cX8_isSize 4 = .ok (.invokestatic 73, 3) := by decide +kernel
theorem dX8_isSize_7 : decode cX8_isSize 7 = .ok (.ireturn, 1) := by decide +kernel
theorem dX8_shifted_0 : decode cX8_shifted 0 = .ok (.iload_n 1, 1) := by decide +kernel
theorem dX8_shifted_1 : decode cX8_shifted 1 = .ok (.bipush (-32), 2) := by decide +kernel
theorem dX8_shifted_3 : decode cX8_shifted 3 = .ok (.if_icmp .le 9, 3) := by decide +kernel
theorem dX8_shifted_6 : decode cX8_shifted 6 = .ok (.iload_n 1, 1) := by decide +kernel
theorem dX8_shifted_7 : decode cX8_shifted 7 = .ok (.bipush 32, 2) := by decide +kernel
theorem dX8_shifted_9 : decode cX8_shifted 9 = .ok (.if_icmp .lt 5, 3) := by decide +kernel
theorem dX8_shifted_12 : decode cX8_shifted 12 = .ok (.iconst 0, 1) := by decide +kernel
theorem dX8_shifted_13 : decode cX8_shifted 13 = .ok (.ireturn, 1) := by decide +kernel
theorem dX8_shifted_14 : decode cX8_shifted 14 = .ok (.iload_n 1, 1) := by decide +kernel
theorem dX8_shifted_15 : decode cX8_shifted 15 = .ok (.ifCond .lt 9, 3) := by decide +kernel
theorem dX8_shifted_18 : decode cX8_shifted 18 = .ok (.iload_n 0, 1) := by decide +kernel
theorem dX8_shifted_19 : decode cX8_shifted 19 = .ok (.iload_n 1, 1) := by decide +kernel
theorem dX8_shifted_20 : decode cX8_shifted 20 = .ok (.iushr, 1) := by decide +kernel
theorem dX8_shifted_21 : decode cX8_shifted 21 = .ok (.goto 7, 3) := by decide +kernel
theorem dX8_shifted_24 : decode cX8_shifted 24 = .ok (.iload_n 0, 1) := by decide +kernel
theorem dX8_shifted_25 : decode cX8_shifted 25 = .ok (.iload_n 1, 1) := by decide +kernel
theorem dX8_shifted_26 : decode cX8_shifted 26 = .ok (.ineg, 1) := by decide +kernel
theorem dX8_shifted_27 : decode cX8_shifted 27 = .ok (.ishl, 1) := by decide +kernel
theorem dX8_shifted_28 : decode cX8_shifted 28 = .ok (.ireturn, 1) := by decide +kernel
theorem dX8_dotMask_0 : decode cX8_dotMask 0 = .ok (.ldc 218, 2) := by decide +kernel
theorem dX8_dotMask_2 : decode cX8_dotMask 2 = .ok (.iload_n 0, 1) := by decide +kernel
theorem dX8_dotMask_3 : decode cX8_dotMask 3 = .ok (.invokestatic 219, 3) := by decide +kernel
theorem dX8_dotMask_6 : decode cX8_dotMask 6 = .ok (.ireturn, 1) := by decide +kernel
theorem dX8_spanMask_0 : decode cX8_spanMask 0 = .ok (.iload_n 0, 1) := by decide +kernel
theorem dX8_spanMask_1 : decode cX8_spanMask 1 = .ok (.iconst 0, 1) := by decide +kernel
theorem dX8_spanMask_2 : decode cX8_spanMask 2 = .ok (.invokestatic 222, 3) := by decide +kernel
theorem dX8_spanMask_5 : decode cX8_spanMask 5 = .ok (.istore_n 2, 1) := by decide +kernel
theorem dX8_spanMask_6 : decode cX8_spanMask 6 = .ok (.iload_n 0, 1) := by decide +kernel
theorem dX8_spanMask_7 : decode cX8_spanMask 7 = .ok (.iload_n 1, 1) := by decide +kernel
theorem dX8_spanMask_8 : decode cX8_spanMask 8 = .ok (.iadd, 1) := by decide +kernel
theorem dX8_spanMask_9 : decode cX8_spanMask 9 = .ok (.bipush 32, 2) := by decide +kernel
theorem dX8_spanMask_11 : decode cX8_spanMask 11 = .ok (.invokestatic 227, 3) := by decide +kernel
theorem dX8_spanMask_14 : decode cX8_spanMask 14 = .ok (.istore_n 3, 1) := by decide +kernel
theorem dX8_spanMask_15 : decode cX8_spanMask 15 = .ok (.iload_n 2, 1) := by decide +kernel
theorem dX8_spanMask_16 : decode cX8_spanMask 16 = .ok (.iload_n 3, 1) := by decide +kernel
theorem dX8_spanMask_17 : decode cX8_spanMask 17 = .ok (.if_icmp .ge 19, 3) := by decide +kernel
theorem dX8_spanMask_20 : decode cX8_spanMask 20 = .ok (.iconst (-1), 1) := by decide +kernel
theorem dX8_spanMask_21 : decode cX8_spanMask 21 = .ok (.iload_n 2, 1) := by decide +kernel
theorem dX8_spanMask_22 : decode cX8_spanMask 22 = .ok (.invokestatic 219, 3) := by decide +kernel
theorem dX8_spanMask_25 : decode cX8_spanMask 25 = .ok (.iconst (-1), 1) := by decide +kernel
theorem dX8_spanMask_26 : decode cX8_spanMask 26 = .ok (.iload_n 3, 1) := by decide +kernel
theorem dX8_spanMask_27 : decode cX8_spanMask 27 = .ok (.invokestatic 219, 3) := by decide +kernel
theorem dX8_spanMask_30 : decode cX8_spanMask 30 = .ok (.iconst (-1), 1) := by decide +kernel
theorem dX8_spanMask_31 : decode cX8_spanMask 31 = .ok (.ixor, 1) := by decide +kernel
theorem dX8_spanMask_32 : decode cX8_spanMask 32 = .ok (.iand, 1) := by decide +kernel
theorem dX8_spanMask_33 : decode cX8_spanMask 33 = .ok (.goto 4, 3) := by decide +kernel
theorem dX8_spanMask_36 : decode cX8_spanMask 36 = .ok (.iconst 0, 1) := by decide +kernel
theorem dX8_spanMask_37 : decode cX8_spanMask 37 = .ok (.ireturn, 1) := by decide +kernel
theorem dX8_joinedRow_0 : decode cX8_joinedRow 0 = .ok (.iconst 0, 1) := by decide +kernel
theorem dX8_joinedRow_1 : decode cX8_joinedRow 1 = .ok (.istore 4, 2) := by decide +kernel
theorem dX8_joinedRow_3 : decode cX8_joinedRow 3 = .ok (.iconst 0, 1) := by decide +kernel
theorem dX8_joinedRow_4 : decode cX8_joinedRow 4 = .ok (.istore 5, 2) := by decide +kernel
theorem dX8_joinedRow_6 : decode cX8_joinedRow 6 = .ok (.iload 5, 2) := by decide +kernel
theorem dX8_joinedRow_8 : decode cX8_joinedRow 8 = .ok (.bipush 8, 2) := by decide +kernel
theorem dX8_joinedRow_10 : decode cX8_joinedRow 10 = .ok (.if_icmp .ge 68, 3) := by decide +kernel
theorem dX8_joinedRow_13 : decode cX8_joinedRow 13 = .ok (.iload_n 3, 1) := by decide +kernel
theorem dX8_joinedRow_14 : decode cX8_joinedRow 14 = .ok (.iload 5, 2) := by decide +kernel
theorem dX8_joinedRow_16 : decode cX8_joinedRow 16 = .ok (.ishr, 1) := by decide +kernel
theorem dX8_joinedRow_17 : decode cX8_joinedRow 17 = .ok (.iconst 1, 1) := by decide +kernel
theorem dX8_joinedRow_18 : decode cX8_joinedRow 18 = .ok (.iand, 1) := by decide +kernel
theorem dX8_joinedRow_19 : decode cX8_joinedRow 19 = .ok (.iconst 1, 1) := by decide +kernel
theorem dX8_joinedRow_20 : decode cX8_joinedRow 20 = .ok (.if_icmp .ne 52, 3) := by decide +kernel
theorem dX8_joinedRow_23 : decode cX8_joinedRow 23 = .ok (.iload 4, 2) := by decide +kernel
theorem dX8_joinedRow_25 : decode cX8_joinedRow 25 = .ok (.iload 5, 2) := by decide +kernel
theorem dX8_joinedRow_27 : decode cX8_joinedRow 27 = .ok (.iconst 4, 1) := by decide +kernel
theorem dX8_joinedRow_28 : decode cX8_joinedRow 28 = .ok (.iand, 1) := by decide +kernel
theorem dX8_joinedRow_29 : decode cX8_joinedRow 29 = .ok (.ifCond .eq 7, 3) := by decide +kernel
theorem dX8_joinedRow_32 : decode cX8_joinedRow 32 = .ok (.iload_n 0, 1) := by decide +kernel
theorem dX8_joinedRow_33 : decode cX8_joinedRow 33 = .ok (.goto 6, 3) := by decide +kernel
theorem dX8_joinedRow_36 : decode cX8_joinedRow 36 = .ok (.iload_n 0, 1) := by decide +kernel
theorem dX8_joinedRow_37 : decode cX8_joinedRow 37 = .ok (.iconst (-1), 1) := by decide +kernel
theorem dX8_joinedRow_38 : decode cX8_joinedRow 38 = .ok (.ixor, 1) := by decide +kernel
theorem dX8_joinedRow_39 : decode cX8_joinedRow 39 = .ok (.iload 5, 2) := by decide +kernel
theorem dX8_joinedRow_41 : decode cX8_joinedRow 41 = .ok (.iconst 2, 1) := by decide +kernel
theorem dX8_joinedRow_42 : decode cX8_joinedRow 42 = .ok (.iand, 1) := by decide +kernel
theorem dX8_joinedRow_43 : decode cX8_joinedRow 43 = .ok (.ifCond .eq 7, 3) := by decide +kernel
theorem dX8_joinedRow_46 : decode cX8_joinedRow 46 = .ok (.iload_n 1, 1) := by decide +kernel
theorem dX8_joinedRow_47 : decode cX8_joinedRow 47 = .ok (.goto 6, 3) := by decide +kernel
theorem dX8_joinedRow_50 : decode cX8_joinedRow 50 = .ok (.iload_n 1, 1) := by decide +kernel
theorem dX8_joinedRow_51 : decode cX8_joinedRow 51 = .ok (.iconst (-1), 1) := by decide +kernel
theorem dX8_joinedRow_52 : decode cX8_joinedRow 52 = .ok (.ixor, 1) := by decide +kernel
theorem dX8_joinedRow_53 : decode cX8_joinedRow 53 = .ok (.iand, 1) := by decide +kernel
theorem dX8_joinedRow_54 : decode cX8_joinedRow 54 = .ok (.iload 5, 2) := by decide +kernel
theorem dX8_joinedRow_56 : decode cX8_joinedRow 56 = .ok (.iconst 1, 1) := by decide +kernel
theorem dX8_joinedRow_57 : decode cX8_joinedRow 57 = .ok (.iand, 1) := by decide +kernel
theorem dX8_joinedRow_58 : decode cX8_joinedRow 58 = .ok (.ifCond .eq 7, 3) := by decide +kernel
theorem dX8_joinedRow_61 : decode cX8_joinedRow 61 = .ok (.iload_n 2, 1) := by decide +kernel
theorem dX8_joinedRow_62 : decode cX8_joinedRow 62 = .ok (.goto 6, 3) := by decide +kernel
theorem dX8_joinedRow_65 : decode cX8_joinedRow 65 = .ok (.iload_n 2, 1) := by decide +kernel
theorem dX8_joinedRow_66 : decode cX8_joinedRow 66 = .ok (.iconst (-1), 1) := by decide +kernel
theorem dX8_joinedRow_67 : decode cX8_joinedRow 67 = .ok (.ixor, 1) := by decide +kernel
theorem dX8_joinedRow_68 : decode cX8_joinedRow 68 = .ok (.iand, 1) := by decide +kernel
theorem dX8_joinedRow_69 : decode cX8_joinedRow 69 = .ok (.ior, 1) := by decide +kernel
theorem dX8_joinedRow_70 : decode cX8_joinedRow 70 = .ok (.istore 4, 2) := by decide +kernel
theorem dX8_joinedRow_72 : decode cX8_joinedRow 72 = .ok (.iinc 5 1, 3) := by decide +kernel
theorem dX8_joinedRow_75 : decode cX8_joinedRow 75 = .ok (.goto (-69), 3) := by decide +kernel
theorem dX8_joinedRow_78 : decode cX8_joinedRow 78 = .ok (.iload 4, 2) := by decide +kernel
theorem dX8_joinedRow_80 : decode cX8_joinedRow 80 = .ok (.ireturn, 1) := by decide +kernel
theorem dJ6_bitCount_0f7a4_0 : decode cJ6_bitCount_0f7a4 0 = .ok (.iload_n 0, 1) := by decide +kernel
theorem dJ6_bitCount_0f7a4_1 : decode cJ6_bitCount_0f7a4 1 = .ok (.iload_n 0, 1) := by decide +kernel
theorem dJ6_bitCount_0f7a4_2 : decode cJ6_bitCount_0f7a4 2 = .ok (.iconst 1, 1) := by decide +kernel
theorem dJ6_bitCount_0f7a4_3 : decode cJ6_bitCount_0f7a4 3 = .ok (.iushr, 1) := by decide +kernel
theorem dJ6_bitCount_0f7a4_4 : decode cJ6_bitCount_0f7a4 4 = .ok (.ldc_w 265, 3) := by decide +kernel
theorem dJ6_bitCount_0f7a4_7 : decode cJ6_bitCount_0f7a4 7 = .ok (.iand, 1) := by decide +kernel
theorem dJ6_bitCount_0f7a4_8 : decode cJ6_bitCount_0f7a4 8 = .ok (.isub, 1) := by decide +kernel
theorem dJ6_bitCount_0f7a4_9 : decode cJ6_bitCount_0f7a4 9 = .ok (.istore_n 0, 1) := by decide +kernel
theorem dJ6_bitCount_0f7a4_10 : decode cJ6_bitCount_0f7a4 10 = .ok (.iload_n 0, 1) := by decide +kernel
theorem dJ6_bitCount_0f7a4_11 : decode cJ6_bitCount_0f7a4 11 = .ok (.ldc_w 266, 3) := by decide +kernel
theorem dJ6_bitCount_0f7a4_14 : decode cJ6_bitCount_0f7a4 14 = .ok (.iand, 1) := by decide +kernel
theorem dJ6_bitCount_0f7a4_15 : decode cJ6_bitCount_0f7a4 15 = .ok (.iload_n 0, 1) := by decide +kernel
theorem dJ6_bitCount_0f7a4_16 : decode cJ6_bitCount_0f7a4 16 = .ok (.iconst 2, 1) := by decide +kernel
theorem dJ6_bitCount_0f7a4_17 : decode cJ6_bitCount_0f7a4 17 = .ok (.iushr, 1) := by decide +kernel
theorem dJ6_bitCount_0f7a4_18 : decode cJ6_bitCount_0f7a4 18 = .ok (.ldc_w 266, 3) := by decide +kernel
theorem dJ6_bitCount_0f7a4_21 : decode cJ6_bitCount_0f7a4 21 = .ok (.iand, 1) := by decide +kernel
theorem dJ6_bitCount_0f7a4_22 : decode cJ6_bitCount_0f7a4 22 = .ok (.iadd, 1) := by decide +kernel
theorem dJ6_bitCount_0f7a4_23 : decode cJ6_bitCount_0f7a4 23 = .ok (.istore_n 0, 1) := by decide +kernel
theorem dJ6_bitCount_0f7a4_24 : decode cJ6_bitCount_0f7a4 24 = .ok (.iload_n 0, 1) := by decide +kernel
theorem dJ6_bitCount_0f7a4_25 : decode cJ6_bitCount_0f7a4 25 = .ok (.iload_n 0, 1) := by decide +kernel
theorem dJ6_bitCount_0f7a4_26 : decode cJ6_bitCount_0f7a4 26 = .ok (.iconst 4, 1) := by decide +kernel
theorem dJ6_bitCount_0f7a4_27 : decode cJ6_bitCount_0f7a4 27 = .ok (.iushr, 1) := by decide +kernel
theorem dJ6_bitCount_0f7a4_28 : decode cJ6_bitCount_0f7a4 28 = .ok (.iadd, 1) := by decide +kernel
theorem dJ6_bitCount_0f7a4_29 : decode cJ6_bitCount_0f7a4 29 = .ok (.ldc_w 267, 3) := by decide +kernel
theorem dJ6_bitCount_0f7a4_32 : decode cJ6_bitCount_0f7a4 32 = .ok (.iand, 1) := by decide +kernel
theorem dJ6_bitCount_0f7a4_33 : decode cJ6_bitCount_0f7a4 33 = .ok (.istore_n 0, 1) := by decide +kernel
theorem dJ6_bitCount_0f7a4_34 : decode cJ6_bitCount_0f7a4 34 = .ok (.iload_n 0, 1) := by decide +kernel
theorem dJ6_bitCount_0f7a4_35 : decode cJ6_bitCount_0f7a4 35 = .ok (.iload_n 0, 1) := by decide +kernel
theorem dJ6_bitCount_0f7a4_36 : decode cJ6_bitCount_0f7a4 36 = .ok (.bipush 8, 2) := by decide +kernel
theorem dJ6_bitCount_0f7a4_38 : decode cJ6_bitCount_0f7a4 38 = .ok (.iushr, 1) := by decide +kernel
theorem dJ6_bitCount_0f7a4_39 : decode cJ6_bitCount_0f7a4 39 = .ok (.iadd, 1) := by decide +kernel
theorem dJ6_bitCount_0f7a4_40 : decode cJ6_bitCount_0f7a4 40 = .ok (.istore_n 0, 1) := by decide +kernel
theorem dJ6_bitCount_0f7a4_41 : decode cJ6_bitCount_0f7a4 41 = .ok (.iload_n 0, 1) := by decide +kernel
theorem dJ6_bitCount_0f7a4_42 : decode cJ6_bitCount_0f7a4 42 = .ok (.iload_n 0, 1) := by decide +kernel
theorem dJ6_bitCount_0f7a4_43 : decode cJ6_bitCount_0f7a4 43 = .ok (.bipush 16, 2) := by decide +kernel
theorem dJ6_bitCount_0f7a4_45 : decode cJ6_bitCount_0f7a4 45 = .ok (.iushr, 1) := by decide +kernel
theorem dJ6_bitCount_0f7a4_46 : decode cJ6_bitCount_0f7a4 46 = .ok (.iadd, 1) := by decide +kernel
theorem dJ6_bitCount_0f7a4_47 : decode cJ6_bitCount_0f7a4 47 = .ok (.istore_n 0, 1) := by decide +kernel
theorem dJ6_bitCount_0f7a4_48 : decode cJ6_bitCount_0f7a4 48 = .ok (.iload_n 0, 1) := by decide +kernel
theorem dJ6_bitCount_0f7a4_49 : decode cJ6_bitCount_0f7a4 49 = .ok (.bipush 63, 2) := by decide +kernel
theorem dJ6_bitCount_0f7a4_51 : decode cJ6_bitCount_0f7a4 51 = .ok (.iand, 1) := by decide +kernel
theorem dJ6_bitCount_0f7a4_52 : decode cJ6_bitCount_0f7a4 52 = .ok (.ireturn, 1) := by decide +kernel
theorem dJ9_floorDiv_7cf53_0 : decode cJ9_floorDiv_7cf53 0 = .ok (.iload_n 0, 1) := by decide +kernel
theorem dJ9_floorDiv_7cf53_1 : decode cJ9_floorDiv_7cf53 1 = .ok (.iload_n 1, 1) := by decide +kernel
theorem dJ9_floorDiv_7cf53_2 : decode cJ9_floorDiv_7cf53 2 = .ok (.idiv, 1) := by decide +kernel
theorem dJ9_floorDiv_7cf53_3 : decode cJ9_floorDiv_7cf53 3 = .ok (.istore_n 2, 1) := by decide +kernel
theorem dJ9_floorDiv_7cf53_4 : decode cJ9_floorDiv_7cf53 4 = .ok (.iload_n 0, 1) := by decide +kernel
theorem dJ9_floorDiv_7cf53_5 : decode cJ9_floorDiv_7cf53 5 = .ok (.iload_n 1, 1) := by decide +kernel
theorem dJ9_floorDiv_7cf53_6 : decode cJ9_floorDiv_7cf53 6 = .ok (.ixor, 1) := by decide +kernel
theorem dJ9_floorDiv_7cf53_7 : decode cJ9_floorDiv_7cf53 7 = .ok (.ifCond .ge 14, 3) := by decide +kernel
theorem dJ9_floorDiv_7cf53_10 : decode cJ9_floorDiv_7cf53 10 = .ok (.iload_n 2, 1) := by decide +kernel
theorem dJ9_floorDiv_7cf53_11 : decode cJ9_floorDiv_7cf53 11 = .ok (.iload_n 1, 1) := by decide +kernel
theorem dJ9_floorDiv_7cf53_12 : decode cJ9_floorDiv_7cf53 12 = .ok (.imul, 1) := by decide +kernel
theorem dJ9_floorDiv_7cf53_13 : decode cJ9_floorDiv_7cf53 13 = .ok (.iload_n 0, 1) := by decide +kernel
theorem dJ9_floorDiv_7cf53_14 : decode cJ9_floorDiv_7cf53 14 = .ok (.if_icmp .eq 7, 3) := by decide +kernel
theorem dJ9_floorDiv_7cf53_17 : decode cJ9_floorDiv_7cf53 17 = .ok (.iload_n 2, 1) := by decide +kernel
theorem dJ9_floorDiv_7cf53_18 : decode cJ9_floorDiv_7cf53 18 = .ok (.iconst 1, 1) := by decide +kernel
theorem dJ9_floorDiv_7cf53_19 : decode cJ9_floorDiv_7cf53 19 = .ok (.isub, 1) := by decide +kernel
theorem dJ9_floorDiv_7cf53_20 : decode cJ9_floorDiv_7cf53 20 = .ok (.ireturn, 1) := by decide +kernel
theorem dJ9_floorDiv_7cf53_21 : decode cJ9_floorDiv_7cf53 21 = .ok (.iload_n 2, 1) := by decide +kernel
theorem dJ9_floorDiv_7cf53_22 : decode cJ9_floorDiv_7cf53 22 = .ok (.ireturn, 1) := by decide +kernel
theorem dJ9_floorMod_7cf53_0 : decode cJ9_floorMod_7cf53 0 = .ok (.iload_n 0, 1) := by decide +kernel
theorem dJ9_floorMod_7cf53_1 : decode cJ9_floorMod_7cf53 1 = .ok (.iload_n 1, 1) := by decide +kernel
theorem dJ9_floorMod_7cf53_2 : decode cJ9_floorMod_7cf53 2 = .ok (.irem, 1) := by decide +kernel
theorem dJ9_floorMod_7cf53_3 : decode cJ9_floorMod_7cf53 3 = .ok (.istore_n 2, 1) := by decide +kernel
theorem dJ9_floorMod_7cf53_4 : decode cJ9_floorMod_7cf53 4 = .ok (.iload_n 0, 1) := by decide +kernel
theorem dJ9_floorMod_7cf53_5 : decode cJ9_floorMod_7cf53 5 = .ok (.iload_n 1, 1) := by decide +kernel
theorem dJ9_floorMod_7cf53_6 : decode cJ9_floorMod_7cf53 6 = .ok (.ixor, 1) := by decide +kernel
theorem dJ9_floorMod_7cf53_7 : decode cJ9_floorMod_7cf53 7 = .ok (.ifCond .ge 11, 3) := by decide +kernel
theorem dJ9_floorMod_7cf53_10 : decode cJ9_floorMod_7cf53 10 = .ok (.iload_n 2, 1) := by decide +kernel
theorem dJ9_floorMod_7cf53_11 : decode cJ9_floorMod_7cf53 11 = .ok (.ifCond .eq 7, 3) := by decide +kernel
theorem dJ9_floorMod_7cf53_14 : decode cJ9_floorMod_7cf53 14 = .ok (.iload_n 2, 1) := by decide +kernel
theorem dJ9_floorMod_7cf53_15 : decode cJ9_floorMod_7cf53 15 = .ok (.iload_n 1, 1) := by decide +kernel
theorem dJ9_floorMod_7cf53_16 : decode cJ9_floorMod_7cf53 16 = .ok (.iadd, 1) := by decide +kernel
theorem dJ9_floorMod_7cf53_17 : decode cJ9_floorMod_7cf53 17 = .ok (.ireturn, 1) := by decide +kernel
theorem dJ9_floorMod_7cf53_18 : decode cJ9_floorMod_7cf53 18 = .ok (.iload_n 2, 1) := by decide +kernel
theorem dJ9_floorMod_7cf53_19 : decode cJ9_floorMod_7cf53 19 = .ok (.ireturn, 1) := by decide +kernel
theorem dJ9_abs_0f7a4_0 : decode cJ9_abs_0f7a4 0 = .ok (.iload_n 0, 1) := by decide +kernel
theorem dJ9_abs_0f7a4_1 : decode cJ9_abs_0f7a4 1 = .ok (.ifCond .ge 8, 3) := by decide +kernel
theorem dJ9_abs_0f7a4_4 : decode cJ9_abs_0f7a4 4 = .ok (.iload_n 0, 1) := by decide +kernel
theorem dJ9_abs_0f7a4_5 : decode cJ9_abs_0f7a4 5 = .ok (.ineg, 1) := by decide +kernel
theorem dJ9_abs_0f7a4_6 : decode cJ9_abs_0f7a4 6 = .ok (.goto 4, 3) := by decide +kernel
theorem dJ9_abs_0f7a4_9 : decode cJ9_abs_0f7a4 9 = .ok (.iload_n 0, 1) := by decide +kernel
theorem dJ9_abs_0f7a4_10 : decode cJ9_abs_0f7a4 10 = .ok (.ireturn, 1) := by decide +kernel
theorem dJ9_max_7cf53_0 : decode cJ9_max_7cf53 0 = .ok (.iload_n 0, 1) := by decide +kernel
theorem dJ9_max_7cf53_1 : decode cJ9_max_7cf53 1 = .ok (.iload_n 1, 1) := by decide +kernel
theorem dJ9_max_7cf53_2 : decode cJ9_max_7cf53 2 = .ok (.if_icmp .lt 7, 3) := by decide +kernel
theorem dJ9_max_7cf53_5 : decode cJ9_max_7cf53 5 = .ok (.iload_n 0, 1) := by decide +kernel
theorem dJ9_max_7cf53_6 : decode cJ9_max_7cf53 6 = .ok (.goto 4, 3) := by decide +kernel
theorem dJ9_max_7cf53_9 : decode cJ9_max_7cf53 9 = .ok (.iload_n 1, 1) := by decide +kernel
theorem dJ9_max_7cf53_10 : decode cJ9_max_7cf53 10 = .ok (.ireturn, 1) := by decide +kernel
theorem dJ9_min_7cf53_0 : decode cJ9_min_7cf53 0 = .ok (.iload_n 0, 1) := by decide +kernel
theorem dJ9_min_7cf53_1 : decode cJ9_min_7cf53 1 = .ok (.iload_n 1, 1) := by decide +kernel
theorem dJ9_min_7cf53_2 : decode cJ9_min_7cf53 2 = .ok (.if_icmp .gt 7, 3) := by decide +kernel
theorem dJ9_min_7cf53_5 : decode cJ9_min_7cf53 5 = .ok (.iload_n 0, 1) := by decide +kernel
theorem dJ9_min_7cf53_6 : decode cJ9_min_7cf53 6 = .ok (.goto 4, 3) := by decide +kernel
theorem dJ9_min_7cf53_9 : decode cJ9_min_7cf53 9 = .ok (.iload_n 1, 1) := by decide +kernel
theorem dJ9_min_7cf53_10 : decode cJ9_min_7cf53 10 = .ok (.ireturn, 1) := by decide +kernel
theorem dJ0_length_8abf5_0 : decode cJ0_length_8abf5 0 = .ok (.aload_n 0, 1) := by decide +kernel
theorem dJ0_length_8abf5_1 : decode cJ0_length_8abf5 1 = .ok (.getfield 9, 3) := by decide +kernel
theorem dJ0_length_8abf5_4 : decode cJ0_length_8abf5 4 = .ok (.arraylength, 1) := by decide +kernel
theorem dJ0_length_8abf5_5 : decode cJ0_length_8abf5 5 = .ok (.aload_n 0, 1) := by decide +kernel
theorem dJ0_length_8abf5_6 : decode cJ0_length_8abf5 6 = .ok (.invokevirtual 335, 3) := by decide +kernel
theorem dJ0_length_8abf5_9 : decode cJ0_length_8abf5 9 = .ok (.ishr, 1) := by decide +kernel
theorem dJ0_length_8abf5_10 : decode cJ0_length_8abf5 10 = .ok (.ireturn, 1) := by decide +kernel
theorem dJ0_isEmpty_aae02_0 : decode cJ0_isEmpty_aae02 0 = .ok (.aload_n 0, 1) := by decide +kernel
theorem dJ0_isEmpty_aae02_1 : decode cJ0_isEmpty_aae02 1 = .ok (.getfield 9, 3) := by decide +kernel
theorem dJ0_isEmpty_aae02_4 : decode cJ0_isEmpty_aae02 4 = .ok (.arraylength, 1) := by decide +kernel
theorem dJ0_isEmpty_aae02_5 : decode cJ0_isEmpty_aae02 5 = .ok (.ifCond .ne 7, 3) := by decide +kernel
theorem dJ0_isEmpty_aae02_8 : decode cJ0_isEmpty_aae02 8 = .ok (.iconst 1, 1) := by decide +kernel
theorem dJ0_isEmpty_aae02_9 : decode cJ0_isEmpty_aae02 9 = .ok (.goto 4, 3) := by decide +kernel
theorem dJ0_isEmpty_aae02_12 : decode cJ0_isEmpty_aae02 12 = .ok (.iconst 0, 1) := by decide +kernel
theorem dJ0_isEmpty_aae02_13 : decode cJ0_isEmpty_aae02 13 = .ok (.ireturn, 1) := by decide +kernel
theorem dJ0_charAt_5068e_0 : decode cJ0_charAt_5068e 0 = .ok (.aload_n 0, 1) := by decide +kernel
theorem dJ0_charAt_5068e_1 : decode cJ0_charAt_5068e 1 = .ok (.invokevirtual 492, 3) := by decide +kernel
theorem dJ0_charAt_5068e_4 : decode cJ0_charAt_5068e 4 = .ok (.ifCond .eq 12, 3) := by decide +kernel
theorem dJ0_charAt_5068e_7 : decode cJ0_charAt_5068e 7 = .ok (.aload_n 0, 1) := by decide +kernel
theorem dJ0_charAt_5068e_8 : decode cJ0_charAt_5068e 8 = .ok (.getfield 9, 3) := by decide +kernel
theorem dJ0_charAt_5068e_11 : decode cJ0_charAt_5068e 11 = .ok (.iload_n 1, 1) := by decide +kernel
theorem dJ0_charAt_5068e_12 : decode cJ0_charAt_5068e 12 = .ok (.invokestatic 495, 3) := by decide +kernel
theorem dJ0_charAt_5068e_15 : decode cJ0_charAt_5068e 15 = .ok (.ireturn, 1) := by decide +kernel
theorem dJ0_charAt_5068e_16 : decode cJ0_charAt_5068e 16 = .ok (.aload_n 0, 1) := by decide +kernel
theorem dJ0_charAt_5068e_17 : decode cJ0_charAt_5068e 17 = .ok (.getfield 9, 3) := by decide +kernel
theorem dJ0_charAt_5068e_20 : decode cJ0_charAt_5068e 20 = .ok (.iload_n 1, 1) := by decide +kernel
theorem dJ0_charAt_5068e_21 : decode cJ0_charAt_5068e 21 = .ok (.invokestatic 498, 3) := by decide +kernel
theorem dJ0_charAt_5068e_24 : decode cJ0_charAt_5068e 24 = .ok (.ireturn, 1) := by decide +kernel
theorem dJ0_coder_7d493_0 : decode cJ0_coder_7d493 0 = .ok (.getstatic 38, 3) := by decide +kernel
theorem dJ0_coder_7d493_3 : decode cJ0_coder_7d493 3 = .ok (.ifCond .eq 10, 3) := by decide +kernel
theorem dJ0_coder_7d493_6 : decode cJ0_coder_7d493 6 = .ok (.aload_n 0, 1) := by decide +kernel
theorem dJ0_coder_7d493_7 : decode cJ0_coder_7d493 7 = .ok (.getfield 15, 3) := by decide +kernel
theorem dJ0_coder_7d493_10 : decode cJ0_coder_7d493 10 = .ok (.goto 4, 3) := by decide +kernel
theorem dJ0_coder_7d493_13 : decode cJ0_coder_7d493 13 = .ok (.iconst 1, 1) := by decide +kernel
theorem dJ0_coder_7d493_14 : decode cJ0_coder_7d493 14 = .ok (.ireturn, 1) := by decide +kernel
theorem dJ0_isLatin1_aae02_0 : decode cJ0_isLatin1_aae02 0 = .ok (.getstatic 38, 3) := by decide +kernel
theorem dJ0_isLatin1_aae02_3 : decode cJ0_isLatin1_aae02 3 = .ok (.ifCond .eq 14, 3) := by decide +kernel
theorem dJ0_isLatin1_aae02_6 : decode cJ0_isLatin1_aae02 6 = .ok (.aload_n 0, 1) := by decide +kernel
theorem dJ0_isLatin1_aae02_7 : decode cJ0_isLatin1_aae02 7 = .ok (.getfield 15, 3) := by decide +kernel
theorem dJ0_isLatin1_aae02_10 : decode cJ0_isLatin1_aae02 10 = .ok (.ifCond .ne 7, 3) := by decide +kernel
theorem dJ0_isLatin1_aae02_13 : decode cJ0_isLatin1_aae02 13 = .ok (.iconst 1, 1) := by decide +kernel
theorem dJ0_isLatin1_aae02_14 : decode cJ0_isLatin1_aae02 14 = .ok (.goto 4, 3) := by decide +kernel
theorem dJ0_isLatin1_aae02_17 : decode cJ0_isLatin1_aae02 17 = .ok (.iconst 0, 1) := by decide +kernel
theorem dJ0_isLatin1_aae02_18 : decode cJ0_isLatin1_aae02 18 = .ok (.ireturn, 1) := by decide +kernel
theorem dJ0_checkIndex_df160_0 : decode cJ0_checkIndex_df160 0 = .ok (.iload_n 0, 1) := by decide +kernel
theorem dJ0_checkIndex_df160_1 : decode cJ0_checkIndex_df160 1 = .ok (.iload_n 1, 1) := by decide +kernel
theorem dJ0_checkIndex_df160_2 : decode cJ0_checkIndex_df160 2 = .ok (.getstatic 1053, 3) := by decide +kernel
theorem dJ0_checkIndex_df160_5 : decode cJ0_checkIndex_df160 5 = .ok (.invokestatic 1059, 3) := by decide +kernel
theorem dJ0_checkIndex_df160_8 : decode cJ0_checkIndex_df160 8 = .ok (.pop, 1) := by decide +kernel
theorem dJ0_checkIndex_df160_9 : decode cJ0_checkIndex_df160 9 = .ok (.return_, 1) := by decide +kernel
theorem dJ1_charAt_3b067_0 : decode cJ1_charAt_3b067 0 = .ok (.iload_n 1, 1) := by decide +kernel
theorem dJ1_charAt_3b067_1 : decode cJ1_charAt_3b067 1 = .ok (.aload_n 0, 1) := by decide +kernel
theorem dJ1_charAt_3b067_2 : decode cJ1_charAt_3b067 2 = .ok (.arraylength, 1) := by decide +kernel
theorem dJ1_charAt_3b067_3 : decode cJ1_charAt_3b067 3 = .ok (.invokestatic 9, 3) := by decide +kernel
theorem dJ1_charAt_3b067_6 : decode cJ1_charAt_3b067 6 = .ok (.aload_n 0, 1) := by decide +kernel
theorem dJ1_charAt_3b067_7 : decode cJ1_charAt_3b067 7 = .ok (.iload_n 1, 1) := by decide +kernel
theorem dJ1_charAt_3b067_8 : decode cJ1_charAt_3b067 8 = .ok (.baload, 1) := by decide +kernel
theorem dJ1_charAt_3b067_9 : decode cJ1_charAt_3b067 9 = .ok (.sipush 255, 3) := by decide +kernel
theorem dJ1_charAt_3b067_12 : decode cJ1_charAt_3b067 12 = .ok (.iand, 1) := by decide +kernel
theorem dJ1_charAt_3b067_13 : decode cJ1_charAt_3b067 13 = .ok (.i2c, 1) := by decide +kernel
theorem dJ1_charAt_3b067_14 : decode cJ1_charAt_3b067 14 = .ok (.ireturn, 1) := by decide +kernel
theorem dJ2_getChar_3b067_0 : decode cJ2_getChar_3b067 0 = .ok (.getstatic 44, 3) := by decide +kernel
theorem dJ2_getChar_3b067_3 : decode cJ2_getChar_3b067 3 = .ok (.ifCond .ne 25, 3) := by decide +kernel
theorem dJ2_getChar_3b067_6 : decode cJ2_getChar_3b067 6 = .ok (.iload_n 1, 1) := by decide +kernel
theorem dJ2_getChar_3b067_7 : decode cJ2_getChar_3b067 7 = .ok (.ifCond .lt 11, 3) := by decide +kernel
theorem dJ2_getChar_3b067_10 : decode cJ2_getChar_3b067 10 = .ok (.iload_n 1, 1) := by decide +kernel
theorem dJ2_getChar_3b067_11 : decode cJ2_getChar_3b067 11 = .ok (.aload_n 0, 1) := by decide +kernel
theorem dJ2_getChar_3b067_12 : decode cJ2_getChar_3b067 12 = .ok (.invokestatic 48, 3) := by decide +kernel
theorem dJ2_getChar_3b067_15 : decode cJ2_getChar_3b067 15 = .ok (.if_icmp .lt 13, 3) := by decide +kernel
theorem dJ2_getChar_3b067_18 : decode cJ2_getChar_3b067 18 = .ok (.new 52, 3) := by decide +kernel
theorem dJ2_getChar_3b067_21 : decode cJ2_getChar_3b067 21 = .ok (.dup, 1) := by decide +kernel
theorem dJ2_getChar_3b067_22 : decode cJ2_getChar_3b067 22 = .ok (.ldc 54, 2) := by decide +kernel
theorem dJ2_getChar_3b067_24 : decode cJ2_getChar_3b067 24 = .ok (.invokespecial 56, 3) := by decide +kernel
theorem dJ2_getChar_3b067_27 : decode cJ2_getChar_3b067 27 = .ok (.athrow, 1) := by decide +kernel
theorem dJ2_getChar_3b067_28 : decode cJ2_getChar_3b067 28 = .ok (.iload_n 1, 1) := by decide +kernel
theorem dJ2_getChar_3b067_29 : decode cJ2_getChar_3b067 29 = .ok (.iconst 1, 1) := by decide +kernel
theorem dJ2_getChar_3b067_30 : decode cJ2_getChar_3b067 30 = .ok (.ishl, 1) := by decide +kernel
theorem dJ2_getChar_3b067_31 : decode cJ2_getChar_3b067 31 = .ok (.istore_n 1, 1) := by decide +kernel
theorem dJ2_getChar_3b067_32 : decode cJ2_getChar_3b067 32 = .ok (.aload_n 0, 1) := by decide +kernel
theorem dJ2_getChar_3b067_33 : decode cJ2_getChar_3b067 33 = .ok (.iload_n 1, 1) := by decide +kernel
theorem dJ2_getChar_3b067_34 : decode cJ2_getChar_3b067 34 = .ok (.iinc 1 1, 3) := by decide +kernel
theorem dJ2_getChar_3b067_37 : decode cJ2_getChar_3b067 37 = .ok (.baload, 1) := by decide +kernel
theorem dJ2_getChar_3b067_38 : decode cJ2_getChar_3b067 38 = .ok (.sipush 255, 3) := by decide +kernel
theorem dJ2_getChar_3b067_41 : decode cJ2_getChar_3b067 41 = .ok (.iand, 1) := by decide +kernel
theorem dJ2_getChar_3b067_42 : decode cJ2_getChar_3b067 42 = .ok (.getstatic 59, 3) := by decide +kernel
theorem dJ2_getChar_3b067_45 : decode cJ2_getChar_3b067 45 = .ok (.ishl, 1) := by decide +kernel
theorem dJ2_getChar_3b067_46 : decode cJ2_getChar_3b067 46 = .ok (.aload_n 0, 1) := by decide +kernel
theorem dJ2_getChar_3b067_47 : decode cJ2_getChar_3b067 47 = .ok (.iload_n 1, 1) := by decide +kernel
theorem dJ2_getChar_3b067_48 : decode cJ2_getChar_3b067 48 = .ok (.baload, 1) := by decide +kernel
theorem dJ2_getChar_3b067_49 : decode cJ2_getChar_3b067 49 = .ok (.sipush 255, 3) := by decide +kernel
theorem dJ2_getChar_3b067_52 : decode cJ2_getChar_3b067 52 = .ok (.iand, 1) := by decide +kernel
theorem dJ2_getChar_3b067_53 : decode cJ2_getChar_3b067 53 = .ok (.getstatic 63, 3) := by decide +kernel
theorem dJ2_getChar_3b067_56 : decode cJ2_getChar_3b067 56 = .ok (.ishl, 1) := by decide +kernel
theorem dJ2_getChar_3b067_57 : decode cJ2_getChar_3b067 57 = .ok (.ior, 1) := by decide +kernel
theorem dJ2_getChar_3b067_58 : decode cJ2_getChar_3b067 58 = .ok (.i2c, 1) := by decide +kernel
theorem dJ2_getChar_3b067_59 : decode cJ2_getChar_3b067 59 = .ok (.ireturn, 1) := by decide +kernel
theorem dJ2_length_9d52b_0 : decode cJ2_length_9d52b 0 = .ok (.aload_n 0, 1) := by decide +kernel
theorem dJ2_length_9d52b_1 : decode cJ2_length_9d52b 1 = .ok (.arraylength, 1) := by decide +kernel
theorem dJ2_length_9d52b_2 : decode cJ2_length_9d52b 2 = .ok (.iconst 1, 1) := by decide +kernel
theorem dJ2_length_9d52b_3 : decode cJ2_length_9d52b 3 = .ok (.ishr, 1) := by decide +kernel
theorem dJ2_length_9d52b_4 : decode cJ2_length_9d52b 4 = .ok (.ireturn, 1) := by decide +kernel
theorem dJ2_charAt_3b067_0 : decode cJ2_charAt_3b067 0 = .ok (.iload_n 1, 1) := by decide +kernel
theorem dJ2_charAt_3b067_1 : decode cJ2_charAt_3b067 1 = .ok (.aload_n 0, 1) := by decide +kernel
theorem dJ2_charAt_3b067_2 : decode cJ2_charAt_3b067 2 = .ok (.invokestatic 67, 3) := by decide +kernel
theorem dJ2_charAt_3b067_5 : decode cJ2_charAt_3b067 5 = .ok (.aload_n 0, 1) := by decide +kernel
theorem dJ2_charAt_3b067_6 : decode cJ2_charAt_3b067 6 = .ok (.iload_n 1, 1) := by decide +kernel
theorem dJ2_charAt_3b067_7 : decode cJ2_charAt_3b067 7 = .ok (.invokestatic 71, 3) := by decide +kernel
theorem dJ2_charAt_3b067_10 : decode cJ2_charAt_3b067 10 = .ok (.ireturn, 1) := by decide +kernel
theorem dJ2_checkIndex_2214a_0 : decode cJ2_checkIndex_2214a 0 = .ok (.iload_n 0, 1) := by decide +kernel
theorem dJ2_checkIndex_2214a_1 : decode cJ2_checkIndex_2214a 1 = .ok (.aload_n 1, 1) := by decide +kernel
theorem dJ2_checkIndex_2214a_2 : decode cJ2_checkIndex_2214a 2 = .ok (.invokestatic 48, 3) := by decide +kernel
theorem dJ2_checkIndex_2214a_5 : decode cJ2_checkIndex_2214a 5 = .ok (.invokestatic 414, 3) := by decide +kernel
theorem dJ2_checkIndex_2214a_8 : decode cJ2_checkIndex_2214a 8 = .ok (.return_, 1) := by decide +kernel
theorem dJ7_fill_53178_0 : decode cJ7_fill_53178 0 = .ok (.iconst 0, 1) := by decide +kernel
theorem dJ7_fill_53178_1 : decode cJ7_fill_53178 1 = .ok (.istore_n 2, 1) := by decide +kernel
theorem dJ7_fill_53178_2 : decode cJ7_fill_53178 2 = .ok (.aload_n 0, 1) := by decide +kernel
theorem dJ7_fill_53178_3 : decode cJ7_fill_53178 3 = .ok (.arraylength, 1) := by decide +kernel
theorem dJ7_fill_53178_4 : decode cJ7_fill_53178 4 = .ok (.istore_n 3, 1) := by decide +kernel
theorem dJ7_fill_53178_5 : decode cJ7_fill_53178 5 = .ok (.iload_n 2, 1) := by decide +kernel
theorem dJ7_fill_53178_6 : decode cJ7_fill_53178 6 = .ok (.iload_n 3, 1) := by decide +kernel
theorem dJ7_fill_53178_7 : decode cJ7_fill_53178 7 = .ok (.if_icmp .ge 13, 3) := by decide +kernel
theorem dJ7_fill_53178_10 : decode cJ7_fill_53178 10 = .ok (.aload_n 0, 1) := by decide +kernel
theorem dJ7_fill_53178_11 : decode cJ7_fill_53178 11 = .ok (.iload_n 2, 1) := by decide +kernel
theorem dJ7_fill_53178_12 : decode cJ7_fill_53178 12 = .ok (.iload_n 1, 1) := by decide +kernel
theorem dJ7_fill_53178_13 : decode cJ7_fill_53178 13 = .ok (.iastore, 1) := by decide +kernel
theorem dJ7_fill_53178_14 : decode cJ7_fill_53178 14 = .ok (.iinc 2 1, 3) := by decide +kernel
theorem dJ7_fill_53178_17 : decode cJ7_fill_53178 17 = .ok (.goto (-12), 3) := by decide +kernel
theorem dJ7_fill_53178_20 : decode cJ7_fill_53178 20 = .ok (.return_, 1) := by decide +kernel
theorem dJ3_checkIndex_8e157_0 : decode cJ3_checkIndex_8e157 0 = .ok (.iload_n 0, 1) := by decide +kernel
theorem dJ3_checkIndex_8e157_1 : decode cJ3_checkIndex_8e157 1 = .ok (.ifCond .lt 8, 3) := by decide +kernel
theorem dJ3_checkIndex_8e157_4 : decode cJ3_checkIndex_8e157 4 = .ok (.iload_n 0, 1) := by decide +kernel
theorem dJ3_checkIndex_8e157_5 : decode cJ3_checkIndex_8e157 5 = .ok (.iload_n 1, 1) := by decide +kernel
theorem dJ3_checkIndex_8e157_6 : decode cJ3_checkIndex_8e157 6 = .ok (.if_icmp .lt 10, 3) := by decide +kernel
theorem dJ3_checkIndex_8e157_9 : decode cJ3_checkIndex_8e157 9 = .ok (.aload_n 2, 1) := by decide +kernel
theorem dJ3_checkIndex_8e157_10 : decode cJ3_checkIndex_8e157 10 = .ok (.iload_n 0, 1) := by decide +kernel
theorem dJ3_checkIndex_8e157_11 : decode cJ3_checkIndex_8e157 11 = .ok (.iload_n 1, 1) := by decide +kernel
theorem dJ3_checkIndex_8e157_12 : decode cJ3_checkIndex_8e157 12 = .ok (.invokestatic 95, 3) := by decide +kernel
theorem dJ3_checkIndex_8e157_15 : decode cJ3_checkIndex_8e157 15 = .ok (.athrow, 1) := by decide +kernel
theorem dJ3_checkIndex_8e157_16 : decode cJ3_checkIndex_8e157 16 = .ok (.iload_n 0, 1) := by decide +kernel
theorem dJ3_checkIndex_8e157_17 : decode cJ3_checkIndex_8e157 17 = .ok (.ireturn, 1) := by decide +kernel
