theorem dX0_init_0 : decode cX0_init 0 = .ok (.aload_n 0, 1) := by decide +kernel
theorem dX0_init_1 : decode cX0_init 1 = .ok (.invokespecial 3, 3) := by decide +kernel
theorem dX0_init_4 : decode cX0_init 4 = .ok (.aload_n 0, 1) := by decide +kernel
theorem dX0_init_5 : decode cX0_init 5 = .ok (.new 9, 3) := by decide +kernel
theorem dX0_init_8 : decode cX0_init 8 = .ok (.dup, 1) := by decide +kernel
theorem dX0_init_9 : decode cX0_init 9 = .ok (.invokespecial 11, 3) := by decide +kernel
theorem dX0_init_12 : decode cX0_init 12 = .ok (.putfield 12, 3) := by decide +kernel
theorem dX0_init_15 : decode cX0_init 15 = .ok (.aload_n 0, 1) := by decide +kernel
theorem dX0_init_16 : decode cX0_init 16 = .ok (.bipush 9, 2) := by decide +kernel
theorem dX0_init_18 : decode cX0_init 18 = .ok (.newarray .int, 2) := by decide +kernel
theorem dX0_init_20 : decode cX0_init 20 = .ok (.putfield 18, 3) := by decide +kernel
theorem dX0_init_23 : decode cX0_init 23 = .ok (.aload_n 0, 1) := by decide +kernel
theorem dX0_init_24 : decode cX0_init 24 = .ok (.sipush 400, 3) := by decide +kernel
theorem dX0_init_27 : decode cX0_init 27 = .ok (.newarray .int, 2) := by decide +kernel
theorem dX0_init_29 : decode cX0_init 29 = .ok (.putfield 22, 3) := by decide +kernel
theorem dX0_init_32 : decode cX0_init 32 = .ok (.aload_n 0, 1) := by decide +kernel
theorem dX0_init_33 : decode cX0_init 33 = .ok (.sipush 400, 3) := by decide +kernel
theorem dX0_init_36 : decode cX0_init 36 = .ok (.newarray .int, 2) := by decide +kernel
theorem dX0_init_38 : decode cX0_init 38 = .ok (.putfield 25, 3) := by decide +kernel
theorem dX0_init_41 : decode cX0_init 41 = .ok (.aload_n 0, 1) := by decide +kernel
theorem dX0_init_42 : decode cX0_init 42 = .ok (.bipush 9, 2) := by decide +kernel
theorem dX0_init_44 : decode cX0_init 44 = .ok (.newarray .int, 2) := by decide +kernel
theorem dX0_init_46 : decode cX0_init 46 = .ok (.putfield 28, 3) := by decide +kernel
theorem dX0_init_49 : decode cX0_init 49 = .ok (.aload_n 0, 1) := by decide +kernel
theorem dX0_init_50 : decode cX0_init 50 = .ok (.sipush 512, 3) := by decide +kernel
theorem dX0_init_53 : decode cX0_init 53 = .ok (.newarray .int, 2) := by decide +kernel
theorem dX0_init_55 : decode cX0_init 55 = .ok (.putfield 31, 3) := by decide +kernel
theorem dX0_init_58 : decode cX0_init 58 = .ok (.aload_n 0, 1) := by decide +kernel
theorem dX0_init_59 : decode cX0_init 59 = .ok (.bipush 8, 2) := by decide +kernel
theorem dX0_init_61 : decode cX0_init 61 = .ok (.newarray .int, 2) := by decide +kernel
theorem dX0_init_63 : decode cX0_init 63 = .ok (.putfield 34, 3) := by decide +kernel
theorem dX0_init_66 : decode cX0_init 66 = .ok (.aload_n 0, 1) := by decide +kernel
theorem dX0_init_67 : decode cX0_init 67 = .ok (.bipush 8, 2) := by decide +kernel
theorem dX0_init_69 : decode cX0_init 69 = .ok (.newarray .int, 2) := by decide +kernel
theorem dX0_init_71 : decode cX0_init 71 = .ok (.putfield 37, 3) := by decide +kernel
theorem dX0_init_74 : decode cX0_init 74 = .ok (.aload_n 0, 1) := by decide +kernel
theorem dX0_init_75 : decode cX0_init 75 = .ok (.bipush 8, 2) := by decide +kernel
theorem dX0_init_77 : decode cX0_init 77 = .ok (.newarray .boolean, 2) := by decide +kernel
theorem dX0_init_79 : decode cX0_init 79 = .ok (.putfield 40, 3) := by decide +kernel
theorem dX0_init_82 : decode cX0_init 82 = .ok (.aload_n 0, 1) := by decide +kernel
theorem dX0_init_83 : decode cX0_init 83 = .ok (.bipush 8, 2) := by decide +kernel
theorem dX0_init_85 : decode cX0_init 85 = .ok (.newarray .int, 2) := by decide +kernel
theorem dX0_init_87 : decode cX0_init 87 = .ok (.putfield 44, 3) := by decide +kernel
theorem dX0_init_90 : decode cX0_init 90 = .ok (.aload_n 0, 1) := by decide +kernel
theorem dX0_init_91 : decode cX0_init 91 = .ok (.aload_n 1, 1) := by decide +kernel
theorem dX0_init_92 : decode cX0_init 92 = .ok (.putfield 47, 3) := by decide +kernel
theorem dX0_init_95 : decode cX0_init 95 = .ok (.aload_n 0, 1) := by decide +kernel
theorem dX0_init_96 : decode cX0_init 96 = .ok (.getfield 37, 3) := by decide +kernel
theorem dX0_init_99 : decode cX0_init 99 = .ok (.iconst (-1), 1) := by decide +kernel
theorem dX0_init_100 : decode cX0_init 100 = .ok (.invokestatic 51, 3) := by decide +kernel
theorem dX0_init_103 : decode cX0_init 103 = .ok (.return_, 1) := by decide +kernel
theorem dX0_forget_0 : decode cX0_forget 0 = .ok (.aload_n 0, 1) := by decide +kernel
theorem dX0_forget_1 : decode cX0_forget 1 = .ok (.getfield 47, 3) := by decide +kernel
theorem dX0_forget_4 : decode cX0_forget 4 = .ok (.invokevirtual 57, 3) := by decide +kernel
theorem dX0_forget_7 : decode cX0_forget 7 = .ok (.aload_n 0, 1) := by decide +kernel
theorem dX0_forget_8 : decode cX0_forget 8 = .ok (.iconst 0, 1) := by decide +kernel
theorem dX0_forget_9 : decode cX0_forget 9 = .ok (.putfield 62, 3) := by decide +kernel
theorem dX0_forget_12 : decode cX0_forget 12 = .ok (.aload_n 0, 1) := by decide +kernel
theorem dX0_forget_13 : decode cX0_forget 13 = .ok (.iconst 0, 1) := by decide +kernel
theorem dX0_forget_14 : decode cX0_forget 14 = .ok (.putfield 66, 3) := by decide +kernel
theorem dX0_forget_17 : decode cX0_forget 17 = .ok (.aload_n 0, 1) := by decide +kernel
theorem dX0_forget_18 : decode cX0_forget 18 = .ok (.getfield 37, 3) := by decide +kernel
theorem dX0_forget_21 : decode cX0_forget 21 = .ok (.iconst (-1), 1) := by decide +kernel
theorem dX0_forget_22 : decode cX0_forget 22 = .ok (.invokestatic 51, 3) := by decide +kernel
theorem dX0_forget_25 : decode cX0_forget 25 = .ok (.return_, 1) := by decide +kernel
theorem dX0_reach_0 : decode cX0_reach 0 = .ok (.iload_n 1, 1) := by decide +kernel
theorem dX0_reach_1 : decode cX0_reach 1 = .ok (.iconst 1, 1) := by decide +kernel
theorem dX0_reach_2 : decode cX0_reach 2 = .ok (.if_icmp .lt 9, 3) := by decide +kernel
theorem dX0_reach_5 : decode cX0_reach 5 = .ok (.iload_n 1, 1) := by decide +kernel
theorem dX0_reach_6 : decode cX0_reach 6 = .ok (.bipush 7, 2) := by decide +kernel
theorem dX0_reach_8 : decode cX0_reach 8 = .ok (.if_icmp .le 5, 3) := by decide +kernel
theorem dX0_reach_11 : decode cX0_reach 11 = .ok (.iconst 0, 1) := by decide +kernel
theorem dX0_reach_12 : decode cX0_reach 12 = .ok (.ireturn, 1) := by decide +kernel
theorem dX0_reach_13 : decode cX0_reach 13 = .ok (.aload_n 0, 1) := by decide +kernel
theorem dX0_reach_14 : decode cX0_reach 14 = .ok (.getfield 62, 3) := by decide +kernel
theorem dX0_reach_17 : decode cX0_reach 17 = .ok (.iconst 1, 1) := by decide +kernel
theorem dX0_reach_18 : decode cX0_reach 18 = .ok (.iadd, 1) := by decide +kernel
theorem dX0_reach_19 : decode cX0_reach 19 = .ok (.istore_n 2, 1) := by decide +kernel
theorem dX0_reach_20 : decode cX0_reach 20 = .ok (.iload_n 2, 1) := by decide +kernel
theorem dX0_reach_21 : decode cX0_reach 21 = .ok (.iload_n 1, 1) := by decide +kernel
theorem dX0_reach_22 : decode cX0_reach 22 = .ok (.if_icmp .gt 57, 3) := by decide +kernel
theorem dX0_reach_25 : decode cX0_reach 25 = .ok (.aload_n 0, 1) := by decide +kernel
theorem dX0_reach_26 : decode cX0_reach 26 = .ok (.getfield 47, 3) := by decide +kernel
theorem dX0_reach_29 : decode cX0_reach 29 = .ok (.getfield 69, 3) := by decide +kernel
theorem dX0_reach_32 : decode cX0_reach 32 = .ok (.iload_n 2, 1) := by decide +kernel
theorem dX0_reach_33 : decode cX0_reach 33 = .ok (.laload, 1) := by decide +kernel
theorem dX0_reach_34 : decode cX0_reach 34 = .ok (.ldc2_w 73, 3) := by decide +kernel
theorem dX0_reach_37 : decode cX0_reach 37 = .ok (.lcmp, 1) := by decide +kernel
theorem dX0_reach_38 : decode cX0_reach 38 = .ok (.ifCond .le 5, 3) := by decide +kernel
theorem dX0_reach_41 : decode cX0_reach 41 = .ok (.iconst 0, 1) := by decide +kernel
theorem dX0_reach_42 : decode cX0_reach 42 = .ok (.ireturn, 1) := by decide +kernel
theorem dX0_reach_43 : decode cX0_reach 43 = .ok (.aload_n 0, 1) := by decide +kernel
theorem dX0_reach_44 : decode cX0_reach 44 = .ok (.iload_n 2, 1) := by decide +kernel
theorem dX0_reach_45 : decode cX0_reach 45 = .ok (.invokevirtual 75, 3) := by decide +kernel
theorem dX0_reach_48 : decode cX0_reach 48 = .ok (.aload_n 0, 1) := by decide +kernel
theorem dX0_reach_49 : decode cX0_reach 49 = .ok (.iload_n 2, 1) := by decide +kernel
theorem dX0_reach_50 : decode cX0_reach 50 = .ok (.invokevirtual 79, 3) := by decide +kernel
theorem dX0_reach_53 : decode cX0_reach 53 = .ok (.aload_n 0, 1) := by decide +kernel
theorem dX0_reach_54 : decode cX0_reach 54 = .ok (.iload_n 2, 1) := by decide +kernel
theorem dX0_reach_55 : decode cX0_reach 55 = .ok (.invokevirtual 82, 3) := by decide +kernel
theorem dX0_reach_58 : decode cX0_reach 58 = .ok (.aload_n 0, 1) := by decide +kernel
theorem dX0_reach_59 : decode cX0_reach 59 = .ok (.iload_n 2, 1) := by decide +kernel
theorem dX0_reach_60 : decode cX0_reach 60 = .ok (.invokevirtual 85, 3) := by decide +kernel
theorem dX0_reach_63 : decode cX0_reach 63 = .ok (.aload_n 0, 1) := by decide +kernel
theorem dX0_reach_64 : decode cX0_reach 64 = .ok (.iload_n 2, 1) := by decide +kernel
theorem dX0_reach_65 : decode cX0_reach 65 = .ok (.invokevirtual 88, 3) := by decide +kernel
theorem dX0_reach_68 : decode cX0_reach 68 = .ok (.aload_n 0, 1) := by decide +kernel
theorem dX0_reach_69 : decode cX0_reach 69 = .ok (.iload_n 2, 1) := by decide +kernel
theorem dX0_reach_70 : decode cX0_reach 70 = .ok (.putfield 62, 3) := by decide +kernel
theorem dX0_reach_73 : decode cX0_reach 73 = .ok (.iinc 2 1, 3) := by decide +kernel
theorem dX0_reach_76 : decode cX0_reach 76 = .ok (.goto (-56), 3) := by decide +kernel
theorem dX0_reach_79 : decode cX0_reach 79 = .ok (.iconst 1, 1) := by decide +kernel
theorem dX0_reach_80 : decode cX0_reach 80 = .ok (.ireturn, 1) := by decide +kernel
theorem dX0_settleRules_0 : decode cX0_settleRules 0 = .ok (.aload_n 0, 1) := by decide +kernel
theorem dX0_settleRules_1 : decode cX0_settleRules 1 = .ok (.getfield 34, 3) := by decide +kernel
theorem dX0_settleRules_4 : decode cX0_settleRules 4 = .ok (.iload_n 1, 1) := by decide +kernel
theorem dX0_settleRules_5 : decode cX0_settleRules 5 = .ok (.iconst 0, 1) := by decide +kernel
theorem dX0_settleRules_6 : decode cX0_settleRules 6 = .ok (.iastore, 1) := by decide +kernel
theorem dX0_settleRules_7 : decode cX0_settleRules 7 = .ok (.iconst 0, 1) := by decide +kernel
theorem dX0_settleRules_8 : decode cX0_settleRules 8 = .ok (.istore_n 2, 1) := by decide +kernel
theorem dX0_settleRules_9 : decode cX0_settleRules 9 = .ok (.iload_n 2, 1) := by decide +kernel
theorem dX0_settleRules_10 : decode cX0_settleRules 10 = .ok (.aload_n 0, 1) := by decide +kernel
theorem dX0_settleRules_11 : decode cX0_settleRules 11 = .ok (.iload_n 1, 1) := by decide +kernel
theorem dX0_settleRules_12 : decode cX0_settleRules 12 = .ok (.invokevirtual 91, 3) := by decide +kernel
theorem dX0_settleRules_15 : decode cX0_settleRules 15 = .ok (.if_icmp .ge 49, 3) := by decide +kernel
theorem dX0_settleRules_18 : decode cX0_settleRules 18 = .ok (.aload_n 0, 1) := by decide +kernel
theorem dX0_settleRules_19 : decode cX0_settleRules 19 = .ok (.iload_n 1, 1) := by decide +kernel
theorem dX0_settleRules_20 : decode cX0_settleRules 20 = .ok (.iload_n 2, 1) := by decide +kernel
theorem dX0_settleRules_21 : decode cX0_settleRules 21 = .ok (.invokevirtual 95, 3) := by decide +kernel
theorem dX0_settleRules_24 : decode cX0_settleRules 24 = .ok (.ifCond .eq 16, 3) := by decide +kernel
theorem dX0_settleRules_27 : decode cX0_settleRules 27 = .ok (.aload_n 0, 1) := by decide +kernel
theorem dX0_settleRules_28 : decode cX0_settleRules 28 = .ok (.getfield 34, 3) := by decide +kernel
theorem dX0_settleRules_31 : decode cX0_settleRules 31 = .ok (.iload_n 1, 1) := by decide +kernel
theorem dX0_settleRules_32 : decode cX0_settleRules 32 = .ok (.dup2, 1) := by decide +kernel
theorem dX0_settleRules_33 : decode cX0_settleRules 33 = .ok (.iaload, 1) := by decide +kernel
theorem dX0_settleRules_34 : decode cX0_settleRules 34 = .ok (.iconst 1, 1) := by decide +kernel
theorem dX0_settleRules_35 : decode cX0_settleRules 35 = .ok (.iadd, 1) := by decide +kernel
theorem dX0_settleRules_36 : decode cX0_settleRules 36 = .ok (.iastore, 1) := by decide +kernel
theorem dX0_settleRules_37 : decode cX0_settleRules 37 = .ok (.goto 21, 3) := by decide +kernel
theorem dX0_settleRules_40 : decode cX0_settleRules 40 = .ok (.aload_n 0, 1) := by decide +kernel
theorem dX0_settleRules_41 : decode cX0_settleRules 41 = .ok (.iload_n 1, 1) := by decide +kernel
theorem dX0_settleRules_42 : decode cX0_settleRules 42 = .ok (.iload_n 2, 1) := by decide +kernel
theorem dX0_settleRules_43 : decode cX0_settleRules 43 = .ok (.invokevirtual 99, 3) := by decide +kernel
theorem dX0_settleRules_46 : decode cX0_settleRules 46 = .ok (.aload_n 0, 1) := by decide +kernel
theorem dX0_settleRules_47 : decode cX0_settleRules 47 = .ok (.iload_n 1, 1) := by decide +kernel
theorem dX0_settleRules_48 : decode cX0_settleRules 48 = .ok (.invokevirtual 103, 3) := by decide +kernel
theorem dX0_settleRules_51 : decode cX0_settleRules 51 = .ok (.aload_n 0, 1) := by decide +kernel
theorem dX0_settleRules_52 : decode cX0_settleRules 52 = .ok (.iload_n 1, 1) := by decide +kernel
theorem dX0_settleRules_53 : decode cX0_settleRules 53 = .ok (.iload_n 2, 1) := by decide +kernel
theorem dX0_settleRules_54 : decode cX0_settleRules 54 = .ok (.iconst 1, 1) := by decide +kernel
theorem dX0_settleRules_55 : decode cX0_settleRules 55 = .ok (.invokevirtual 106, 3) := by decide +kernel
theorem dX0_settleRules_58 : decode cX0_settleRules 58 = .ok (.iinc 2 1, 3) := by decide +kernel
theorem dX0_settleRules_61 : decode cX0_settleRules 61 = .ok (.goto (-52), 3) := by decide +kernel
theorem dX0_settleRules_64 : decode cX0_settleRules 64 = .ok (.return_, 1) := by decide +kernel
theorem dX0_treesOf_0 : decode cX0_treesOf 0 = .ok (.aload_n 0, 1) := by decide +kernel
theorem dX0_treesOf_1 : decode cX0_treesOf 1 = .ok (.getfield 18, 3) := by decide +kernel
theorem dX0_treesOf_4 : decode cX0_treesOf 4 = .ok (.iload_n 1, 1) := by decide +kernel
theorem dX0_treesOf_5 : decode cX0_treesOf 5 = .ok (.iconst 1, 1) := by decide +kernel
theorem dX0_treesOf_6 : decode cX0_treesOf 6 = .ok (.iadd, 1) := by decide +kernel
theorem dX0_treesOf_7 : decode cX0_treesOf 7 = .ok (.iaload, 1) := by decide +kernel
theorem dX0_treesOf_8 : decode cX0_treesOf 8 = .ok (.aload_n 0, 1) := by decide +kernel
theorem dX0_treesOf_9 : decode cX0_treesOf 9 = .ok (.getfield 18, 3) := by decide +kernel
theorem dX0_treesOf_12 : decode cX0_treesOf 12 = .ok (.iload_n 1, 1) := by decide +kernel
theorem dX0_treesOf_13 : decode cX0_treesOf 13 = .ok (.iaload, 1) := by decide +kernel
theorem dX0_treesOf_14 : decode cX0_treesOf 14 = .ok (.isub, 1) := by decide +kernel
theorem dX0_treesOf_15 : decode cX0_treesOf 15 = .ok (.ireturn, 1) := by decide +kernel
theorem dX0_keyOf_0 : decode cX0_keyOf 0 = .ok (.aload_n 0, 1) := by decide +kernel
theorem dX0_keyOf_1 : decode cX0_keyOf 1 = .ok (.getfield 18, 3) := by decide +kernel
theorem dX0_keyOf_4 : decode cX0_keyOf 4 = .ok (.iload_n 1, 1) := by decide +kernel
theorem dX0_keyOf_5 : decode cX0_keyOf 5 = .ok (.iaload, 1) := by decide +kernel
theorem dX0_keyOf_6 : decode cX0_keyOf 6 = .ok (.iload_n 2, 1) := by decide +kernel
theorem dX0_keyOf_7 : decode cX0_keyOf 7 = .ok (.iadd, 1) := by decide +kernel
theorem dX0_keyOf_8 : decode cX0_keyOf 8 = .ok (.istore_n 3, 1) := by decide +kernel
theorem dX0_keyOf_9 : decode cX0_keyOf 9 = .ok (.iload_n 3, 1) := by decide +kernel
theorem dX0_keyOf_10 : decode cX0_keyOf 10 = .ok (.ifCond .lt 21, 3) := by decide +kernel
theorem dX0_keyOf_13 : decode cX0_keyOf 13 = .ok (.iload_n 3, 1) := by decide +kernel
theorem dX0_keyOf_14 : decode cX0_keyOf 14 = .ok (.aload_n 0, 1) := by decide +kernel
theorem dX0_keyOf_15 : decode cX0_keyOf 15 = .ok (.getfield 22, 3) := by decide +kernel
theorem dX0_keyOf_18 : decode cX0_keyOf 18 = .ok (.arraylength, 1) := by decide +kernel
theorem dX0_keyOf_19 : decode cX0_keyOf 19 = .ok (.if_icmp .ge 12, 3) := by decide +kernel
theorem dX0_keyOf_22 : decode cX0_keyOf 22 = .ok (.aload_n 0, 1) := by decide +kernel
theorem dX0_keyOf_23 : decode cX0_keyOf 23 = .ok (.getfield 22, 3) := by decide +kernel
theorem dX0_keyOf_26 : decode cX0_keyOf 26 = .ok (.iload_n 3, 1) := by decide +kernel
theorem dX0_keyOf_27 : decode cX0_keyOf 27 = .ok (.iaload, 1) := by decide +kernel
theorem dX0_keyOf_28 : decode cX0_keyOf 28 = .ok (.goto 4, 3) := by decide +kernel
theorem dX0_keyOf_31 : decode cX0_keyOf 31 = .ok (.iconst 0, 1) := by decide +kernel
theorem dX0_keyOf_32 : decode cX0_keyOf 32 = .ok (.ireturn, 1) := by decide +kernel
theorem dX0_isNormal_0 : decode cX0_isNormal 0 = .ok (.aload_n 0, 1) := by decide +kernel
theorem dX0_isNormal_1 : decode cX0_isNormal 1 = .ok (.getfield 18, 3) := by decide +kernel
theorem dX0_isNormal_4 : decode cX0_isNormal 4 = .ok (.iload_n 1, 1) := by decide +kernel
theorem dX0_isNormal_5 : decode cX0_isNormal 5 = .ok (.iaload, 1) := by decide +kernel
theorem dX0_isNormal_6 : decode cX0_isNormal 6 = .ok (.iload_n 2, 1) := by decide +kernel
theorem dX0_isNormal_7 : decode cX0_isNormal 7 = .ok (.iadd, 1) := by decide +kernel
theorem dX0_isNormal_8 : decode cX0_isNormal 8 = .ok (.istore_n 3, 1) := by decide +kernel
theorem dX0_isNormal_9 : decode cX0_isNormal 9 = .ok (.iload_n 3, 1) := by decide +kernel
theorem dX0_isNormal_10 : decode cX0_isNormal 10 = .ok (.ifCond .lt 21, 3) := by decide +kernel
theorem dX0_isNormal_13 : decode cX0_isNormal 13 = .ok (.iload_n 3, 1) := by decide +kernel
theorem dX0_isNormal_14 : decode cX0_isNormal 14 = .ok (.aload_n 0, 1) := by decide +kernel
theorem dX0_isNormal_15 : decode cX0_isNormal 15 = .ok (.getfield 25, 3) := by decide +kernel
theorem dX0_isNormal_18 : decode cX0_isNormal 18 = .ok (.arraylength, 1) := by decide +kernel
theorem dX0_isNormal_19 : decode cX0_isNormal 19 = .ok (.if_icmp .ge 12, 3) := by decide +kernel
theorem dX0_isNormal_22 : decode cX0_isNormal 22 = .ok (.aload_n 0, 1) := by decide +kernel
theorem dX0_isNormal_23 : decode cX0_isNormal 23 = .ok (.getfield 25, 3) := by decide +kernel
theorem dX0_isNormal_26 : decode cX0_isNormal 26 = .ok (.iload_n 3, 1) := by decide +kernel
theorem dX0_isNormal_27 : decode cX0_isNormal 27 = .ok (.iaload, 1) := by decide +kernel
theorem dX0_isNormal_28 : decode cX0_isNormal 28 = .ok (.ifCond .ne 7, 3) := by decide +kernel
theorem dX0_isNormal_31 : decode cX0_isNormal 31 = .ok (.iconst 1, 1) := by decide +kernel
theorem dX0_isNormal_32 : decode cX0_isNormal 32 = .ok (.goto 4, 3) := by decide +kernel
theorem dX0_isNormal_35 : decode cX0_isNormal 35 = .ok (.iconst 0, 1) := by decide +kernel
theorem dX0_isNormal_36 : decode cX0_isNormal 36 = .ok (.ireturn, 1) := by decide +kernel
theorem dX0_normalTree_0 : decode cX0_normalTree 0 = .ok (.iload_n 2, 1) := by decide +kernel
theorem dX0_normalTree_1 : decode cX0_normalTree 1 = .ok (.istore_n 3, 1) := by decide +kernel
theorem dX0_normalTree_2 : decode cX0_normalTree 2 = .ok (.iconst 0, 1) := by decide +kernel
theorem dX0_normalTree_3 : decode cX0_normalTree 3 = .ok (.istore 4, 2) := by decide +kernel
theorem dX0_normalTree_5 : decode cX0_normalTree 5 = .ok (.iload 4, 2) := by decide +kernel
theorem dX0_normalTree_7 : decode cX0_normalTree 7 = .ok (.aload_n 0, 1) := by decide +kernel
theorem dX0_normalTree_8 : decode cX0_normalTree 8 = .ok (.iload_n 1, 1) := by decide +kernel
theorem dX0_normalTree_9 : decode cX0_normalTree 9 = .ok (.invokevirtual 91, 3) := by decide +kernel
theorem dX0_normalTree_12 : decode cX0_normalTree 12 = .ok (.if_icmp .ge 29, 3) := by decide +kernel
theorem dX0_normalTree_15 : decode cX0_normalTree 15 = .ok (.aload_n 0, 1) := by decide +kernel
theorem dX0_normalTree_16 : decode cX0_normalTree 16 = .ok (.iload_n 1, 1) := by decide +kernel
theorem dX0_normalTree_17 : decode cX0_normalTree 17 = .ok (.iload 4, 2) := by decide +kernel
theorem dX0_normalTree_19 : decode cX0_normalTree 19 = .ok (.invokevirtual 95, 3) := by decide +kernel
theorem dX0_normalTree_22 : decode cX0_normalTree 22 = .ok (.ifCond .eq 13, 3) := by decide +kernel
theorem dX0_normalTree_25 : decode cX0_normalTree 25 = .ok (.iload_n 3, 1) := by decide +kernel
theorem dX0_normalTree_26 : decode cX0_normalTree 26 = .ok (.ifCond .ne 6, 3) := by decide +kernel
theorem dX0_normalTree_29 : decode cX0_normalTree 29 = .ok (.iload 4, 2) := by decide +kernel
theorem dX0_normalTree_31 : decode cX0_normalTree 31 = .ok (.ireturn, 1) := by decide +kernel
theorem dX0_normalTree_32 : decode cX0_normalTree 32 = .ok (.iinc 3 (-1), 3) := by decide +kernel
theorem dX0_normalTree_35 : decode cX0_normalTree 35 = .ok (.iinc 4 1, 3) := by decide +kernel
theorem dX0_normalTree_38 : decode cX0_normalTree 38 = .ok (.goto (-33), 3) := by decide +kernel
theorem dX0_normalTree_41 : decode cX0_normalTree 41 = .ok (.iconst (-1), 1) := by decide +kernel
theorem dX0_normalTree_42 : decode cX0_normalTree 42 = .ok (.ireturn, 1) := by decide +kernel
theorem dX0_listTrees_0 : decode cX0_listTrees 0 = .ok (.aload_n 0, 1) := by decide +kernel
theorem dX0_listTrees_1 : decode cX0_listTrees 1 = .ok (.getfield 18, 3) := by decide +kernel
theorem dX0_listTrees_4 : decode cX0_listTrees 4 = .ok (.iload_n 1, 1) := by decide +kernel
theorem dX0_listTrees_5 : decode cX0_listTrees 5 = .ok (.iconst 1, 1) := by decide +kernel
theorem dX0_listTrees_6 : decode cX0_listTrees 6 = .ok (.iadd, 1) := by decide +kernel
theorem dX0_listTrees_7 : decode cX0_listTrees 7 = .ok (.aload_n 0, 1) := by decide +kernel
theorem dX0_listTrees_8 : decode cX0_listTrees 8 = .ok (.getfield 18, 3) := by decide +kernel
theorem dX0_listTrees_11 : decode cX0_listTrees 11 = .ok (.iload_n 1, 1) := by decide +kernel
theorem dX0_listTrees_12 : decode cX0_listTrees 12 = .ok (.iaload, 1) := by decide +kernel
theorem dX0_listTrees_13 : decode cX0_listTrees 13 = .ok (.iastore, 1) := by decide +kernel
theorem dX0_listTrees_14 : decode cX0_listTrees 14 = .ok (.iload_n 1, 1) := by decide +kernel
theorem dX0_listTrees_15 : decode cX0_listTrees 15 = .ok (.iconst 1, 1) := by decide +kernel
theorem dX0_listTrees_16 : decode cX0_listTrees 16 = .ok (.if_icmp .ne 9, 3) := by decide +kernel
theorem dX0_listTrees_19 : decode cX0_listTrees 19 = .ok (.aload_n 0, 1) := by decide +kernel
theorem dX0_listTrees_20 : decode cX0_listTrees 20 = .ok (.iconst 1, 1) := by decide +kernel
theorem dX0_listTrees_21 : decode cX0_listTrees 21 = .ok (.iconst 0, 1) := by decide +kernel
theorem dX0_listTrees_22 : decode cX0_listTrees 22 = .ok (.invokevirtual 110, 3) := by decide +kernel
theorem dX0_listTrees_25 : decode cX0_listTrees 25 = .ok (.iconst 0, 1) := by decide +kernel
theorem dX0_listTrees_26 : decode cX0_listTrees 26 = .ok (.istore_n 2, 1) := by decide +kernel
theorem dX0_listTrees_27 : decode cX0_listTrees 27 = .ok (.iload_n 2, 1) := by decide +kernel
theorem dX0_listTrees_28 : decode cX0_listTrees 28 = .ok (.aload_n 0, 1) := by decide +kernel
theorem dX0_listTrees_29 : decode cX0_listTrees 29 = .ok (.getfield 47, 3) := by decide +kernel
theorem dX0_listTrees_32 : decode cX0_listTrees 32 = .ok (.getfield 113, 3) := by decide +kernel
theorem dX0_listTrees_35 : decode cX0_listTrees 35 = .ok (.if_icmp .ge 97, 3) := by decide +kernel
theorem dX0_listTrees_38 : decode cX0_listTrees 38 = .ok (.iload_n 1, 1) := by decide +kernel
theorem dX0_listTrees_39 : decode cX0_listTrees 39 = .ok (.aload_n 0, 1) := by decide +kernel
theorem dX0_listTrees_40 : decode cX0_listTrees 40 = .ok (.getfield 47, 3) := by decide +kernel
theorem dX0_listTrees_43 : decode cX0_listTrees 43 = .ok (.getfield 116, 3) := by decide +kernel
theorem dX0_listTrees_46 : decode cX0_listTrees 46 = .ok (.iload_n 2, 1) := by decide +kernel
theorem dX0_listTrees_47 : decode cX0_listTrees 47 = .ok (.iaload, 1) := by decide +kernel
theorem dX0_listTrees_48 : decode cX0_listTrees 48 = .ok (.isub, 1) := by decide +kernel
theorem dX0_listTrees_49 : decode cX0_listTrees 49 = .ok (.iconst 1, 1) := by decide +kernel
theorem dX0_listTrees_50 : decode cX0_listTrees 50 = .ok (.iadd, 1) := by decide +kernel
theorem dX0_listTrees_51 : decode cX0_listTrees 51 = .ok (.istore_n 3, 1) := by decide +kernel
theorem dX0_listTrees_52 : decode cX0_listTrees 52 = .ok (.iconst 0, 1) := by decide +kernel
theorem dX0_listTrees_53 : decode cX0_listTrees 53 = .ok (.istore 4, 2) := by decide +kernel
theorem dX0_listTrees_55 : decode cX0_listTrees 55 = .ok (.iload_n 3, 1) := by decide +kernel
theorem dX0_listTrees_56 : decode cX0_listTrees 56 = .ok (.iconst 1, 1) := by decide +kernel
theorem dX0_listTrees_57 : decode cX0_listTrees 57 = .ok (.if_icmp .lt 69, 3) := by decide +kernel
theorem dX0_listTrees_60 : decode cX0_listTrees 60 = .ok (.iload 4, 2) := by decide +kernel
theorem dX0_listTrees_62 : decode cX0_listTrees 62 = .ok (.aload_n 0, 1) := by decide +kernel
theorem dX0_listTrees_63 : decode cX0_listTrees 63 = .ok (.iload_n 3, 1) := by decide +kernel
theorem dX0_listTrees_64 : decode cX0_listTrees 64 = .ok (.invokevirtual 91, 3) := by decide +kernel
theorem dX0_listTrees_67 : decode cX0_listTrees 67 = .ok (.if_icmp .ge 59, 3) := by decide +kernel
theorem dX0_listTrees_70 : decode cX0_listTrees 70 = .ok (.iconst 0, 1) := by decide +kernel
theorem dX0_listTrees_71 : decode cX0_listTrees 71 = .ok (.istore 5, 2) := by decide +kernel
theorem dX0_listTrees_73 : decode cX0_listTrees 73 = .ok (.iload 5, 2) := by decide +kernel
theorem dX0_listTrees_75 : decode cX0_listTrees 75 = .ok (.iload_n 3, 1) := by decide +kernel
theorem dX0_listTrees_76 : decode cX0_listTrees 76 = .ok (.if_icmp .ge 44, 3) := by decide +kernel
theorem dX0_listTrees_79 : decode cX0_listTrees 79 = .ok (.aload_n 0, 1) := by decide +kernel
theorem dX0_listTrees_80 : decode cX0_listTrees 80 = .ok (.iload_n 1, 1) := by decide +kernel
theorem dX0_listTrees_81 : decode cX0_listTrees 81 = .ok (.aload_n 0, 1) := by decide +kernel
theorem dX0_listTrees_82 : decode cX0_listTrees 82 = .ok (.getfield 12, 3) := by decide +kernel
theorem dX0_listTrees_85 : decode cX0_listTrees 85 = .ok (.aload_n 0, 1) := by decide +kernel
theorem dX0_listTrees_86 : decode cX0_listTrees 86 = .ok (.iload_n 3, 1) := by decide +kernel
theorem dX0_listTrees_87 : decode cX0_listTrees 87 = .ok (.iload 4, 2) := by decide +kernel
theorem dX0_listTrees_89 : decode cX0_listTrees 89 = .ok (.invokevirtual 119, 3) := by decide +kernel
theorem dX0_listTrees_92 : decode cX0_listTrees 92 = .ok (.iload_n 3, 1) := by decide +kernel
theorem dX0_listTrees_93 : decode cX0_listTrees 93 = .ok (.iload 5, 2) := by decide +kernel
theorem dX0_listTrees_95 : decode cX0_listTrees 95 = .ok (.iload_n 2, 1) := by decide +kernel
theorem dX0_listTrees_96 : decode cX0_listTrees 96 = .ok (.invokestatic 123, 3) := by decide +kernel
theorem dX0_listTrees_99 : decode cX0_listTrees 99 = .ok (.aload_n 0, 1) := by decide +kernel
theorem dX0_listTrees_100 : decode cX0_listTrees 100 = .ok (.getfield 47, 3) := by decide +kernel
theorem dX0_listTrees_103 : decode cX0_listTrees 103 = .ok (.getfield 116, 3) := by decide +kernel
theorem dX0_listTrees_106 : decode cX0_listTrees 106 = .ok (.iload_n 2, 1) := by decide +kernel
theorem dX0_listTrees_107 : decode cX0_listTrees 107 = .ok (.iaload, 1) := by decide +kernel
theorem dX0_listTrees_108 : decode cX0_listTrees 108 = .ok (.invokevirtual 126, 3) := by decide +kernel
theorem dX0_listTrees_111 : decode cX0_listTrees 111 = .ok (.invokevirtual 110, 3) := by decide +kernel
theorem dX0_listTrees_114 : decode cX0_listTrees 114 = .ok (.iinc 5 1, 3) := by decide +kernel
theorem dX0_listTrees_117 : decode cX0_listTrees 117 = .ok (.goto (-44), 3) := by decide +kernel
theorem dX0_listTrees_120 : decode cX0_listTrees 120 = .ok (.iinc 4 1, 3) := by decide +kernel
theorem dX0_listTrees_123 : decode cX0_listTrees 123 = .ok (.goto (-68), 3) := by decide +kernel
theorem dX0_listTrees_126 : decode cX0_listTrees 126 = .ok (.iinc 2 1, 3) := by decide +kernel
theorem dX0_listTrees_129 : decode cX0_listTrees 129 = .ok (.goto (-102), 3) := by decide +kernel
theorem dX0_listTrees_132 : decode cX0_listTrees 132 = .ok (.aload_n 0, 1) := by decide +kernel
theorem dX0_listTrees_133 : decode cX0_listTrees 133 = .ok (.iload_n 1, 1) := by decide +kernel
theorem dX0_listTrees_134 : decode cX0_listTrees 134 = .ok (.invokevirtual 91, 3) := by decide +kernel
theorem dX0_listTrees_137 : decode cX0_listTrees 137 = .ok (.istore_n 2, 1) := by decide +kernel
theorem dX0_listTrees_138 : decode cX0_listTrees 138 = .ok (.aload_n 0, 1) := by decide +kernel
theorem dX0_listTrees_139 : decode cX0_listTrees 139 = .ok (.getfield 28, 3) := by decide +kernel
theorem dX0_listTrees_142 : decode cX0_listTrees 142 = .ok (.iload_n 1, 1) := by decide +kernel
theorem dX0_listTrees_143 : decode cX0_listTrees 143 = .ok (.iconst 1, 1) := by decide +kernel
theorem dX0_listTrees_144 : decode cX0_listTrees 144 = .ok (.iadd, 1) := by decide +kernel
theorem dX0_listTrees_145 : decode cX0_listTrees 145 = .ok (.aload_n 0, 1) := by decide +kernel
theorem dX0_listTrees_146 : decode cX0_listTrees 146 = .ok (.getfield 28, 3) := by decide +kernel
theorem dX0_listTrees_149 : decode cX0_listTrees 149 = .ok (.iload_n 1, 1) := by decide +kernel
theorem dX0_listTrees_150 : decode cX0_listTrees 150 = .ok (.iaload, 1) := by decide +kernel
theorem dX0_listTrees_151 : decode cX0_listTrees 151 = .ok (.iload_n 2, 1) := by decide +kernel
theorem dX0_listTrees_152 : decode cX0_listTrees 152 = .ok (.iload_n 2, 1) := by decide +kernel
theorem dX0_listTrees_153 : decode cX0_listTrees 153 = .ok (.iconst 1, 1) := by decide +kernel
theorem dX0_listTrees_154 : decode cX0_listTrees 154 = .ok (.isub, 1) := by decide +kernel
theorem dX0_listTrees_155 : decode cX0_listTrees 155 = .ok (.imul, 1) := by decide +kernel
theorem dX0_listTrees_156 : decode cX0_listTrees 156 = .ok (.iconst 2, 1) := by decide +kernel
theorem dX0_listTrees_157 : decode cX0_listTrees 157 = .ok (.idiv, 1) := by decide +kernel
theorem dX0_listTrees_158 : decode cX0_listTrees 158 = .ok (.iadd, 1) := by decide +kernel
theorem dX0_listTrees_159 : decode cX0_listTrees 159 = .ok (.iastore, 1) := by decide +kernel
theorem dX0_listTrees_160 : decode cX0_listTrees 160 = .ok (.aload_n 0, 1) := by decide +kernel
theorem dX0_listTrees_161 : decode cX0_listTrees 161 = .ok (.aload_n 0, 1) := by decide +kernel
theorem dX0_listTrees_162 : decode cX0_listTrees 162 = .ok (.getfield 28, 3) := by decide +kernel
theorem dX0_listTrees_165 : decode cX0_listTrees 165 = .ok (.iload_n 1, 1) := by decide +kernel
theorem dX0_listTrees_166 : decode cX0_listTrees 166 = .ok (.iconst 1, 1) := by decide +kernel
theorem dX0_listTrees_167 : decode cX0_listTrees 167 = .ok (.iadd, 1) := by decide +kernel
theorem dX0_listTrees_168 : decode cX0_listTrees 168 = .ok (.iaload, 1) := by decide +kernel
theorem dX0_listTrees_169 : decode cX0_listTrees 169 = .ok (.invokevirtual 130, 3) := by decide +kernel
theorem dX0_listTrees_172 : decode cX0_listTrees 172 = .ok (.aload_n 0, 1) := by decide +kernel
theorem dX0_listTrees_173 : decode cX0_listTrees 173 = .ok (.getfield 25, 3) := by decide +kernel
theorem dX0_listTrees_176 : decode cX0_listTrees 176 = .ok (.aload_n 0, 1) := by decide +kernel
theorem dX0_listTrees_177 : decode cX0_listTrees 177 = .ok (.getfield 18, 3) := by decide +kernel
theorem dX0_listTrees_180 : decode cX0_listTrees 180 = .ok (.iload_n 1, 1) := by decide +kernel
theorem dX0_listTrees_181 : decode cX0_listTrees 181 = .ok (.iaload, 1) := by decide +kernel
theorem dX0_listTrees_182 : decode cX0_listTrees 182 = .ok (.aload_n 0, 1) := by decide +kernel
theorem dX0_listTrees_183 : decode cX0_listTrees 183 = .ok (.getfield 18, 3) := by decide +kernel
theorem dX0_listTrees_186 : decode cX0_listTrees 186 = .ok (.iload_n 1, 1) := by decide +kernel
theorem dX0_listTrees_187 : decode cX0_listTrees 187 = .ok (.iconst 1, 1) := by decide +kernel
theorem dX0_listTrees_188 : decode cX0_listTrees 188 = .ok (.iadd, 1) := by decide +kernel
theorem dX0_listTrees_189 : decode cX0_listTrees 189 = .ok (.iaload, 1) := by decide +kernel
theorem dX0_listTrees_190 : decode cX0_listTrees 190 = .ok (.iconst 0, 1) := by decide +kernel
theorem dX0_listTrees_191 : decode cX0_listTrees 191 = .ok (.invokestatic 133, 3) := by decide +kernel
theorem dX0_listTrees_194 : decode cX0_listTrees 194 = .ok (.return_, 1) := by decide +kernel
theorem dX0_insertKey_0 : decode cX0_insertKey 0 = .ok (.aload_n 0, 1) := by decide +kernel
theorem dX0_insertKey_1 : decode cX0_insertKey 1 = .ok (.iload_n 1, 1) := by decide +kernel
theorem dX0_insertKey_2 : decode cX0_insertKey 2 = .ok (.iload_n 2, 1) := by decide +kernel
theorem dX0_insertKey_3 : decode cX0_insertKey 3 = .ok (.invokevirtual 136, 3) := by decide +kernel
theorem dX0_insertKey_6 : decode cX0_insertKey 6 = .ok (.istore_n 3, 1) := by decide +kernel
theorem dX0_insertKey_7 : decode cX0_insertKey 7 = .ok (.aload_n 0, 1) := by decide +kernel
theorem dX0_insertKey_8 : decode cX0_insertKey 8 = .ok (.getfield 18, 3) := by decide +kernel
theorem dX0_insertKey_11 : decode cX0_insertKey 11 = .ok (.iload_n 1, 1) := by decide +kernel
theorem dX0_insertKey_12 : decode cX0_insertKey 12 = .ok (.iconst 1, 1) := by decide +kernel
theorem dX0_insertKey_13 : decode cX0_insertKey 13 = .ok (.iadd, 1) := by decide +kernel
theorem dX0_insertKey_14 : decode cX0_insertKey 14 = .ok (.iaload, 1) := by decide +kernel
theorem dX0_insertKey_15 : decode cX0_insertKey 15 = .ok (.istore 4, 2) := by decide +kernel
theorem dX0_insertKey_17 : decode cX0_insertKey 17 = .ok (.iload 4, 2) := by decide +kernel
theorem dX0_insertKey_19 : decode cX0_insertKey 19 = .ok (.aload_n 0, 1) := by decide +kernel
theorem dX0_insertKey_20 : decode cX0_insertKey 20 = .ok (.getfield 22, 3) := by decide +kernel
theorem dX0_insertKey_23 : decode cX0_insertKey 23 = .ok (.arraylength, 1) := by decide +kernel
theorem dX0_insertKey_24 : decode cX0_insertKey 24 = .ok (.if_icmp .ge 19, 3) := by decide +kernel
theorem dX0_insertKey_27 : decode cX0_insertKey 27 = .ok (.iload_n 3, 1) := by decide +kernel
theorem dX0_insertKey_28 : decode cX0_insertKey 28 = .ok (.iload 4, 2) := by decide +kernel
theorem dX0_insertKey_30 : decode cX0_insertKey 30 = .ok (.if_icmp .ge 14, 3) := by decide +kernel
theorem dX0_insertKey_33 : decode cX0_insertKey 33 = .ok (.aload_n 0, 1) := by decide +kernel
theorem dX0_insertKey_34 : decode cX0_insertKey 34 = .ok (.getfield 22, 3) := by decide +kernel
theorem dX0_insertKey_37 : decode cX0_insertKey 37 = .ok (.iload_n 3, 1) := by decide +kernel
theorem dX0_insertKey_38 : decode cX0_insertKey 38 = .ok (.iaload, 1) := by decide +kernel
theorem dX0_insertKey_39 : decode cX0_insertKey 39 = .ok (.iload_n 2, 1) := by decide +kernel
theorem dX0_insertKey_40 : decode cX0_insertKey 40 = .ok (.if_icmp .ne 4, 3) := by decide +kernel
theorem dX0_insertKey_43 : decode cX0_insertKey 43 = .ok (.return_, 1) := by decide +kernel
theorem dX0_insertKey_44 : decode cX0_insertKey 44 = .ok (.aload_n 0, 1) := by decide +kernel
theorem dX0_insertKey_45 : decode cX0_insertKey 45 = .ok (.getfield 22, 3) := by decide +kernel
theorem dX0_insertKey_48 : decode cX0_insertKey 48 = .ok (.iload_n 3, 1) := by decide +kernel
theorem dX0_insertKey_49 : decode cX0_insertKey 49 = .ok (.aload_n 0, 1) := by decide +kernel
theorem dX0_insertKey_50 : decode cX0_insertKey 50 = .ok (.getfield 22, 3) := by decide +kernel
theorem dX0_insertKey_53 : decode cX0_insertKey 53 = .ok (.iload_n 3, 1) := by decide +kernel
theorem dX0_insertKey_54 : decode cX0_insertKey 54 = .ok (.iconst 1, 1) := by decide +kernel
theorem dX0_insertKey_55 : decode cX0_insertKey 55 = .ok (.iadd, 1) := by decide +kernel
theorem dX0_insertKey_56 : decode cX0_insertKey 56 = .ok (.iload 4, 2) := by decide +kernel
theorem dX0_insertKey_58 : decode cX0_insertKey 58 = .ok (.iload_n 3, 1) := by decide +kernel
theorem dX0_insertKey_59 : decode cX0_insertKey 59 = .ok (.isub, 1) := by decide +kernel
theorem dX0_insertKey_60 : decode cX0_insertKey 60 = .ok (.invokestatic 139, 3) := by decide +kernel
theorem dX0_insertKey_63 : decode cX0_insertKey 63 = .ok (.aload_n 0, 1) := by decide +kernel
theorem dX0_insertKey_64 : decode cX0_insertKey 64 = .ok (.getfield 22, 3) := by decide +kernel
theorem dX0_insertKey_67 : decode cX0_insertKey 67 = .ok (.iload_n 3, 1) := by decide +kernel
theorem dX0_insertKey_68 : decode cX0_insertKey 68 = .ok (.iload_n 2, 1) := by decide +kernel
theorem dX0_insertKey_69 : decode cX0_insertKey 69 = .ok (.iastore, 1) := by decide +kernel
theorem dX0_insertKey_70 : decode cX0_insertKey 70 = .ok (.aload_n 0, 1) := by decide +kernel
theorem dX0_insertKey_71 : decode cX0_insertKey 71 = .ok (.getfield 18, 3) := by decide +kernel
theorem dX0_insertKey_74 : decode cX0_insertKey 74 = .ok (.iload_n 1, 1) := by decide +kernel
theorem dX0_insertKey_75 : decode cX0_insertKey 75 = .ok (.iconst 1, 1) := by decide +kernel
theorem dX0_insertKey_76 : decode cX0_insertKey 76 = .ok (.iadd, 1) := by decide +kernel
theorem dX0_insertKey_77 : decode cX0_insertKey 77 = .ok (.iload 4, 2) := by decide +kernel
theorem dX0_insertKey_79 : decode cX0_insertKey 79 = .ok (.iconst 1, 1) := by decide +kernel
theorem dX0_insertKey_80 : decode cX0_insertKey 80 = .ok (.iadd, 1) := by decide +kernel
theorem dX0_insertKey_81 : decode cX0_insertKey 81 = .ok (.iastore, 1) := by decide +kernel
theorem dX0_insertKey_82 : decode cX0_insertKey 82 = .ok (.return_, 1) := by decide +kernel
theorem dX0_placeOf_0 : decode cX0_placeOf 0 = .ok (.aload_n 0, 1) := by decide +kernel
theorem dX0_placeOf_1 : decode cX0_placeOf 1 = .ok (.getfield 18, 3) := by decide +kernel
theorem dX0_placeOf_4 : decode cX0_placeOf 4 = .ok (.iload_n 1, 1) := by decide +kernel
theorem dX0_placeOf_5 : decode cX0_placeOf 5 = .ok (.iaload, 1) := by decide +kernel
theorem dX0_placeOf_6 : decode cX0_placeOf 6 = .ok (.istore_n 3, 1) := by decide +kernel
theorem dX0_placeOf_7 : decode cX0_placeOf 7 = .ok (.aload_n 0, 1) := by decide +kernel
theorem dX0_placeOf_8 : decode cX0_placeOf 8 = .ok (.getfield 18, 3) := by decide +kernel
theorem dX0_placeOf_11 : decode cX0_placeOf 11 = .ok (.iload_n 1, 1) := by decide +kernel
theorem dX0_placeOf_12 : decode cX0_placeOf 12 = .ok (.iconst 1, 1) := by decide +kernel
theorem dX0_placeOf_13 : decode cX0_placeOf 13 = .ok (.iadd, 1) := by decide +kernel
theorem dX0_placeOf_14 : decode cX0_placeOf 14 = .ok (.iaload, 1) := by decide +kernel
theorem dX0_placeOf_15 : decode cX0_placeOf 15 = .ok (.istore 4, 2) := by decide +kernel
theorem dX0_placeOf_17 : decode cX0_placeOf 17 = .ok (.iload_n 3, 1) := by decide +kernel
theorem dX0_placeOf_18 : decode cX0_placeOf 18 = .ok (.iload 4, 2) := by decide +kernel
theorem dX0_placeOf_20 : decode cX0_placeOf 20 = .ok (.if_icmp .ge 37, 3) := by decide +kernel
theorem dX0_placeOf_23 : decode cX0_placeOf 23 = .ok (.iload_n 3, 1) := by decide +kernel
theorem dX0_placeOf_24 : decode cX0_placeOf 24 = .ok (.iload 4, 2) := by decide +kernel
theorem dX0_placeOf_26 : decode cX0_placeOf 26 = .ok (.iadd, 1) := by decide +kernel
theorem dX0_placeOf_27 : decode cX0_placeOf 27 = .ok (.iconst 1, 1) := by decide +kernel
theorem dX0_placeOf_28 : decode cX0_placeOf 28 = .ok (.iushr, 1) := by decide +kernel
theorem dX0_placeOf_29 : decode cX0_placeOf 29 = .ok (.istore 5, 2) := by decide +kernel
theorem dX0_placeOf_31 : decode cX0_placeOf 31 = .ok (.aload_n 0, 1) := by decide +kernel
theorem dX0_placeOf_32 : decode cX0_placeOf 32 = .ok (.getfield 22, 3) := by decide +kernel
theorem dX0_placeOf_35 : decode cX0_placeOf 35 = .ok (.iload 5, 2) := by decide +kernel
theorem dX0_placeOf_37 : decode cX0_placeOf 37 = .ok (.iaload, 1) := by decide +kernel
theorem dX0_placeOf_38 : decode cX0_placeOf 38 = .ok (.iload_n 2, 1) := by decide +kernel
theorem dX0_placeOf_39 : decode cX0_placeOf 39 = .ok (.if_icmp .ge 11, 3) := by decide +kernel
theorem dX0_placeOf_42 : decode cX0_placeOf 42 = .ok (.iload 5, 2) := by decide +kernel
theorem dX0_placeOf_44 : decode cX0_placeOf 44 = .ok (.iconst 1, 1) := by decide +kernel
theorem dX0_placeOf_45 : decode cX0_placeOf 45 = .ok (.iadd, 1) := by decide +kernel
theorem dX0_placeOf_46 : decode cX0_placeOf 46 = .ok (.istore_n 3, 1) := by decide +kernel
theorem dX0_placeOf_47 : decode cX0_placeOf 47 = .ok (.goto 7, 3) := by decide +kernel
theorem dX0_placeOf_50 : decode cX0_placeOf 50 = .ok (.iload 5, 2) := by decide +kernel
theorem dX0_placeOf_52 : decode cX0_placeOf 52 = .ok (.istore 4, 2) := by decide +kernel
theorem dX0_placeOf_54 : decode cX0_placeOf 54 = .ok (.goto (-37), 3) := by decide +kernel
theorem dX0_placeOf_57 : decode cX0_placeOf 57 = .ok (.iload_n 3, 1) := by decide +kernel
theorem dX0_placeOf_58 : decode cX0_placeOf 58 = .ok (.ireturn, 1) := by decide +kernel
theorem dX0_makeRoom_0 : decode cX0_makeRoom 0 = .ok (.iload_n 1, 1) := by decide +kernel
theorem dX0_makeRoom_1 : decode cX0_makeRoom 1 = .ok (.aload_n 0, 1) := by decide +kernel
theorem dX0_makeRoom_2 : decode cX0_makeRoom 2 = .ok (.getfield 31, 3) := by decide +kernel
theorem dX0_makeRoom_5 : decode cX0_makeRoom 5 = .ok (.arraylength, 1) := by decide +kernel
theorem dX0_makeRoom_6 : decode cX0_makeRoom 6 = .ok (.if_icmp .le 36, 3) := by decide +kernel
theorem dX0_makeRoom_9 : decode cX0_makeRoom 9 = .ok (.iload_n 1, 1) := by decide +kernel
theorem dX0_makeRoom_10 : decode cX0_makeRoom 10 = .ok (.ldc 145, 2) := by decide +kernel
theorem dX0_makeRoom_12 : decode cX0_makeRoom 12 = .ok (.if_icmp .gt 30, 3) := by decide +kernel
theorem dX0_makeRoom_15 : decode cX0_makeRoom 15 = .ok (.aload_n 0, 1) := by decide +kernel
theorem dX0_makeRoom_16 : decode cX0_makeRoom 16 = .ok (.aload_n 0, 1) := by decide +kernel
theorem dX0_makeRoom_17 : decode cX0_makeRoom 17 = .ok (.getfield 31, 3) := by decide +kernel
theorem dX0_makeRoom_20 : decode cX0_makeRoom 20 = .ok (.ldc 145, 2) := by decide +kernel
theorem dX0_makeRoom_22 : decode cX0_makeRoom 22 = .ok (.iload_n 1, 1) := by decide +kernel
theorem dX0_makeRoom_23 : decode cX0_makeRoom 23 = .ok (.iconst 2, 1) := by decide +kernel
theorem dX0_makeRoom_24 : decode cX0_makeRoom 24 = .ok (.aload_n 0, 1) := by decide +kernel
theorem dX0_makeRoom_25 : decode cX0_makeRoom 25 = .ok (.getfield 31, 3) := by decide +kernel
theorem dX0_makeRoom_28 : decode cX0_makeRoom 28 = .ok (.arraylength, 1) := by decide +kernel
theorem dX0_makeRoom_29 : decode cX0_makeRoom 29 = .ok (.imul, 1) := by decide +kernel
theorem dX0_makeRoom_30 : decode cX0_makeRoom 30 = .ok (.invokestatic 146, 3) := by decide +kernel
theorem dX0_makeRoom_33 : decode cX0_makeRoom 33 = .ok (.invokestatic 151, 3) := by decide +kernel
theorem dX0_makeRoom_36 : decode cX0_makeRoom 36 = .ok (.invokestatic 154, 3) := by decide +kernel
theorem dX0_makeRoom_39 : decode cX0_makeRoom 39 = .ok (.putfield 31, 3) := by decide +kernel
theorem dX0_makeRoom_42 : decode cX0_makeRoom 42 = .ok (.return_, 1) := by decide +kernel
theorem dX0_ruleOf_0 : decode cX0_ruleOf 0 = .ok (.aload_n 0, 1) := by decide +kernel
theorem dX0_ruleOf_1 : decode cX0_ruleOf 1 = .ok (.getfield 28, 3) := by decide +kernel
theorem dX0_ruleOf_4 : decode cX0_ruleOf 4 = .ok (.iload_n 1, 1) := by decide +kernel
theorem dX0_ruleOf_5 : decode cX0_ruleOf 5 = .ok (.iaload, 1) := by decide +kernel
theorem dX0_ruleOf_6 : decode cX0_ruleOf 6 = .ok (.iload_n 2, 1) := by decide +kernel
theorem dX0_ruleOf_7 : decode cX0_ruleOf 7 = .ok (.iload_n 2, 1) := by decide +kernel
theorem dX0_ruleOf_8 : decode cX0_ruleOf 8 = .ok (.iconst 1, 1) := by decide +kernel
theorem dX0_ruleOf_9 : decode cX0_ruleOf 9 = .ok (.isub, 1) := by decide +kernel
theorem dX0_ruleOf_10 : decode cX0_ruleOf 10 = .ok (.imul, 1) := by decide +kernel
theorem dX0_ruleOf_11 : decode cX0_ruleOf 11 = .ok (.iconst 2, 1) := by decide +kernel
theorem dX0_ruleOf_12 : decode cX0_ruleOf 12 = .ok (.idiv, 1) := by decide +kernel
theorem dX0_ruleOf_13 : decode cX0_ruleOf 13 = .ok (.iadd, 1) := by decide +kernel
theorem dX0_ruleOf_14 : decode cX0_ruleOf 14 = .ok (.ireturn, 1) := by decide +kernel
theorem dX0_clearVector_0 : decode cX0_clearVector 0 = .ok (.aload_n 0, 1) := by decide +kernel
theorem dX0_clearVector_1 : decode cX0_clearVector 1 = .ok (.getfield 12, 3) := by decide +kernel
theorem dX0_clearVector_4 : decode cX0_clearVector 4 = .ok (.getfield 158, 3) := by decide +kernel
theorem dX0_clearVector_7 : decode cX0_clearVector 7 = .ok (.iconst 0, 1) := by decide +kernel
theorem dX0_clearVector_8 : decode cX0_clearVector 8 = .ok (.aload_n 0, 1) := by decide +kernel
theorem dX0_clearVector_9 : decode cX0_clearVector 9 = .ok (.iload_n 1, 1) := by decide +kernel
theorem dX0_clearVector_10 : decode cX0_clearVector 10 = .ok (.invokevirtual 91, 3) := by decide +kernel
theorem dX0_clearVector_13 : decode cX0_clearVector 13 = .ok (.iconst 0, 1) := by decide +kernel
theorem dX0_clearVector_14 : decode cX0_clearVector 14 = .ok (.invokestatic 133, 3) := by decide +kernel
theorem dX0_clearVector_17 : decode cX0_clearVector 17 = .ok (.return_, 1) := by decide +kernel
theorem dX0_addToVector_0 : decode cX0_addToVector 0 = .ok (.aload_n 0, 1) := by decide +kernel
theorem dX0_addToVector_1 : decode cX0_addToVector 1 = .ok (.iload_n 1, 1) := by decide +kernel
theorem dX0_addToVector_2 : decode cX0_addToVector 2 = .ok (.iload_n 2, 1) := by decide +kernel
theorem dX0_addToVector_3 : decode cX0_addToVector 3 = .ok (.invokevirtual 136, 3) := by decide +kernel
theorem dX0_addToVector_6 : decode cX0_addToVector 6 = .ok (.aload_n 0, 1) := by decide +kernel
theorem dX0_addToVector_7 : decode cX0_addToVector 7 = .ok (.getfield 18, 3) := by decide +kernel
theorem dX0_addToVector_10 : decode cX0_addToVector 10 = .ok (.iload_n 1, 1) := by decide +kernel
theorem dX0_addToVector_11 : decode cX0_addToVector 11 = .ok (.iaload, 1) := by decide +kernel
theorem dX0_addToVector_12 : decode cX0_addToVector 12 = .ok (.isub, 1) := by decide +kernel
theorem dX0_addToVector_13 : decode cX0_addToVector 13 = .ok (.istore 4, 2) := by decide +kernel
theorem dX0_addToVector_15 : decode cX0_addToVector 15 = .ok (.iload 4, 2) := by decide +kernel
theorem dX0_addToVector_17 : decode cX0_addToVector 17 = .ok (.ifCond .lt 56, 3) := by decide +kernel
theorem dX0_addToVector_20 : decode cX0_addToVector 20 = .ok (.iload 4, 2) := by decide +kernel
theorem dX0_addToVector_22 : decode cX0_addToVector 22 = .ok (.aload_n 0, 1) := by decide +kernel
theorem dX0_addToVector_23 : decode cX0_addToVector 23 = .ok (.iload_n 1, 1) := by decide +kernel
theorem dX0_addToVector_24 : decode cX0_addToVector 24 = .ok (.invokevirtual 91, 3) := by decide +kernel
theorem dX0_addToVector_27 : decode cX0_addToVector 27 = .ok (.if_icmp .ge 46, 3) := by decide +kernel
theorem dX0_addToVector_30 : decode cX0_addToVector 30 = .ok (.aload_n 0, 1) := by decide +kernel
theorem dX0_addToVector_31 : decode cX0_addToVector 31 = .ok (.iload_n 1, 1) := by decide +kernel
theorem dX0_addToVector_32 : decode cX0_addToVector 32 = .ok (.iload 4, 2) := by decide +kernel
theorem dX0_addToVector_34 : decode cX0_addToVector 34 = .ok (.invokevirtual 119, 3) := by decide +kernel
theorem dX0_addToVector_37 : decode cX0_addToVector 37 = .ok (.iload_n 2, 1) := by decide +kernel
theorem dX0_addToVector_38 : decode cX0_addToVector 38 = .ok (.if_icmp .ne 35, 3) := by decide +kernel
theorem dX0_addToVector_41 : decode cX0_addToVector 41 = .ok (.aload_n 0, 1) := by decide +kernel
theorem dX0_addToVector_42 : decode cX0_addToVector 42 = .ok (.getfield 12, 3) := by decide +kernel
theorem dX0_addToVector_45 : decode cX0_addToVector 45 = .ok (.getfield 158, 3) := by decide +kernel
theorem dX0_addToVector_48 : decode cX0_addToVector 48 = .ok (.iload 4, 2) := by decide +kernel
theorem dX0_addToVector_50 : decode cX0_addToVector 50 = .ok (.aload_n 0, 1) := by decide +kernel
theorem dX0_addToVector_51 : decode cX0_addToVector 51 = .ok (.getfield 12, 3) := by decide +kernel
theorem dX0_addToVector_54 : decode cX0_addToVector 54 = .ok (.getfield 158, 3) := by decide +kernel
theorem dX0_addToVector_57 : decode cX0_addToVector 57 = .ok (.iload 4, 2) := by decide +kernel
theorem dX0_addToVector_59 : decode cX0_addToVector 59 = .ok (.iaload, 1) := by decide +kernel
theorem dX0_addToVector_60 : decode cX0_addToVector 60 = .ok (.iload_n 3, 1) := by decide +kernel
theorem dX0_addToVector_61 : decode cX0_addToVector 61 = .ok (.iadd, 1) := by decide +kernel
theorem dX0_addToVector_62 : decode cX0_addToVector 62 = .ok (.aload_n 0, 1) := by decide +kernel
theorem dX0_addToVector_63 : decode cX0_addToVector 63 = .ok (.getfield 47, 3) := by decide +kernel
theorem dX0_addToVector_66 : decode cX0_addToVector 66 = .ok (.getfield 161, 3) := by decide +kernel
theorem dX0_addToVector_69 : decode cX0_addToVector 69 = .ok (.invokestatic 164, 3) := by decide +kernel
theorem dX0_addToVector_72 : decode cX0_addToVector 72 = .ok (.iastore, 1) := by decide +kernel
theorem dX0_addToVector_73 : decode cX0_addToVector 73 = .ok (.return_, 1) := by decide +kernel
theorem dX0_reduceVector_0 : decode cX0_reduceVector 0 = .ok (.aload_n 0, 1) := by decide +kernel
theorem dX0_reduceVector_1 : decode cX0_reduceVector 1 = .ok (.getfield 12, 3) := by decide +kernel
theorem dX0_reduceVector_4 : decode cX0_reduceVector 4 = .ok (.getfield 158, 3) := by decide +kernel
theorem dX0_reduceVector_7 : decode cX0_reduceVector 7 = .ok (.astore_n 2, 1) := by decide +kernel
theorem dX0_reduceVector_8 : decode cX0_reduceVector 8 = .ok (.aload_n 0, 1) := by decide +kernel
theorem dX0_reduceVector_9 : decode cX0_reduceVector 9 = .ok (.iload_n 1, 1) := by decide +kernel
theorem dX0_reduceVector_10 : decode cX0_reduceVector 10 = .ok (.invokevirtual 91, 3) := by decide +kernel
theorem dX0_reduceVector_13 : decode cX0_reduceVector 13 = .ok (.iconst 1, 1) := by decide +kernel
theorem dX0_reduceVector_14 : decode cX0_reduceVector 14 = .ok (.isub, 1) := by decide +kernel
theorem dX0_reduceVector_15 : decode cX0_reduceVector 15 = .ok (.istore_n 3, 1) := by decide +kernel
theorem dX0_reduceVector_16 : decode cX0_reduceVector 16 = .ok (.iload_n 3, 1) := by decide +kernel
theorem dX0_reduceVector_17 : decode cX0_reduceVector 17 = .ok (.ifCond .lt 100, 3) := by decide +kernel
theorem dX0_reduceVector_20 : decode cX0_reduceVector 20 = .ok (.aload_n 2, 1) := by decide +kernel
theorem dX0_reduceVector_21 : decode cX0_reduceVector 21 = .ok (.iload_n 3, 1) := by decide +kernel
theorem dX0_reduceVector_22 : decode cX0_reduceVector 22 = .ok (.iaload, 1) := by decide +kernel
theorem dX0_reduceVector_23 : decode cX0_reduceVector 23 = .ok (.istore 4, 2) := by decide +kernel
theorem dX0_reduceVector_25 : decode cX0_reduceVector 25 = .ok (.iload 4, 2) := by decide +kernel
theorem dX0_reduceVector_27 : decode cX0_reduceVector 27 = .ok (.ifCond .eq 84, 3) := by decide +kernel
theorem dX0_reduceVector_30 : decode cX0_reduceVector 30 = .ok (.aload_n 0, 1) := by decide +kernel
theorem dX0_reduceVector_31 : decode cX0_reduceVector 31 = .ok (.iload_n 1, 1) := by decide +kernel
theorem dX0_reduceVector_32 : decode cX0_reduceVector 32 = .ok (.iload_n 3, 1) := by decide +kernel
theorem dX0_reduceVector_33 : decode cX0_reduceVector 33 = .ok (.invokevirtual 95, 3) := by decide +kernel
theorem dX0_reduceVector_36 : decode cX0_reduceVector 36 = .ok (.ifCond .ne 75, 3) := by decide +kernel
theorem dX0_reduceVector_39 : decode cX0_reduceVector 39 = .ok (.aload_n 2, 1) := by decide +kernel
theorem dX0_reduceVector_40 : decode cX0_reduceVector 40 = .ok (.iload_n 3, 1) := by decide +kernel
theorem dX0_reduceVector_41 : decode cX0_reduceVector 41 = .ok (.iconst 0, 1) := by decide +kernel
theorem dX0_reduceVector_42 : decode cX0_reduceVector 42 = .ok (.iastore, 1) := by decide +kernel
theorem dX0_reduceVector_43 : decode cX0_reduceVector 43 = .ok (.aload_n 0, 1) := by decide +kernel
theorem dX0_reduceVector_44 : decode cX0_reduceVector 44 = .ok (.iload_n 1, 1) := by decide +kernel
theorem dX0_reduceVector_45 : decode cX0_reduceVector 45 = .ok (.iload_n 3, 1) := by decide +kernel
theorem dX0_reduceVector_46 : decode cX0_reduceVector 46 = .ok (.invokevirtual 167, 3) := by decide +kernel
theorem dX0_reduceVector_49 : decode cX0_reduceVector 49 = .ok (.istore 5, 2) := by decide +kernel
theorem dX0_reduceVector_51 : decode cX0_reduceVector 51 = .ok (.iconst 0, 1) := by decide +kernel
theorem dX0_reduceVector_52 : decode cX0_reduceVector 52 = .ok (.istore 6, 2) := by decide +kernel
theorem dX0_reduceVector_54 : decode cX0_reduceVector 54 = .ok (.iload 6, 2) := by decide +kernel
theorem dX0_reduceVector_56 : decode cX0_reduceVector 56 = .ok (.iload_n 3, 1) := by decide +kernel
theorem dX0_reduceVector_57 : decode cX0_reduceVector 57 = .ok (.if_icmp .ge 54, 3) := by decide +kernel
theorem dX0_reduceVector_60 : decode cX0_reduceVector 60 = .ok (.aload_n 0, 1) := by decide +kernel
theorem dX0_reduceVector_61 : decode cX0_reduceVector 61 = .ok (.getfield 31, 3) := by decide +kernel
theorem dX0_reduceVector_64 : decode cX0_reduceVector 64 = .ok (.iload 5, 2) := by decide +kernel
theorem dX0_reduceVector_66 : decode cX0_reduceVector 66 = .ok (.iload 6, 2) := by decide +kernel
theorem dX0_reduceVector_68 : decode cX0_reduceVector 68 = .ok (.iadd, 1) := by decide +kernel
theorem dX0_reduceVector_69 : decode cX0_reduceVector 69 = .ok (.iaload, 1) := by decide +kernel
theorem dX0_reduceVector_70 : decode cX0_reduceVector 70 = .ok (.ifCond .eq 35, 3) := by decide +kernel
theorem dX0_reduceVector_73 : decode cX0_reduceVector 73 = .ok (.aload_n 2, 1) := by decide +kernel
theorem dX0_reduceVector_74 : decode cX0_reduceVector 74 = .ok (.iload 6, 2) := by decide +kernel
theorem dX0_reduceVector_76 : decode cX0_reduceVector 76 = .ok (.aload_n 2, 1) := by decide +kernel
theorem dX0_reduceVector_77 : decode cX0_reduceVector 77 = .ok (.iload 6, 2) := by decide +kernel
theorem dX0_reduceVector_79 : decode cX0_reduceVector 79 = .ok (.iaload, 1) := by decide +kernel
theorem dX0_reduceVector_80 : decode cX0_reduceVector 80 = .ok (.iload 4, 2) := by decide +kernel
theorem dX0_reduceVector_82 : decode cX0_reduceVector 82 = .ok (.aload_n 0, 1) := by decide +kernel
theorem dX0_reduceVector_83 : decode cX0_reduceVector 83 = .ok (.getfield 31, 3) := by decide +kernel
theorem dX0_reduceVector_86 : decode cX0_reduceVector 86 = .ok (.iload 5, 2) := by decide +kernel
theorem dX0_reduceVector_88 : decode cX0_reduceVector 88 = .ok (.iload 6, 2) := by decide +kernel
theorem dX0_reduceVector_90 : decode cX0_reduceVector 90 = .ok (.iadd, 1) := by decide +kernel
theorem dX0_reduceVector_91 : decode cX0_reduceVector 91 = .ok (.iaload, 1) := by decide +kernel
theorem dX0_reduceVector_92 : decode cX0_reduceVector 92 = .ok (.imul, 1) := by decide +kernel
theorem dX0_reduceVector_93 : decode cX0_reduceVector 93 = .ok (.iadd, 1) := by decide +kernel
theorem dX0_reduceVector_94 : decode cX0_reduceVector 94 = .ok (.aload_n 0, 1) := by decide +kernel
theorem dX0_reduceVector_95 : decode cX0_reduceVector 95 = .ok (.getfield 47, 3) := by decide +kernel
theorem dX0_reduceVector_98 : decode cX0_reduceVector 98 = .ok (.getfield 161, 3) := by decide +kernel
theorem dX0_reduceVector_101 : decode cX0_reduceVector 101 = .ok (.invokestatic 164, 3) := by decide +kernel
theorem dX0_reduceVector_104 : decode cX0_reduceVector 104 = .ok (.iastore, 1) := by decide +kernel
theorem dX0_reduceVector_105 : decode cX0_reduceVector 105 = .ok (.iinc 6 1, 3) := by decide +kernel
theorem dX0_reduceVector_108 : decode cX0_reduceVector 108 = .ok (.goto (-54), 3) := by decide +kernel
theorem dX0_reduceVector_111 : decode cX0_reduceVector 111 = .ok (.iinc 3 (-1), 3) := by decide +kernel
theorem dX0_reduceVector_114 : decode cX0_reduceVector 114 = .ok (.goto (-98), 3) := by decide +kernel
theorem dX0_reduceVector_117 : decode cX0_reduceVector 117 = .ok (.return_, 1) := by decide +kernel
theorem dX0_loadRule_0 : decode cX0_loadRule 0 = .ok (.aload_n 0, 1) := by decide +kernel
theorem dX0_loadRule_1 : decode cX0_loadRule 1 = .ok (.iload_n 1, 1) := by decide +kernel
theorem dX0_loadRule_2 : decode cX0_loadRule 2 = .ok (.invokevirtual 170, 3) := by decide +kernel
theorem dX0_loadRule_5 : decode cX0_loadRule 5 = .ok (.aload_n 0, 1) := by decide +kernel
theorem dX0_loadRule_6 : decode cX0_loadRule 6 = .ok (.getfield 31, 3) := by decide +kernel
theorem dX0_loadRule_9 : decode cX0_loadRule 9 = .ok (.aload_n 0, 1) := by decide +kernel
theorem dX0_loadRule_10 : decode cX0_loadRule 10 = .ok (.iload_n 1, 1) := by decide +kernel
theorem dX0_loadRule_11 : decode cX0_loadRule 11 = .ok (.iload_n 2, 1) := by decide +kernel
theorem dX0_loadRule_12 : decode cX0_loadRule 12 = .ok (.invokevirtual 167, 3) := by decide +kernel
theorem dX0_loadRule_15 : decode cX0_loadRule 15 = .ok (.aload_n 0, 1) := by decide +kernel
theorem dX0_loadRule_16 : decode cX0_loadRule 16 = .ok (.getfield 12, 3) := by decide +kernel
theorem dX0_loadRule_19 : decode cX0_loadRule 19 = .ok (.getfield 158, 3) := by decide +kernel
theorem dX0_loadRule_22 : decode cX0_loadRule 22 = .ok (.iconst 0, 1) := by decide +kernel
theorem dX0_loadRule_23 : decode cX0_loadRule 23 = .ok (.iload_n 2, 1) := by decide +kernel
theorem dX0_loadRule_24 : decode cX0_loadRule 24 = .ok (.invokestatic 139, 3) := by decide +kernel
theorem dX0_loadRule_27 : decode cX0_loadRule 27 = .ok (.return_, 1) := by decide +kernel
theorem dX0_storeRule_0 : decode cX0_storeRule 0 = .ok (.aload_n 0, 1) := by decide +kernel
theorem dX0_storeRule_1 : decode cX0_storeRule 1 = .ok (.iload_n 1, 1) := by decide +kernel
theorem dX0_storeRule_2 : decode cX0_storeRule 2 = .ok (.iload_n 2, 1) := by decide +kernel
theorem dX0_storeRule_3 : decode cX0_storeRule 3 = .ok (.invokevirtual 167, 3) := by decide +kernel
theorem dX0_storeRule_6 : decode cX0_storeRule 6 = .ok (.istore 4, 2) := by decide +kernel
theorem dX0_storeRule_8 : decode cX0_storeRule 8 = .ok (.iconst 0, 1) := by decide +kernel
theorem dX0_storeRule_9 : decode cX0_storeRule 9 = .ok (.istore 5, 2) := by decide +kernel
theorem dX0_storeRule_11 : decode cX0_storeRule 11 = .ok (.iload 5, 2) := by decide +kernel
theorem dX0_storeRule_13 : decode cX0_storeRule 13 = .ok (.iload_n 2, 1) := by decide +kernel
theorem dX0_storeRule_14 : decode cX0_storeRule 14 = .ok (.if_icmp .ge 41, 3) := by decide +kernel
theorem dX0_storeRule_17 : decode cX0_storeRule 17 = .ok (.aload_n 0, 1) := by decide +kernel
theorem dX0_storeRule_18 : decode cX0_storeRule 18 = .ok (.getfield 31, 3) := by decide +kernel
theorem dX0_storeRule_21 : decode cX0_storeRule 21 = .ok (.iload 4, 2) := by decide +kernel
theorem dX0_storeRule_23 : decode cX0_storeRule 23 = .ok (.iload 5, 2) := by decide +kernel
theorem dX0_storeRule_25 : decode cX0_storeRule 25 = .ok (.iadd, 1) := by decide +kernel
theorem dX0_storeRule_26 : decode cX0_storeRule 26 = .ok (.aload_n 0, 1) := by decide +kernel
theorem dX0_storeRule_27 : decode cX0_storeRule 27 = .ok (.getfield 12, 3) := by decide +kernel
theorem dX0_storeRule_30 : decode cX0_storeRule 30 = .ok (.getfield 158, 3) := by decide +kernel
theorem dX0_storeRule_33 : decode cX0_storeRule 33 = .ok (.iload 5, 2) := by decide +kernel
theorem dX0_storeRule_35 : decode cX0_storeRule 35 = .ok (.iaload, 1) := by decide +kernel
theorem dX0_storeRule_36 : decode cX0_storeRule 36 = .ok (.iload_n 3, 1) := by decide +kernel
theorem dX0_storeRule_37 : decode cX0_storeRule 37 = .ok (.imul, 1) := by decide +kernel
theorem dX0_storeRule_38 : decode cX0_storeRule 38 = .ok (.aload_n 0, 1) := by decide +kernel
theorem dX0_storeRule_39 : decode cX0_storeRule 39 = .ok (.getfield 47, 3) := by decide +kernel
theorem dX0_storeRule_42 : decode cX0_storeRule 42 = .ok (.getfield 161, 3) := by decide +kernel
theorem dX0_storeRule_45 : decode cX0_storeRule 45 = .ok (.invokestatic 164, 3) := by decide +kernel
theorem dX0_storeRule_48 : decode cX0_storeRule 48 = .ok (.iastore, 1) := by decide +kernel
theorem dX0_storeRule_49 : decode cX0_storeRule 49 = .ok (.iinc 5 1, 3) := by decide +kernel
theorem dX0_storeRule_52 : decode cX0_storeRule 52 = .ok (.goto (-41), 3) := by decide +kernel
theorem dX0_storeRule_55 : decode cX0_storeRule 55 = .ok (.return_, 1) := by decide +kernel
theorem dX0_addRulesByEntries_0 : decode cX0_addRulesByEntries 0 = .ok (.iconst 0, 1) := by decide +kernel
theorem dX0_addRulesByEntries_1 : decode cX0_addRulesByEntries 1 = .ok (.istore_n 2, 1) := by decide +kernel
theorem dX0_addRulesByEntries_2 : decode cX0_addRulesByEntries 2 = .ok (.iload_n 2, 1) := by decide +kernel
theorem dX0_addRulesByEntries_3 : decode cX0_addRulesByEntries 3 = .ok (.aload_n 0, 1) := by decide +kernel
theorem dX0_addRulesByEntries_4 : decode cX0_addRulesByEntries 4 = .ok (.iload_n 1, 1) := by decide +kernel
theorem dX0_addRulesByEntries_5 : decode cX0_addRulesByEntries 5 = .ok (.invokevirtual 91, 3) := by decide +kernel
theorem dX0_addRulesByEntries_8 : decode cX0_addRulesByEntries 8 = .ok (.if_icmp .ge 44, 3) := by decide +kernel
theorem dX0_addRulesByEntries_11 : decode cX0_addRulesByEntries 11 = .ok (.aload_n 0, 1) := by decide +kernel
theorem dX0_addRulesByEntries_12 : decode cX0_addRulesByEntries 12 = .ok (.iload_n 1, 1) := by decide +kernel
theorem dX0_addRulesByEntries_13 : decode cX0_addRulesByEntries 13 = .ok (.iload_n 2, 1) := by decide +kernel
theorem dX0_addRulesByEntries_14 : decode cX0_addRulesByEntries 14 = .ok (.invokevirtual 173, 3) := by decide +kernel
theorem dX0_addRulesByEntries_17 : decode cX0_addRulesByEntries 17 = .ok (.ifCond .eq 29, 3) := by decide +kernel
theorem dX0_addRulesByEntries_20 : decode cX0_addRulesByEntries 20 = .ok (.aload_n 0, 1) := by decide +kernel
theorem dX0_addRulesByEntries_21 : decode cX0_addRulesByEntries 21 = .ok (.iload_n 1, 1) := by decide +kernel
theorem dX0_addRulesByEntries_22 : decode cX0_addRulesByEntries 22 = .ok (.invokevirtual 103, 3) := by decide +kernel
theorem dX0_addRulesByEntries_25 : decode cX0_addRulesByEntries 25 = .ok (.aload_n 0, 1) := by decide +kernel
theorem dX0_addRulesByEntries_26 : decode cX0_addRulesByEntries 26 = .ok (.iload_n 1, 1) := by decide +kernel
theorem dX0_addRulesByEntries_27 : decode cX0_addRulesByEntries 27 = .ok (.iload_n 2, 1) := by decide +kernel
theorem dX0_addRulesByEntries_28 : decode cX0_addRulesByEntries 28 = .ok (.iconst 1, 1) := by decide +kernel
theorem dX0_addRulesByEntries_29 : decode cX0_addRulesByEntries 29 = .ok (.invokevirtual 106, 3) := by decide +kernel
theorem dX0_addRulesByEntries_32 : decode cX0_addRulesByEntries 32 = .ok (.aload_n 0, 1) := by decide +kernel
theorem dX0_addRulesByEntries_33 : decode cX0_addRulesByEntries 33 = .ok (.getfield 25, 3) := by decide +kernel
theorem dX0_addRulesByEntries_36 : decode cX0_addRulesByEntries 36 = .ok (.aload_n 0, 1) := by decide +kernel
theorem dX0_addRulesByEntries_37 : decode cX0_addRulesByEntries 37 = .ok (.getfield 18, 3) := by decide +kernel
theorem dX0_addRulesByEntries_40 : decode cX0_addRulesByEntries 40 = .ok (.iload_n 1, 1) := by decide +kernel
theorem dX0_addRulesByEntries_41 : decode cX0_addRulesByEntries 41 = .ok (.iaload, 1) := by decide +kernel
theorem dX0_addRulesByEntries_42 : decode cX0_addRulesByEntries 42 = .ok (.iload_n 2, 1) := by decide +kernel
theorem dX0_addRulesByEntries_43 : decode cX0_addRulesByEntries 43 = .ok (.iadd, 1) := by decide +kernel
theorem dX0_addRulesByEntries_44 : decode cX0_addRulesByEntries 44 = .ok (.iconst 1, 1) := by decide +kernel
theorem dX0_addRulesByEntries_45 : decode cX0_addRulesByEntries 45 = .ok (.iastore, 1) := by decide +kernel
theorem dX0_addRulesByEntries_46 : decode cX0_addRulesByEntries 46 = .ok (.iinc 2 1, 3) := by decide +kernel
theorem dX0_addRulesByEntries_49 : decode cX0_addRulesByEntries 49 = .ok (.goto (-47), 3) := by decide +kernel
theorem dX0_addRulesByEntries_52 : decode cX0_addRulesByEntries 52 = .ok (.return_, 1) := by decide +kernel
theorem dX0_spreadByEntry_0 : decode cX0_spreadByEntry 0 = .ok (.aload_n 0, 1) := by decide +kernel
theorem dX0_spreadByEntry_1 : decode cX0_spreadByEntry 1 = .ok (.iload_n 1, 1) := by decide +kernel
theorem dX0_spreadByEntry_2 : decode cX0_spreadByEntry 2 = .ok (.iload_n 2, 1) := by decide +kernel
theorem dX0_spreadByEntry_3 : decode cX0_spreadByEntry 3 = .ok (.invokevirtual 119, 3) := by decide +kernel
theorem dX0_spreadByEntry_6 : decode cX0_spreadByEntry 6 = .ok (.iload_n 1, 1) := by decide +kernel
theorem dX0_spreadByEntry_7 : decode cX0_spreadByEntry 7 = .ok (.aload_n 0, 1) := by decide +kernel
theorem dX0_spreadByEntry_8 : decode cX0_spreadByEntry 8 = .ok (.getfield 12, 3) := by decide +kernel
theorem dX0_spreadByEntry_11 : decode cX0_spreadByEntry 11 = .ok (.getfield 176, 3) := by decide +kernel
theorem dX0_spreadByEntry_14 : decode cX0_spreadByEntry 14 = .ok (.invokestatic 179, 3) := by decide +kernel
theorem dX0_spreadByEntry_17 : decode cX0_spreadByEntry 17 = .ok (.istore_n 3, 1) := by decide +kernel
theorem dX0_spreadByEntry_18 : decode cX0_spreadByEntry 18 = .ok (.iconst 1, 1) := by decide +kernel
theorem dX0_spreadByEntry_19 : decode cX0_spreadByEntry 19 = .ok (.istore 4, 2) := by decide +kernel
theorem dX0_spreadByEntry_21 : decode cX0_spreadByEntry 21 = .ok (.iconst 0, 1) := by decide +kernel
theorem dX0_spreadByEntry_22 : decode cX0_spreadByEntry 22 = .ok (.istore 5, 2) := by decide +kernel
theorem dX0_spreadByEntry_24 : decode cX0_spreadByEntry 24 = .ok (.iload 5, 2) := by decide +kernel
theorem dX0_spreadByEntry_26 : decode cX0_spreadByEntry 26 = .ok (.iconst 4, 1) := by decide +kernel
theorem dX0_spreadByEntry_27 : decode cX0_spreadByEntry 27 = .ok (.if_icmp .ge 185, 3) := by decide +kernel
theorem dX0_spreadByEntry_30 : decode cX0_spreadByEntry 30 = .ok (.iload 4, 2) := by decide +kernel
theorem dX0_spreadByEntry_32 : decode cX0_spreadByEntry 32 = .ok (.iload_n 3, 1) := by decide +kernel
theorem dX0_spreadByEntry_33 : decode cX0_spreadByEntry 33 = .ok (.if_icmp .ge 179, 3) := by decide +kernel
theorem dX0_spreadByEntry_36 : decode cX0_spreadByEntry 36 = .ok (.aload_n 0, 1) := by decide +kernel
theorem dX0_spreadByEntry_37 : decode cX0_spreadByEntry 37 = .ok (.getfield 12, 3) := by decide +kernel
theorem dX0_spreadByEntry_40 : decode cX0_spreadByEntry 40 = .ok (.getfield 176, 3) := by decide +kernel
theorem dX0_spreadByEntry_43 : decode cX0_spreadByEntry 43 = .ok (.iload 4, 2) := by decide +kernel
theorem dX0_spreadByEntry_45 : decode cX0_spreadByEntry 45 = .ok (.iload_n 3, 1) := by decide +kernel
theorem dX0_spreadByEntry_46 : decode cX0_spreadByEntry 46 = .ok (.aload_n 0, 1) := by decide +kernel
theorem dX0_spreadByEntry_47 : decode cX0_spreadByEntry 47 = .ok (.getfield 47, 3) := by decide +kernel
theorem dX0_spreadByEntry_50 : decode cX0_spreadByEntry 50 = .ok (.getfield 116, 3) := by decide +kernel
theorem dX0_spreadByEntry_53 : decode cX0_spreadByEntry 53 = .ok (.invokestatic 183, 3) := by decide +kernel
theorem dX0_spreadByEntry_56 : decode cX0_spreadByEntry 56 = .ok (.istore 6, 2) := by decide +kernel
theorem dX0_spreadByEntry_58 : decode cX0_spreadByEntry 58 = .ok (.aload_n 0, 1) := by decide +kernel
theorem dX0_spreadByEntry_59 : decode cX0_spreadByEntry 59 = .ok (.getfield 12, 3) := by decide +kernel
theorem dX0_spreadByEntry_62 : decode cX0_spreadByEntry 62 = .ok (.getfield 176, 3) := by decide +kernel
theorem dX0_spreadByEntry_65 : decode cX0_spreadByEntry 65 = .ok (.iload 4, 2) := by decide +kernel
theorem dX0_spreadByEntry_67 : decode cX0_spreadByEntry 67 = .ok (.iload 6, 2) := by decide +kernel
theorem dX0_spreadByEntry_69 : decode cX0_spreadByEntry 69 = .ok (.invokestatic 187, 3) := by decide +kernel
theorem dX0_spreadByEntry_72 : decode cX0_spreadByEntry 72 = .ok (.istore 7, 2) := by decide +kernel
theorem dX0_spreadByEntry_74 : decode cX0_spreadByEntry 74 = .ok (.aload_n 0, 1) := by decide +kernel
theorem dX0_spreadByEntry_75 : decode cX0_spreadByEntry 75 = .ok (.iload 7, 2) := by decide +kernel
theorem dX0_spreadByEntry_77 : decode cX0_spreadByEntry 77 = .ok (.aload_n 0, 1) := by decide +kernel
theorem dX0_spreadByEntry_78 : decode cX0_spreadByEntry 78 = .ok (.getfield 12, 3) := by decide +kernel
theorem dX0_spreadByEntry_81 : decode cX0_spreadByEntry 81 = .ok (.getfield 176, 3) := by decide +kernel
theorem dX0_spreadByEntry_84 : decode cX0_spreadByEntry 84 = .ok (.iload 4, 2) := by decide +kernel
theorem dX0_spreadByEntry_86 : decode cX0_spreadByEntry 86 = .ok (.iload 6, 2) := by decide +kernel
theorem dX0_spreadByEntry_88 : decode cX0_spreadByEntry 88 = .ok (.invokestatic 191, 3) := by decide +kernel
theorem dX0_spreadByEntry_91 : decode cX0_spreadByEntry 91 = .ok (.invokevirtual 136, 3) := by decide +kernel
theorem dX0_spreadByEntry_94 : decode cX0_spreadByEntry 94 = .ok (.aload_n 0, 1) := by decide +kernel
theorem dX0_spreadByEntry_95 : decode cX0_spreadByEntry 95 = .ok (.getfield 18, 3) := by decide +kernel
theorem dX0_spreadByEntry_98 : decode cX0_spreadByEntry 98 = .ok (.iload 7, 2) := by decide +kernel
theorem dX0_spreadByEntry_100 : decode cX0_spreadByEntry 100 = .ok (.iaload, 1) := by decide +kernel
theorem dX0_spreadByEntry_101 : decode cX0_spreadByEntry 101 = .ok (.isub, 1) := by decide +kernel
theorem dX0_spreadByEntry_102 : decode cX0_spreadByEntry 102 = .ok (.istore 8, 2) := by decide +kernel
theorem dX0_spreadByEntry_104 : decode cX0_spreadByEntry 104 = .ok (.aload_n 0, 1) := by decide +kernel
theorem dX0_spreadByEntry_105 : decode cX0_spreadByEntry 105 = .ok (.iload 7, 2) := by decide +kernel
theorem dX0_spreadByEntry_107 : decode cX0_spreadByEntry 107 = .ok (.iload 8, 2) := by decide +kernel
theorem dX0_spreadByEntry_109 : decode cX0_spreadByEntry 109 = .ok (.invokevirtual 95, 3) := by decide +kernel
theorem dX0_spreadByEntry_112 : decode cX0_spreadByEntry 112 = .ok (.ifCond .ne 90, 3) := by decide +kernel
theorem dX0_spreadByEntry_115 : decode cX0_spreadByEntry 115 = .ok (.aload_n 0, 1) := by decide +kernel
theorem dX0_spreadByEntry_116 : decode cX0_spreadByEntry 116 = .ok (.iload_n 1, 1) := by decide +kernel
theorem dX0_spreadByEntry_117 : decode cX0_spreadByEntry 117 = .ok (.invokevirtual 170, 3) := by decide +kernel
theorem dX0_spreadByEntry_120 : decode cX0_spreadByEntry 120 = .ok (.aload_n 0, 1) := by decide +kernel
theorem dX0_spreadByEntry_121 : decode cX0_spreadByEntry 121 = .ok (.iload 7, 2) := by decide +kernel
theorem dX0_spreadByEntry_123 : decode cX0_spreadByEntry 123 = .ok (.iload 8, 2) := by decide +kernel
theorem dX0_spreadByEntry_125 : decode cX0_spreadByEntry 125 = .ok (.invokevirtual 167, 3) := by decide +kernel
theorem dX0_spreadByEntry_128 : decode cX0_spreadByEntry 128 = .ok (.istore 9, 2) := by decide +kernel
theorem dX0_spreadByEntry_130 : decode cX0_spreadByEntry 130 = .ok (.iconst 0, 1) := by decide +kernel
theorem dX0_spreadByEntry_131 : decode cX0_spreadByEntry 131 = .ok (.istore 10, 2) := by decide +kernel
theorem dX0_spreadByEntry_133 : decode cX0_spreadByEntry 133 = .ok (.iload 10, 2) := by decide +kernel
theorem dX0_spreadByEntry_135 : decode cX0_spreadByEntry 135 = .ok (.iload 8, 2) := by decide +kernel
theorem dX0_spreadByEntry_137 : decode cX0_spreadByEntry 137 = .ok (.if_icmp .ge 63, 3) := by decide +kernel
theorem dX0_spreadByEntry_140 : decode cX0_spreadByEntry 140 = .ok (.aload_n 0, 1) := by decide +kernel
theorem dX0_spreadByEntry_141 : decode cX0_spreadByEntry 141 = .ok (.getfield 31, 3) := by decide +kernel
theorem dX0_spreadByEntry_144 : decode cX0_spreadByEntry 144 = .ok (.iload 9, 2) := by decide +kernel
theorem dX0_spreadByEntry_146 : decode cX0_spreadByEntry 146 = .ok (.iload 10, 2) := by decide +kernel
theorem dX0_spreadByEntry_148 : decode cX0_spreadByEntry 148 = .ok (.iadd, 1) := by decide +kernel
theorem dX0_spreadByEntry_149 : decode cX0_spreadByEntry 149 = .ok (.iaload, 1) := by decide +kernel
theorem dX0_spreadByEntry_150 : decode cX0_spreadByEntry 150 = .ok (.ifCond .eq 44, 3) := by decide +kernel
theorem dX0_spreadByEntry_153 : decode cX0_spreadByEntry 153 = .ok (.aload_n 0, 1) := by decide +kernel
theorem dX0_spreadByEntry_154 : decode cX0_spreadByEntry 154 = .ok (.getfield 12, 3) := by decide +kernel
theorem dX0_spreadByEntry_157 : decode cX0_spreadByEntry 157 = .ok (.iload_n 3, 1) := by decide +kernel
theorem dX0_spreadByEntry_158 : decode cX0_spreadByEntry 158 = .ok (.iload 4, 2) := by decide +kernel
theorem dX0_spreadByEntry_160 : decode cX0_spreadByEntry 160 = .ok (.iload 6, 2) := by decide +kernel
theorem dX0_spreadByEntry_162 : decode cX0_spreadByEntry 162 = .ok (.aload_n 0, 1) := by decide +kernel
theorem dX0_spreadByEntry_163 : decode cX0_spreadByEntry 163 = .ok (.iload 7, 2) := by decide +kernel
theorem dX0_spreadByEntry_165 : decode cX0_spreadByEntry 165 = .ok (.iload 10, 2) := by decide +kernel
theorem dX0_spreadByEntry_167 : decode cX0_spreadByEntry 167 = .ok (.invokevirtual 119, 3) := by decide +kernel
theorem dX0_spreadByEntry_170 : decode cX0_spreadByEntry 170 = .ok (.iload 7, 2) := by decide +kernel
theorem dX0_spreadByEntry_172 : decode cX0_spreadByEntry 172 = .ok (.invokevirtual 194, 3) := by decide +kernel
theorem dX0_spreadByEntry_175 : decode cX0_spreadByEntry 175 = .ok (.istore 11, 2) := by decide +kernel
theorem dX0_spreadByEntry_177 : decode cX0_spreadByEntry 177 = .ok (.aload_n 0, 1) := by decide +kernel
theorem dX0_spreadByEntry_178 : decode cX0_spreadByEntry 178 = .ok (.iload_n 1, 1) := by decide +kernel
theorem dX0_spreadByEntry_179 : decode cX0_spreadByEntry 179 = .ok (.iload 11, 2) := by decide +kernel
theorem dX0_spreadByEntry_181 : decode cX0_spreadByEntry 181 = .ok (.aload_n 0, 1) := by decide +kernel
theorem dX0_spreadByEntry_182 : decode cX0_spreadByEntry 182 = .ok (.getfield 31, 3) := by decide +kernel
theorem dX0_spreadByEntry_185 : decode cX0_spreadByEntry 185 = .ok (.iload 9, 2) := by decide +kernel
theorem dX0_spreadByEntry_187 : decode cX0_spreadByEntry 187 = .ok (.iload 10, 2) := by decide +kernel
theorem dX0_spreadByEntry_189 : decode cX0_spreadByEntry 189 = .ok (.iadd, 1) := by decide +kernel
theorem dX0_spreadByEntry_190 : decode cX0_spreadByEntry 190 = .ok (.iaload, 1) := by decide +kernel
theorem dX0_spreadByEntry_191 : decode cX0_spreadByEntry 191 = .ok (.invokevirtual 197, 3) := by decide +kernel
theorem dX0_spreadByEntry_194 : decode cX0_spreadByEntry 194 = .ok (.iinc 10 1, 3) := by decide +kernel
theorem dX0_spreadByEntry_197 : decode cX0_spreadByEntry 197 = .ok (.goto (-64), 3) := by decide +kernel
theorem dX0_spreadByEntry_200 : decode cX0_spreadByEntry 200 = .ok (.iconst 1, 1) := by decide +kernel
theorem dX0_spreadByEntry_201 : decode cX0_spreadByEntry 201 = .ok (.ireturn, 1) := by decide +kernel
theorem dX0_spreadByEntry_202 : decode cX0_spreadByEntry 202 = .ok (.iload 6, 2) := by decide +kernel
theorem dX0_spreadByEntry_204 : decode cX0_spreadByEntry 204 = .ok (.istore 4, 2) := by decide +kernel
theorem dX0_spreadByEntry_206 : decode cX0_spreadByEntry 206 = .ok (.iinc 5 1, 3) := by decide +kernel
theorem dX0_spreadByEntry_209 : decode cX0_spreadByEntry 209 = .ok (.goto (-185), 3) := by decide +kernel
theorem dX0_spreadByEntry_212 : decode cX0_spreadByEntry 212 = .ok (.iconst 0, 1) := by decide +kernel
theorem dX0_spreadByEntry_213 : decode cX0_spreadByEntry 213 = .ok (.ireturn, 1) := by decide +kernel
theorem dX0_addLaws_0 : decode cX0_addLaws 0 = .ok (.iconst 0, 1) := by decide +kernel
theorem dX0_addLaws_1 : decode cX0_addLaws 1 = .ok (.istore_n 2, 1) := by decide +kernel
theorem dX0_addLaws_2 : decode cX0_addLaws 2 = .ok (.iload_n 2, 1) := by decide +kernel
theorem dX0_addLaws_3 : decode cX0_addLaws 3 = .ok (.aload_n 0, 1) := by decide +kernel
theorem dX0_addLaws_4 : decode cX0_addLaws 4 = .ok (.getfield 47, 3) := by decide +kernel
theorem dX0_addLaws_7 : decode cX0_addLaws 7 = .ok (.getfield 200, 3) := by decide +kernel
theorem dX0_addLaws_10 : decode cX0_addLaws 10 = .ok (.if_icmp .ge 86, 3) := by decide +kernel
theorem dX0_addLaws_13 : decode cX0_addLaws 13 = .ok (.aload_n 0, 1) := by decide +kernel
theorem dX0_addLaws_14 : decode cX0_addLaws 14 = .ok (.getfield 47, 3) := by decide +kernel
theorem dX0_addLaws_17 : decode cX0_addLaws 17 = .ok (.getfield 203, 3) := by decide +kernel
theorem dX0_addLaws_20 : decode cX0_addLaws 20 = .ok (.iload_n 2, 1) := by decide +kernel
theorem dX0_addLaws_21 : decode cX0_addLaws 21 = .ok (.iaload, 1) := by decide +kernel
theorem dX0_addLaws_22 : decode cX0_addLaws 22 = .ok (.iload_n 1, 1) := by decide +kernel
theorem dX0_addLaws_23 : decode cX0_addLaws 23 = .ok (.if_icmp .ne 67, 3) := by decide +kernel
theorem dX0_addLaws_26 : decode cX0_addLaws 26 = .ok (.aload_n 0, 1) := by decide +kernel
theorem dX0_addLaws_27 : decode cX0_addLaws 27 = .ok (.iload_n 1, 1) := by decide +kernel
theorem dX0_addLaws_28 : decode cX0_addLaws 28 = .ok (.invokevirtual 170, 3) := by decide +kernel
theorem dX0_addLaws_31 : decode cX0_addLaws 31 = .ok (.aload_n 0, 1) := by decide +kernel
theorem dX0_addLaws_32 : decode cX0_addLaws 32 = .ok (.getfield 47, 3) := by decide +kernel
theorem dX0_addLaws_35 : decode cX0_addLaws 35 = .ok (.getfield 206, 3) := by decide +kernel
theorem dX0_addLaws_38 : decode cX0_addLaws 38 = .ok (.iload_n 2, 1) := by decide +kernel
theorem dX0_addLaws_39 : decode cX0_addLaws 39 = .ok (.iaload, 1) := by decide +kernel
theorem dX0_addLaws_40 : decode cX0_addLaws 40 = .ok (.istore_n 3, 1) := by decide +kernel
theorem dX0_addLaws_41 : decode cX0_addLaws 41 = .ok (.iload_n 3, 1) := by decide +kernel
theorem dX0_addLaws_42 : decode cX0_addLaws 42 = .ok (.aload_n 0, 1) := by decide +kernel
theorem dX0_addLaws_43 : decode cX0_addLaws 43 = .ok (.getfield 47, 3) := by decide +kernel
theorem dX0_addLaws_46 : decode cX0_addLaws 46 = .ok (.getfield 206, 3) := by decide +kernel
theorem dX0_addLaws_49 : decode cX0_addLaws 49 = .ok (.iload_n 2, 1) := by decide +kernel
theorem dX0_addLaws_50 : decode cX0_addLaws 50 = .ok (.iconst 1, 1) := by decide +kernel
theorem dX0_addLaws_51 : decode cX0_addLaws 51 = .ok (.iadd, 1) := by decide +kernel
theorem dX0_addLaws_52 : decode cX0_addLaws 52 = .ok (.iaload, 1) := by decide +kernel
theorem dX0_addLaws_53 : decode cX0_addLaws 53 = .ok (.if_icmp .ge 32, 3) := by decide +kernel
theorem dX0_addLaws_56 : decode cX0_addLaws 56 = .ok (.aload_n 0, 1) := by decide +kernel
theorem dX0_addLaws_57 : decode cX0_addLaws 57 = .ok (.iload_n 1, 1) := by decide +kernel
theorem dX0_addLaws_58 : decode cX0_addLaws 58 = .ok (.aload_n 0, 1) := by decide +kernel
theorem dX0_addLaws_59 : decode cX0_addLaws 59 = .ok (.getfield 47, 3) := by decide +kernel
theorem dX0_addLaws_62 : decode cX0_addLaws 62 = .ok (.getfield 209, 3) := by decide +kernel
theorem dX0_addLaws_65 : decode cX0_addLaws 65 = .ok (.iload_n 3, 1) := by decide +kernel
theorem dX0_addLaws_66 : decode cX0_addLaws 66 = .ok (.iaload, 1) := by decide +kernel
theorem dX0_addLaws_67 : decode cX0_addLaws 67 = .ok (.aload_n 0, 1) := by decide +kernel
theorem dX0_addLaws_68 : decode cX0_addLaws 68 = .ok (.getfield 47, 3) := by decide +kernel
theorem dX0_addLaws_71 : decode cX0_addLaws 71 = .ok (.getfield 212, 3) := by decide +kernel
theorem dX0_addLaws_74 : decode cX0_addLaws 74 = .ok (.iload_n 3, 1) := by decide +kernel
theorem dX0_addLaws_75 : decode cX0_addLaws 75 = .ok (.iaload, 1) := by decide +kernel
theorem dX0_addLaws_76 : decode cX0_addLaws 76 = .ok (.invokevirtual 197, 3) := by decide +kernel
theorem dX0_addLaws_79 : decode cX0_addLaws 79 = .ok (.iinc 3 1, 3) := by decide +kernel
theorem dX0_addLaws_82 : decode cX0_addLaws 82 = .ok (.goto (-41), 3) := by decide +kernel
theorem dX0_addLaws_85 : decode cX0_addLaws 85 = .ok (.aload_n 0, 1) := by decide +kernel
theorem dX0_addLaws_86 : decode cX0_addLaws 86 = .ok (.iload_n 1, 1) := by decide +kernel
theorem dX0_addLaws_87 : decode cX0_addLaws 87 = .ok (.invokevirtual 215, 3) := by decide +kernel
theorem dX0_addLaws_90 : decode cX0_addLaws 90 = .ok (.iinc 2 1, 3) := by decide +kernel
theorem dX0_addLaws_93 : decode cX0_addLaws 93 = .ok (.goto (-91), 3) := by decide +kernel
theorem dX0_addLaws_96 : decode cX0_addLaws 96 = .ok (.return_, 1) := by decide +kernel
theorem dX0_addPluggedLaws_0 : decode cX0_addPluggedLaws 0 = .ok (.iconst 0, 1) := by decide +kernel
theorem dX0_addPluggedLaws_1 : decode cX0_addPluggedLaws 1 = .ok (.istore_n 2, 1) := by decide +kernel
theorem dX0_addPluggedLaws_2 : decode cX0_addPluggedLaws 2 = .ok (.iload_n 2, 1) := by decide +kernel
theorem dX0_addPluggedLaws_3 : decode cX0_addPluggedLaws 3 = .ok (.aload_n 0, 1) := by decide +kernel
theorem dX0_addPluggedLaws_4 : decode cX0_addPluggedLaws 4 = .ok (.getfield 47, 3) := by decide +kernel
theorem dX0_addPluggedLaws_7 : decode cX0_addPluggedLaws 7 = .ok (.getfield 113, 3) := by decide +kernel
theorem dX0_addPluggedLaws_10 : decode cX0_addPluggedLaws 10 = .ok (.if_icmp .ge 96, 3) := by decide +kernel
theorem dX0_addPluggedLaws_13 : decode cX0_addPluggedLaws 13 = .ok (.iload_n 1, 1) := by decide +kernel
theorem dX0_addPluggedLaws_14 : decode cX0_addPluggedLaws 14 = .ok (.aload_n 0, 1) := by decide +kernel
theorem dX0_addPluggedLaws_15 : decode cX0_addPluggedLaws 15 = .ok (.getfield 47, 3) := by decide +kernel
theorem dX0_addPluggedLaws_18 : decode cX0_addPluggedLaws 18 = .ok (.getfield 116, 3) := by decide +kernel
theorem dX0_addPluggedLaws_21 : decode cX0_addPluggedLaws 21 = .ok (.iload_n 2, 1) := by decide +kernel
theorem dX0_addPluggedLaws_22 : decode cX0_addPluggedLaws 22 = .ok (.iaload, 1) := by decide +kernel
theorem dX0_addPluggedLaws_23 : decode cX0_addPluggedLaws 23 = .ok (.isub, 1) := by decide +kernel
theorem dX0_addPluggedLaws_24 : decode cX0_addPluggedLaws 24 = .ok (.iconst 1, 1) := by decide +kernel
theorem dX0_addPluggedLaws_25 : decode cX0_addPluggedLaws 25 = .ok (.iadd, 1) := by decide +kernel
theorem dX0_addPluggedLaws_26 : decode cX0_addPluggedLaws 26 = .ok (.istore_n 3, 1) := by decide +kernel
theorem dX0_addPluggedLaws_27 : decode cX0_addPluggedLaws 27 = .ok (.iconst 0, 1) := by decide +kernel
theorem dX0_addPluggedLaws_28 : decode cX0_addPluggedLaws 28 = .ok (.istore 4, 2) := by decide +kernel
theorem dX0_addPluggedLaws_30 : decode cX0_addPluggedLaws 30 = .ok (.iload_n 3, 1) := by decide +kernel
theorem dX0_addPluggedLaws_31 : decode cX0_addPluggedLaws 31 = .ok (.iconst 2, 1) := by decide +kernel
theorem dX0_addPluggedLaws_32 : decode cX0_addPluggedLaws 32 = .ok (.if_icmp .lt 68, 3) := by decide +kernel
theorem dX0_addPluggedLaws_35 : decode cX0_addPluggedLaws 35 = .ok (.iload 4, 2) := by decide +kernel
theorem dX0_addPluggedLaws_37 : decode cX0_addPluggedLaws 37 = .ok (.aload_n 0, 1) := by decide +kernel
theorem dX0_addPluggedLaws_38 : decode cX0_addPluggedLaws 38 = .ok (.iload_n 3, 1) := by decide +kernel
theorem dX0_addPluggedLaws_39 : decode cX0_addPluggedLaws 39 = .ok (.invokevirtual 91, 3) := by decide +kernel
theorem dX0_addPluggedLaws_42 : decode cX0_addPluggedLaws 42 = .ok (.if_icmp .ge 58, 3) := by decide +kernel
theorem dX0_addPluggedLaws_45 : decode cX0_addPluggedLaws 45 = .ok (.aload_n 0, 1) := by decide +kernel
theorem dX0_addPluggedLaws_46 : decode cX0_addPluggedLaws 46 = .ok (.getfield 25, 3) := by decide +kernel
theorem dX0_addPluggedLaws_49 : decode cX0_addPluggedLaws 49 = .ok (.aload_n 0, 1) := by decide +kernel
theorem dX0_addPluggedLaws_50 : decode cX0_addPluggedLaws 50 = .ok (.getfield 18, 3) := by decide +kernel
theorem dX0_addPluggedLaws_53 : decode cX0_addPluggedLaws 53 = .ok (.iload_n 3, 1) := by decide +kernel
theorem dX0_addPluggedLaws_54 : decode cX0_addPluggedLaws 54 = .ok (.iaload, 1) := by decide +kernel
theorem dX0_addPluggedLaws_55 : decode cX0_addPluggedLaws 55 = .ok (.iload 4, 2) := by decide +kernel
theorem dX0_addPluggedLaws_57 : decode cX0_addPluggedLaws 57 = .ok (.iadd, 1) := by decide +kernel
theorem dX0_addPluggedLaws_58 : decode cX0_addPluggedLaws 58 = .ok (.iaload, 1) := by decide +kernel
theorem dX0_addPluggedLaws_59 : decode cX0_addPluggedLaws 59 = .ok (.iconst 2, 1) := by decide +kernel
theorem dX0_addPluggedLaws_60 : decode cX0_addPluggedLaws 60 = .ok (.if_icmp .ne 34, 3) := by decide +kernel
theorem dX0_addPluggedLaws_63 : decode cX0_addPluggedLaws 63 = .ok (.iconst 0, 1) := by decide +kernel
theorem dX0_addPluggedLaws_64 : decode cX0_addPluggedLaws 64 = .ok (.istore 5, 2) := by decide +kernel
theorem dX0_addPluggedLaws_66 : decode cX0_addPluggedLaws 66 = .ok (.iload 5, 2) := by decide +kernel
theorem dX0_addPluggedLaws_68 : decode cX0_addPluggedLaws 68 = .ok (.iload_n 3, 1) := by decide +kernel
theorem dX0_addPluggedLaws_69 : decode cX0_addPluggedLaws 69 = .ok (.if_icmp .ge 25, 3) := by decide +kernel
theorem dX0_addPluggedLaws_72 : decode cX0_addPluggedLaws 72 = .ok (.aload_n 0, 1) := by decide +kernel
theorem dX0_addPluggedLaws_73 : decode cX0_addPluggedLaws 73 = .ok (.iload_n 1, 1) := by decide +kernel
theorem dX0_addPluggedLaws_74 : decode cX0_addPluggedLaws 74 = .ok (.iload_n 3, 1) := by decide +kernel
theorem dX0_addPluggedLaws_75 : decode cX0_addPluggedLaws 75 = .ok (.iload 4, 2) := by decide +kernel
theorem dX0_addPluggedLaws_77 : decode cX0_addPluggedLaws 77 = .ok (.iload 5, 2) := by decide +kernel
theorem dX0_addPluggedLaws_79 : decode cX0_addPluggedLaws 79 = .ok (.iload_n 2, 1) := by decide +kernel
theorem dX0_addPluggedLaws_80 : decode cX0_addPluggedLaws 80 = .ok (.invokevirtual 218, 3) := by decide +kernel
theorem dX0_addPluggedLaws_83 : decode cX0_addPluggedLaws 83 = .ok (.aload_n 0, 1) := by decide +kernel
theorem dX0_addPluggedLaws_84 : decode cX0_addPluggedLaws 84 = .ok (.iload_n 1, 1) := by decide +kernel
theorem dX0_addPluggedLaws_85 : decode cX0_addPluggedLaws 85 = .ok (.invokevirtual 215, 3) := by decide +kernel
theorem dX0_addPluggedLaws_88 : decode cX0_addPluggedLaws 88 = .ok (.iinc 5 1, 3) := by decide +kernel
theorem dX0_addPluggedLaws_91 : decode cX0_addPluggedLaws 91 = .ok (.goto (-25), 3) := by decide +kernel
theorem dX0_addPluggedLaws_94 : decode cX0_addPluggedLaws 94 = .ok (.iinc 4 1, 3) := by decide +kernel
theorem dX0_addPluggedLaws_97 : decode cX0_addPluggedLaws 97 = .ok (.goto (-67), 3) := by decide +kernel
theorem dX0_addPluggedLaws_100 : decode cX0_addPluggedLaws 100 = .ok (.iinc 2 1, 3) := by decide +kernel
theorem dX0_addPluggedLaws_103 : decode cX0_addPluggedLaws 103 = .ok (.goto (-101), 3) := by decide +kernel
theorem dX0_addPluggedLaws_106 : decode cX0_addPluggedLaws 106 = .ok (.return_, 1) := by decide +kernel
theorem dX0_loadPlugged_0 : decode cX0_loadPlugged 0 = .ok (.aload_n 0, 1) := by decide +kernel
theorem dX0_loadPlugged_1 : decode cX0_loadPlugged 1 = .ok (.iload_n 1, 1) := by decide +kernel
theorem dX0_loadPlugged_2 : decode cX0_loadPlugged 2 = .ok (.invokevirtual 170, 3) := by decide +kernel
theorem dX0_loadPlugged_5 : decode cX0_loadPlugged 5 = .ok (.iload 5, 2) := by decide +kernel
theorem dX0_loadPlugged_7 : decode cX0_loadPlugged 7 = .ok (.invokestatic 123, 3) := by decide +kernel
theorem dX0_loadPlugged_10 : decode cX0_loadPlugged 10 = .ok (.istore 6, 2) := by decide +kernel
theorem dX0_loadPlugged_12 : decode cX0_loadPlugged 12 = .ok (.aload_n 0, 1) := by decide +kernel
theorem dX0_loadPlugged_13 : decode cX0_loadPlugged 13 = .ok (.iload_n 2, 1) := by decide +kernel
theorem dX0_loadPlugged_14 : decode cX0_loadPlugged 14 = .ok (.iload_n 3, 1) := by decide +kernel
theorem dX0_loadPlugged_15 : decode cX0_loadPlugged 15 = .ok (.invokevirtual 167, 3) := by decide +kernel
theorem dX0_loadPlugged_18 : decode cX0_loadPlugged 18 = .ok (.istore 7, 2) := by decide +kernel
theorem dX0_loadPlugged_20 : decode cX0_loadPlugged 20 = .ok (.iconst 0, 1) := by decide +kernel
theorem dX0_loadPlugged_21 : decode cX0_loadPlugged 21 = .ok (.istore 8, 2) := by decide +kernel
theorem dX0_loadPlugged_23 : decode cX0_loadPlugged 23 = .ok (.iload 8, 2) := by decide +kernel
theorem dX0_loadPlugged_25 : decode cX0_loadPlugged 25 = .ok (.iload_n 3, 1) := by decide +kernel
theorem dX0_loadPlugged_26 : decode cX0_loadPlugged 26 = .ok (.if_icmp .gt 73, 3) := by decide +kernel
theorem dX0_loadPlugged_29 : decode cX0_loadPlugged 29 = .ok (.iload 8, 2) := by decide +kernel
theorem dX0_loadPlugged_31 : decode cX0_loadPlugged 31 = .ok (.iload_n 3, 1) := by decide +kernel
theorem dX0_loadPlugged_32 : decode cX0_loadPlugged 32 = .ok (.if_icmp .ne 7, 3) := by decide +kernel
theorem dX0_loadPlugged_35 : decode cX0_loadPlugged 35 = .ok (.iconst 1, 1) := by decide +kernel
theorem dX0_loadPlugged_36 : decode cX0_loadPlugged 36 = .ok (.goto 14, 3) := by decide +kernel
theorem dX0_loadPlugged_39 : decode cX0_loadPlugged 39 = .ok (.aload_n 0, 1) := by decide +kernel
theorem dX0_loadPlugged_40 : decode cX0_loadPlugged 40 = .ok (.getfield 31, 3) := by decide +kernel
theorem dX0_loadPlugged_43 : decode cX0_loadPlugged 43 = .ok (.iload 7, 2) := by decide +kernel
theorem dX0_loadPlugged_45 : decode cX0_loadPlugged 45 = .ok (.iload 8, 2) := by decide +kernel
theorem dX0_loadPlugged_47 : decode cX0_loadPlugged 47 = .ok (.iadd, 1) := by decide +kernel
theorem dX0_loadPlugged_48 : decode cX0_loadPlugged 48 = .ok (.iaload, 1) := by decide +kernel
theorem dX0_loadPlugged_49 : decode cX0_loadPlugged 49 = .ok (.ineg, 1) := by decide +kernel
theorem dX0_loadPlugged_50 : decode cX0_loadPlugged 50 = .ok (.istore 9, 2) := by decide +kernel
theorem dX0_loadPlugged_52 : decode cX0_loadPlugged 52 = .ok (.iload 9, 2) := by decide +kernel
theorem dX0_loadPlugged_54 : decode cX0_loadPlugged 54 = .ok (.ifCond .eq 39, 3) := by decide +kernel
theorem dX0_loadPlugged_57 : decode cX0_loadPlugged 57 = .ok (.aload_n 0, 1) := by decide +kernel
theorem dX0_loadPlugged_58 : decode cX0_loadPlugged 58 = .ok (.iload_n 1, 1) := by decide +kernel
theorem dX0_loadPlugged_59 : decode cX0_loadPlugged 59 = .ok (.aload_n 0, 1) := by decide +kernel
theorem dX0_loadPlugged_60 : decode cX0_loadPlugged 60 = .ok (.getfield 12, 3) := by decide +kernel
theorem dX0_loadPlugged_63 : decode cX0_loadPlugged 63 = .ok (.aload_n 0, 1) := by decide +kernel
theorem dX0_loadPlugged_64 : decode cX0_loadPlugged 64 = .ok (.iload_n 2, 1) := by decide +kernel
theorem dX0_loadPlugged_65 : decode cX0_loadPlugged 65 = .ok (.iload 8, 2) := by decide +kernel
theorem dX0_loadPlugged_67 : decode cX0_loadPlugged 67 = .ok (.invokevirtual 119, 3) := by decide +kernel
theorem dX0_loadPlugged_70 : decode cX0_loadPlugged 70 = .ok (.iload_n 2, 1) := by decide +kernel
theorem dX0_loadPlugged_71 : decode cX0_loadPlugged 71 = .ok (.iload 4, 2) := by decide +kernel
theorem dX0_loadPlugged_73 : decode cX0_loadPlugged 73 = .ok (.iload 6, 2) := by decide +kernel
theorem dX0_loadPlugged_75 : decode cX0_loadPlugged 75 = .ok (.aload_n 0, 1) := by decide +kernel
theorem dX0_loadPlugged_76 : decode cX0_loadPlugged 76 = .ok (.getfield 47, 3) := by decide +kernel
theorem dX0_loadPlugged_79 : decode cX0_loadPlugged 79 = .ok (.getfield 116, 3) := by decide +kernel
theorem dX0_loadPlugged_82 : decode cX0_loadPlugged 82 = .ok (.iload 5, 2) := by decide +kernel
theorem dX0_loadPlugged_84 : decode cX0_loadPlugged 84 = .ok (.iaload, 1) := by decide +kernel
theorem dX0_loadPlugged_85 : decode cX0_loadPlugged 85 = .ok (.invokevirtual 126, 3) := by decide +kernel
theorem dX0_loadPlugged_88 : decode cX0_loadPlugged 88 = .ok (.iload 9, 2) := by decide +kernel
theorem dX0_loadPlugged_90 : decode cX0_loadPlugged 90 = .ok (.invokevirtual 197, 3) := by decide +kernel
theorem dX0_loadPlugged_93 : decode cX0_loadPlugged 93 = .ok (.iinc 8 1, 3) := by decide +kernel
theorem dX0_loadPlugged_96 : decode cX0_loadPlugged 96 = .ok (.goto (-73), 3) := by decide +kernel
theorem dX0_loadPlugged_99 : decode cX0_loadPlugged 99 = .ok (.return_, 1) := by decide +kernel
theorem dX0_enterVector_0 : decode cX0_enterVector 0 = .ok (.aload_n 0, 1) := by decide +kernel
theorem dX0_enterVector_1 : decode cX0_enterVector 1 = .ok (.iload_n 1, 1) := by decide +kernel
theorem dX0_enterVector_2 : decode cX0_enterVector 2 = .ok (.invokevirtual 103, 3) := by decide +kernel
theorem dX0_enterVector_5 : decode cX0_enterVector 5 = .ok (.aload_n 0, 1) := by decide +kernel
theorem dX0_enterVector_6 : decode cX0_enterVector 6 = .ok (.iload_n 1, 1) := by decide +kernel
theorem dX0_enterVector_7 : decode cX0_enterVector 7 = .ok (.invokevirtual 91, 3) := by decide +kernel
theorem dX0_enterVector_10 : decode cX0_enterVector 10 = .ok (.iconst 1, 1) := by decide +kernel
theorem dX0_enterVector_11 : decode cX0_enterVector 11 = .ok (.isub, 1) := by decide +kernel
theorem dX0_enterVector_12 : decode cX0_enterVector 12 = .ok (.istore_n 2, 1) := by decide +kernel
theorem dX0_enterVector_13 : decode cX0_enterVector 13 = .ok (.iload_n 2, 1) := by decide +kernel
theorem dX0_enterVector_14 : decode cX0_enterVector 14 = .ok (.ifCond .lt 21, 3) := by decide +kernel
theorem dX0_enterVector_17 : decode cX0_enterVector 17 = .ok (.aload_n 0, 1) := by decide +kernel
theorem dX0_enterVector_18 : decode cX0_enterVector 18 = .ok (.getfield 12, 3) := by decide +kernel
theorem dX0_enterVector_21 : decode cX0_enterVector 21 = .ok (.getfield 158, 3) := by decide +kernel
theorem dX0_enterVector_24 : decode cX0_enterVector 24 = .ok (.iload_n 2, 1) := by decide +kernel
theorem dX0_enterVector_25 : decode cX0_enterVector 25 = .ok (.iaload, 1) := by decide +kernel
theorem dX0_enterVector_26 : decode cX0_enterVector 26 = .ok (.ifCond .ne 9, 3) := by decide +kernel
theorem dX0_enterVector_29 : decode cX0_enterVector 29 = .ok (.iinc 2 (-1), 3) := by decide +kernel
theorem dX0_enterVector_32 : decode cX0_enterVector 32 = .ok (.goto (-19), 3) := by decide +kernel
theorem dX0_enterVector_35 : decode cX0_enterVector 35 = .ok (.iload_n 2, 1) := by decide +kernel
theorem dX0_enterVector_36 : decode cX0_enterVector 36 = .ok (.ifCond .lt 43, 3) := by decide +kernel
theorem dX0_enterVector_39 : decode cX0_enterVector 39 = .ok (.aload_n 0, 1) := by decide +kernel
theorem dX0_enterVector_40 : decode cX0_enterVector 40 = .ok (.iload_n 1, 1) := by decide +kernel
theorem dX0_enterVector_41 : decode cX0_enterVector 41 = .ok (.iload_n 2, 1) := by decide +kernel
theorem dX0_enterVector_42 : decode cX0_enterVector 42 = .ok (.aload_n 0, 1) := by decide +kernel
theorem dX0_enterVector_43 : decode cX0_enterVector 43 = .ok (.getfield 12, 3) := by decide +kernel
theorem dX0_enterVector_46 : decode cX0_enterVector 46 = .ok (.getfield 158, 3) := by decide +kernel
theorem dX0_enterVector_49 : decode cX0_enterVector 49 = .ok (.iload_n 2, 1) := by decide +kernel
theorem dX0_enterVector_50 : decode cX0_enterVector 50 = .ok (.iaload, 1) := by decide +kernel
theorem dX0_enterVector_51 : decode cX0_enterVector 51 = .ok (.aload_n 0, 1) := by decide +kernel
theorem dX0_enterVector_52 : decode cX0_enterVector 52 = .ok (.getfield 47, 3) := by decide +kernel
theorem dX0_enterVector_55 : decode cX0_enterVector 55 = .ok (.getfield 161, 3) := by decide +kernel
theorem dX0_enterVector_58 : decode cX0_enterVector 58 = .ok (.invokestatic 222, 3) := by decide +kernel
theorem dX0_enterVector_61 : decode cX0_enterVector 61 = .ok (.ineg, 1) := by decide +kernel
theorem dX0_enterVector_62 : decode cX0_enterVector 62 = .ok (.invokevirtual 106, 3) := by decide +kernel
theorem dX0_enterVector_65 : decode cX0_enterVector 65 = .ok (.aload_n 0, 1) := by decide +kernel
theorem dX0_enterVector_66 : decode cX0_enterVector 66 = .ok (.getfield 25, 3) := by decide +kernel
theorem dX0_enterVector_69 : decode cX0_enterVector 69 = .ok (.aload_n 0, 1) := by decide +kernel
theorem dX0_enterVector_70 : decode cX0_enterVector 70 = .ok (.getfield 18, 3) := by decide +kernel
theorem dX0_enterVector_73 : decode cX0_enterVector 73 = .ok (.iload_n 1, 1) := by decide +kernel
theorem dX0_enterVector_74 : decode cX0_enterVector 74 = .ok (.iaload, 1) := by decide +kernel
theorem dX0_enterVector_75 : decode cX0_enterVector 75 = .ok (.iload_n 2, 1) := by decide +kernel
theorem dX0_enterVector_76 : decode cX0_enterVector 76 = .ok (.iadd, 1) := by decide +kernel
theorem dX0_enterVector_77 : decode cX0_enterVector 77 = .ok (.iconst 2, 1) := by decide +kernel
theorem dX0_enterVector_78 : decode cX0_enterVector 78 = .ok (.iastore, 1) := by decide +kernel
theorem dX0_enterVector_79 : decode cX0_enterVector 79 = .ok (.return_, 1) := by decide +kernel
theorem dX0_normalise_0 : decode cX0_normalise 0 = .ok (.aload_n 1, 1) := by decide +kernel
theorem dX0_normalise_1 : decode cX0_normalise 1 = .ok (.getfield 225, 3) := by decide +kernel
theorem dX0_normalise_4 : decode cX0_normalise 4 = .ok (.istore_n 2, 1) := by decide +kernel
theorem dX0_normalise_5 : decode cX0_normalise 5 = .ok (.aload_n 0, 1) := by decide +kernel
theorem dX0_normalise_6 : decode cX0_normalise 6 = .ok (.iload_n 2, 1) := by decide +kernel
theorem dX0_normalise_7 : decode cX0_normalise 7 = .ok (.invokevirtual 170, 3) := by decide +kernel
theorem dX0_normalise_10 : decode cX0_normalise 10 = .ok (.iconst 0, 1) := by decide +kernel
theorem dX0_normalise_11 : decode cX0_normalise 11 = .ok (.istore_n 3, 1) := by decide +kernel
theorem dX0_normalise_12 : decode cX0_normalise 12 = .ok (.iload_n 3, 1) := by decide +kernel
theorem dX0_normalise_13 : decode cX0_normalise 13 = .ok (.aload_n 1, 1) := by decide +kernel
theorem dX0_normalise_14 : decode cX0_normalise 14 = .ok (.getfield 230, 3) := by decide +kernel
theorem dX0_normalise_17 : decode cX0_normalise 17 = .ok (.if_icmp .ge 26, 3) := by decide +kernel
theorem dX0_normalise_20 : decode cX0_normalise 20 = .ok (.aload_n 0, 1) := by decide +kernel
theorem dX0_normalise_21 : decode cX0_normalise 21 = .ok (.iload_n 2, 1) := by decide +kernel
theorem dX0_normalise_22 : decode cX0_normalise 22 = .ok (.aload_n 1, 1) := by decide +kernel
theorem dX0_normalise_23 : decode cX0_normalise 23 = .ok (.getfield 233, 3) := by decide +kernel
theorem dX0_normalise_26 : decode cX0_normalise 26 = .ok (.iload_n 3, 1) := by decide +kernel
theorem dX0_normalise_27 : decode cX0_normalise 27 = .ok (.iaload, 1) := by decide +kernel
theorem dX0_normalise_28 : decode cX0_normalise 28 = .ok (.aload_n 1, 1) := by decide +kernel
theorem dX0_normalise_29 : decode cX0_normalise 29 = .ok (.getfield 234, 3) := by decide +kernel
theorem dX0_normalise_32 : decode cX0_normalise 32 = .ok (.iload_n 3, 1) := by decide +kernel
theorem dX0_normalise_33 : decode cX0_normalise 33 = .ok (.iaload, 1) := by decide +kernel
theorem dX0_normalise_34 : decode cX0_normalise 34 = .ok (.invokevirtual 197, 3) := by decide +kernel
theorem dX0_normalise_37 : decode cX0_normalise 37 = .ok (.iinc 3 1, 3) := by decide +kernel
theorem dX0_normalise_40 : decode cX0_normalise 40 = .ok (.goto (-28), 3) := by decide +kernel
theorem dX0_normalise_43 : decode cX0_normalise 43 = .ok (.aload_n 0, 1) := by decide +kernel
theorem dX0_normalise_44 : decode cX0_normalise 44 = .ok (.iload_n 2, 1) := by decide +kernel
theorem dX0_normalise_45 : decode cX0_normalise 45 = .ok (.invokevirtual 103, 3) := by decide +kernel
theorem dX0_normalise_48 : decode cX0_normalise 48 = .ok (.aload_n 1, 1) := by decide +kernel
theorem dX0_normalise_49 : decode cX0_normalise 49 = .ok (.iload_n 2, 1) := by decide +kernel
theorem dX0_normalise_50 : decode cX0_normalise 50 = .ok (.invokevirtual 237, 3) := by decide +kernel
theorem dX0_normalise_53 : decode cX0_normalise 53 = .ok (.aload_n 0, 1) := by decide +kernel
theorem dX0_normalise_54 : decode cX0_normalise 54 = .ok (.iload_n 2, 1) := by decide +kernel
theorem dX0_normalise_55 : decode cX0_normalise 55 = .ok (.invokevirtual 91, 3) := by decide +kernel
theorem dX0_normalise_58 : decode cX0_normalise 58 = .ok (.iconst 1, 1) := by decide +kernel
theorem dX0_normalise_59 : decode cX0_normalise 59 = .ok (.isub, 1) := by decide +kernel
theorem dX0_normalise_60 : decode cX0_normalise 60 = .ok (.istore_n 3, 1) := by decide +kernel
theorem dX0_normalise_61 : decode cX0_normalise 61 = .ok (.iload_n 3, 1) := by decide +kernel
theorem dX0_normalise_62 : decode cX0_normalise 62 = .ok (.ifCond .lt 35, 3) := by decide +kernel
theorem dX0_normalise_65 : decode cX0_normalise 65 = .ok (.aload_n 1, 1) := by decide +kernel
theorem dX0_normalise_66 : decode cX0_normalise 66 = .ok (.aload_n 0, 1) := by decide +kernel
theorem dX0_normalise_67 : decode cX0_normalise 67 = .ok (.iload_n 2, 1) := by decide +kernel
theorem dX0_normalise_68 : decode cX0_normalise 68 = .ok (.iload_n 3, 1) := by decide +kernel
theorem dX0_normalise_69 : decode cX0_normalise 69 = .ok (.invokevirtual 119, 3) := by decide +kernel
theorem dX0_normalise_72 : decode cX0_normalise 72 = .ok (.aload_n 0, 1) := by decide +kernel
theorem dX0_normalise_73 : decode cX0_normalise 73 = .ok (.getfield 12, 3) := by decide +kernel
theorem dX0_normalise_76 : decode cX0_normalise 76 = .ok (.getfield 158, 3) := by decide +kernel
theorem dX0_normalise_79 : decode cX0_normalise 79 = .ok (.iload_n 3, 1) := by decide +kernel
theorem dX0_normalise_80 : decode cX0_normalise 80 = .ok (.iaload, 1) := by decide +kernel
theorem dX0_normalise_81 : decode cX0_normalise 81 = .ok (.aload_n 0, 1) := by decide +kernel
theorem dX0_normalise_82 : decode cX0_normalise 82 = .ok (.getfield 47, 3) := by decide +kernel
theorem dX0_normalise_85 : decode cX0_normalise 85 = .ok (.getfield 161, 3) := by decide +kernel
theorem dX0_normalise_88 : decode cX0_normalise 88 = .ok (.invokevirtual 240, 3) := by decide +kernel
theorem dX0_normalise_91 : decode cX0_normalise 91 = .ok (.iinc 3 (-1), 3) := by decide +kernel
theorem dX0_normalise_94 : decode cX0_normalise 94 = .ok (.goto (-33), 3) := by decide +kernel
theorem dX0_normalise_97 : decode cX0_normalise 97 = .ok (.return_, 1) := by decide +kernel
theorem dX0_countBare_0 : decode cX0_countBare 0 = .ok (.aload_n 0, 1) := by decide +kernel
theorem dX0_countBare_1 : decode cX0_countBare 1 = .ok (.getfield 37, 3) := by decide +kernel
theorem dX0_countBare_4 : decode cX0_countBare 4 = .ok (.iload_n 1, 1) := by decide +kernel
theorem dX0_countBare_5 : decode cX0_countBare 5 = .ok (.iaload, 1) := by decide +kernel
theorem dX0_countBare_6 : decode cX0_countBare 6 = .ok (.iconst (-1), 1) := by decide +kernel
theorem dX0_countBare_7 : decode cX0_countBare 7 = .ok (.if_icmp .ne 77, 3) := by decide +kernel
theorem dX0_countBare_10 : decode cX0_countBare 10 = .ok (.iconst 0, 1) := by decide +kernel
theorem dX0_countBare_11 : decode cX0_countBare 11 = .ok (.istore_n 2, 1) := by decide +kernel
theorem dX0_countBare_12 : decode cX0_countBare 12 = .ok (.aload_n 0, 1) := by decide +kernel
theorem dX0_countBare_13 : decode cX0_countBare 13 = .ok (.getfield 40, 3) := by decide +kernel
theorem dX0_countBare_16 : decode cX0_countBare 16 = .ok (.iload_n 1, 1) := by decide +kernel
theorem dX0_countBare_17 : decode cX0_countBare 17 = .ok (.iconst 0, 1) := by decide +kernel
theorem dX0_countBare_18 : decode cX0_countBare 18 = .ok (.bastore, 1) := by decide +kernel
theorem dX0_countBare_19 : decode cX0_countBare 19 = .ok (.iconst 0, 1) := by decide +kernel
theorem dX0_countBare_20 : decode cX0_countBare 20 = .ok (.istore_n 3, 1) := by decide +kernel
theorem dX0_countBare_21 : decode cX0_countBare 21 = .ok (.iload_n 3, 1) := by decide +kernel
theorem dX0_countBare_22 : decode cX0_countBare 22 = .ok (.aload_n 0, 1) := by decide +kernel
theorem dX0_countBare_23 : decode cX0_countBare 23 = .ok (.iload_n 1, 1) := by decide +kernel
theorem dX0_countBare_24 : decode cX0_countBare 24 = .ok (.invokevirtual 91, 3) := by decide +kernel
theorem dX0_countBare_27 : decode cX0_countBare 27 = .ok (.if_icmp .ge 50, 3) := by decide +kernel
theorem dX0_countBare_30 : decode cX0_countBare 30 = .ok (.aload_n 0, 1) := by decide +kernel
theorem dX0_countBare_31 : decode cX0_countBare 31 = .ok (.iload_n 1, 1) := by decide +kernel
theorem dX0_countBare_32 : decode cX0_countBare 32 = .ok (.iload_n 3, 1) := by decide +kernel
theorem dX0_countBare_33 : decode cX0_countBare 33 = .ok (.invokevirtual 243, 3) := by decide +kernel
theorem dX0_countBare_36 : decode cX0_countBare 36 = .ok (.ifCond .eq 35, 3) := by decide +kernel
theorem dX0_countBare_39 : decode cX0_countBare 39 = .ok (.iinc 2 1, 3) := by decide +kernel
theorem dX0_countBare_42 : decode cX0_countBare 42 = .ok (.aload_n 0, 1) := by decide +kernel
theorem dX0_countBare_43 : decode cX0_countBare 43 = .ok (.getfield 40, 3) := by decide +kernel
theorem dX0_countBare_46 : decode cX0_countBare 46 = .ok (.iload_n 1, 1) := by decide +kernel
theorem dX0_countBare_47 : decode cX0_countBare 47 = .ok (.aload_n 0, 1) := by decide +kernel
theorem dX0_countBare_48 : decode cX0_countBare 48 = .ok (.getfield 40, 3) := by decide +kernel
theorem dX0_countBare_51 : decode cX0_countBare 51 = .ok (.iload_n 1, 1) := by decide +kernel
theorem dX0_countBare_52 : decode cX0_countBare 52 = .ok (.baload, 1) := by decide +kernel
theorem dX0_countBare_53 : decode cX0_countBare 53 = .ok (.ifCond .ne 12, 3) := by decide +kernel
theorem dX0_countBare_56 : decode cX0_countBare 56 = .ok (.aload_n 0, 1) := by decide +kernel
theorem dX0_countBare_57 : decode cX0_countBare 57 = .ok (.iload_n 1, 1) := by decide +kernel
theorem dX0_countBare_58 : decode cX0_countBare 58 = .ok (.iload_n 3, 1) := by decide +kernel
theorem dX0_countBare_59 : decode cX0_countBare 59 = .ok (.invokevirtual 95, 3) := by decide +kernel
theorem dX0_countBare_62 : decode cX0_countBare 62 = .ok (.ifCond .ne 7, 3) := by decide +kernel
theorem dX0_countBare_65 : decode cX0_countBare 65 = .ok (.iconst 1, 1) := by decide +kernel
theorem dX0_countBare_66 : decode cX0_countBare 66 = .ok (.goto 4, 3) := by decide +kernel
theorem dX0_countBare_69 : decode cX0_countBare 69 = .ok (.iconst 0, 1) := by decide +kernel
theorem dX0_countBare_70 : decode cX0_countBare 70 = .ok (.bastore, 1) := by decide +kernel
theorem dX0_countBare_71 : decode cX0_countBare 71 = .ok (.iinc 3 1, 3) := by decide +kernel
theorem dX0_countBare_74 : decode cX0_countBare 74 = .ok (.goto (-53), 3) := by decide +kernel
theorem dX0_countBare_77 : decode cX0_countBare 77 = .ok (.aload_n 0, 1) := by decide +kernel
theorem dX0_countBare_78 : decode cX0_countBare 78 = .ok (.getfield 37, 3) := by decide +kernel
theorem dX0_countBare_81 : decode cX0_countBare 81 = .ok (.iload_n 1, 1) := by decide +kernel
theorem dX0_countBare_82 : decode cX0_countBare 82 = .ok (.iload_n 2, 1) := by decide +kernel
theorem dX0_countBare_83 : decode cX0_countBare 83 = .ok (.iastore, 1) := by decide +kernel
theorem dX0_countBare_84 : decode cX0_countBare 84 = .ok (.aload_n 0, 1) := by decide +kernel
theorem dX0_countBare_85 : decode cX0_countBare 85 = .ok (.getfield 37, 3) := by decide +kernel
theorem dX0_countBare_88 : decode cX0_countBare 88 = .ok (.iload_n 1, 1) := by decide +kernel
theorem dX0_countBare_89 : decode cX0_countBare 89 = .ok (.iaload, 1) := by decide +kernel
theorem dX0_countBare_90 : decode cX0_countBare 90 = .ok (.ireturn, 1) := by decide +kernel
theorem dX0_isBare_0 : decode cX0_isBare 0 = .ok (.aload_n 0, 1) := by decide +kernel
theorem dX0_isBare_1 : decode cX0_isBare 1 = .ok (.iload_n 1, 1) := by decide +kernel
theorem dX0_isBare_2 : decode cX0_isBare 2 = .ok (.iload_n 2, 1) := by decide +kernel
theorem dX0_isBare_3 : decode cX0_isBare 3 = .ok (.invokevirtual 119, 3) := by decide +kernel
theorem dX0_isBare_6 : decode cX0_isBare 6 = .ok (.iload_n 1, 1) := by decide +kernel
theorem dX0_isBare_7 : decode cX0_isBare 7 = .ok (.aload_n 0, 1) := by decide +kernel
theorem dX0_isBare_8 : decode cX0_isBare 8 = .ok (.getfield 12, 3) := by decide +kernel
theorem dX0_isBare_11 : decode cX0_isBare 11 = .ok (.getfield 176, 3) := by decide +kernel
theorem dX0_isBare_14 : decode cX0_isBare 14 = .ok (.invokestatic 179, 3) := by decide +kernel
theorem dX0_isBare_17 : decode cX0_isBare 17 = .ok (.istore_n 3, 1) := by decide +kernel
theorem dX0_isBare_18 : decode cX0_isBare 18 = .ok (.iconst 0, 1) := by decide +kernel
theorem dX0_isBare_19 : decode cX0_isBare 19 = .ok (.istore 4, 2) := by decide +kernel
theorem dX0_isBare_21 : decode cX0_isBare 21 = .ok (.iload 4, 2) := by decide +kernel
theorem dX0_isBare_23 : decode cX0_isBare 23 = .ok (.aload_n 0, 1) := by decide +kernel
theorem dX0_isBare_24 : decode cX0_isBare 24 = .ok (.getfield 47, 3) := by decide +kernel
theorem dX0_isBare_27 : decode cX0_isBare 27 = .ok (.getfield 200, 3) := by decide +kernel
theorem dX0_isBare_30 : decode cX0_isBare 30 = .ok (.if_icmp .ge 113, 3) := by decide +kernel
theorem dX0_isBare_33 : decode cX0_isBare 33 = .ok (.aload_n 0, 1) := by decide +kernel
theorem dX0_isBare_34 : decode cX0_isBare 34 = .ok (.getfield 47, 3) := by decide +kernel
theorem dX0_isBare_37 : decode cX0_isBare 37 = .ok (.getfield 206, 3) := by decide +kernel
theorem dX0_isBare_40 : decode cX0_isBare 40 = .ok (.iload 4, 2) := by decide +kernel
theorem dX0_isBare_42 : decode cX0_isBare 42 = .ok (.iaload, 1) := by decide +kernel
theorem dX0_isBare_43 : decode cX0_isBare 43 = .ok (.istore 5, 2) := by decide +kernel
theorem dX0_isBare_45 : decode cX0_isBare 45 = .ok (.aload_n 0, 1) := by decide +kernel
theorem dX0_isBare_46 : decode cX0_isBare 46 = .ok (.getfield 47, 3) := by decide +kernel
theorem dX0_isBare_49 : decode cX0_isBare 49 = .ok (.getfield 203, 3) := by decide +kernel
theorem dX0_isBare_52 : decode cX0_isBare 52 = .ok (.iload 4, 2) := by decide +kernel
theorem dX0_isBare_54 : decode cX0_isBare 54 = .ok (.iaload, 1) := by decide +kernel
theorem dX0_isBare_55 : decode cX0_isBare 55 = .ok (.iload_n 1, 1) := by decide +kernel
theorem dX0_isBare_56 : decode cX0_isBare 56 = .ok (.if_icmp .gt 81, 3) := by decide +kernel
theorem dX0_isBare_59 : decode cX0_isBare 59 = .ok (.iload 5, 2) := by decide +kernel
theorem dX0_isBare_61 : decode cX0_isBare 61 = .ok (.aload_n 0, 1) := by decide +kernel
theorem dX0_isBare_62 : decode cX0_isBare 62 = .ok (.getfield 47, 3) := by decide +kernel
theorem dX0_isBare_65 : decode cX0_isBare 65 = .ok (.getfield 206, 3) := by decide +kernel
theorem dX0_isBare_68 : decode cX0_isBare 68 = .ok (.iload 4, 2) := by decide +kernel
theorem dX0_isBare_70 : decode cX0_isBare 70 = .ok (.iconst 1, 1) := by decide +kernel
theorem dX0_isBare_71 : decode cX0_isBare 71 = .ok (.iadd, 1) := by decide +kernel
theorem dX0_isBare_72 : decode cX0_isBare 72 = .ok (.iaload, 1) := by decide +kernel
theorem dX0_isBare_73 : decode cX0_isBare 73 = .ok (.if_icmp .ge 64, 3) := by decide +kernel
theorem dX0_isBare_76 : decode cX0_isBare 76 = .ok (.aload_n 0, 1) := by decide +kernel
theorem dX0_isBare_77 : decode cX0_isBare 77 = .ok (.getfield 47, 3) := by decide +kernel
theorem dX0_isBare_80 : decode cX0_isBare 80 = .ok (.getfield 209, 3) := by decide +kernel
theorem dX0_isBare_83 : decode cX0_isBare 83 = .ok (.iload 5, 2) := by decide +kernel
theorem dX0_isBare_85 : decode cX0_isBare 85 = .ok (.iaload, 1) := by decide +kernel
theorem dX0_isBare_86 : decode cX0_isBare 86 = .ok (.aload_n 0, 1) := by decide +kernel
theorem dX0_isBare_87 : decode cX0_isBare 87 = .ok (.getfield 47, 3) := by decide +kernel
theorem dX0_isBare_90 : decode cX0_isBare 90 = .ok (.getfield 203, 3) := by decide +kernel
theorem dX0_isBare_93 : decode cX0_isBare 93 = .ok (.iload 4, 2) := by decide +kernel
theorem dX0_isBare_95 : decode cX0_isBare 95 = .ok (.iaload, 1) := by decide +kernel
theorem dX0_isBare_96 : decode cX0_isBare 96 = .ok (.aload_n 0, 1) := by decide +kernel
theorem dX0_isBare_97 : decode cX0_isBare 97 = .ok (.getfield 12, 3) := by decide +kernel
theorem dX0_isBare_100 : decode cX0_isBare 100 = .ok (.getfield 246, 3) := by decide +kernel
theorem dX0_isBare_103 : decode cX0_isBare 103 = .ok (.invokestatic 179, 3) := by decide +kernel
theorem dX0_isBare_106 : decode cX0_isBare 106 = .ok (.istore 6, 2) := by decide +kernel
theorem dX0_isBare_108 : decode cX0_isBare 108 = .ok (.iconst 0, 1) := by decide +kernel
theorem dX0_isBare_109 : decode cX0_isBare 109 = .ok (.istore 7, 2) := by decide +kernel
theorem dX0_isBare_111 : decode cX0_isBare 111 = .ok (.iload 7, 2) := by decide +kernel
theorem dX0_isBare_113 : decode cX0_isBare 113 = .ok (.iload_n 3, 1) := by decide +kernel
theorem dX0_isBare_114 : decode cX0_isBare 114 = .ok (.if_icmp .ge 23, 3) := by decide +kernel
theorem dX0_isBare_117 : decode cX0_isBare 117 = .ok (.aload_n 0, 1) := by decide +kernel
theorem dX0_isBare_118 : decode cX0_isBare 118 = .ok (.iload 7, 2) := by decide +kernel
theorem dX0_isBare_120 : decode cX0_isBare 120 = .ok (.iload_n 3, 1) := by decide +kernel
theorem dX0_isBare_121 : decode cX0_isBare 121 = .ok (.iload 6, 2) := by decide +kernel
theorem dX0_isBare_123 : decode cX0_isBare 123 = .ok (.invokevirtual 249, 3) := by decide +kernel
theorem dX0_isBare_126 : decode cX0_isBare 126 = .ok (.ifCond .eq 5, 3) := by decide +kernel
theorem dX0_isBare_129 : decode cX0_isBare 129 = .ok (.iconst 0, 1) := by decide +kernel
theorem dX0_isBare_130 : decode cX0_isBare 130 = .ok (.ireturn, 1) := by decide +kernel
theorem dX0_isBare_131 : decode cX0_isBare 131 = .ok (.iinc 7 1, 3) := by decide +kernel
theorem dX0_isBare_134 : decode cX0_isBare 134 = .ok (.goto (-23), 3) := by decide +kernel
theorem dX0_isBare_137 : decode cX0_isBare 137 = .ok (.iinc 4 1, 3) := by decide +kernel
theorem dX0_isBare_140 : decode cX0_isBare 140 = .ok (.goto (-119), 3) := by decide +kernel
theorem dX0_isBare_143 : decode cX0_isBare 143 = .ok (.iconst 1, 1) := by decide +kernel
theorem dX0_isBare_144 : decode cX0_isBare 144 = .ok (.ireturn, 1) := by decide +kernel
theorem dX0_standsAt_0 : decode cX0_standsAt 0 = .ok (.iload_n 1, 1) := by decide +kernel
theorem dX0_standsAt_1 : decode cX0_standsAt 1 = .ok (.istore 4, 2) := by decide +kernel
theorem dX0_standsAt_3 : decode cX0_standsAt 3 = .ok (.iconst 0, 1) := by decide +kernel
theorem dX0_standsAt_4 : decode cX0_standsAt 4 = .ok (.istore 5, 2) := by decide +kernel
theorem dX0_standsAt_6 : decode cX0_standsAt 6 = .ok (.iload 5, 2) := by decide +kernel
theorem dX0_standsAt_8 : decode cX0_standsAt 8 = .ok (.iload_n 3, 1) := by decide +kernel
theorem dX0_standsAt_9 : decode cX0_standsAt 9 = .ok (.if_icmp .ge 87, 3) := by decide +kernel
theorem dX0_standsAt_12 : decode cX0_standsAt 12 = .ok (.iload 4, 2) := by decide +kernel
theorem dX0_standsAt_14 : decode cX0_standsAt 14 = .ok (.iload_n 2, 1) := by decide +kernel
theorem dX0_standsAt_15 : decode cX0_standsAt 15 = .ok (.if_icmp .lt 5, 3) := by decide +kernel
theorem dX0_standsAt_18 : decode cX0_standsAt 18 = .ok (.iconst 0, 1) := by decide +kernel
theorem dX0_standsAt_19 : decode cX0_standsAt 19 = .ok (.ireturn, 1) := by decide +kernel
theorem dX0_standsAt_20 : decode cX0_standsAt 20 = .ok (.aload_n 0, 1) := by decide +kernel
theorem dX0_standsAt_21 : decode cX0_standsAt 21 = .ok (.getfield 12, 3) := by decide +kernel
theorem dX0_standsAt_24 : decode cX0_standsAt 24 = .ok (.getfield 246, 3) := by decide +kernel
theorem dX0_standsAt_27 : decode cX0_standsAt 27 = .ok (.iload 5, 2) := by decide +kernel
theorem dX0_standsAt_29 : decode cX0_standsAt 29 = .ok (.iaload, 1) := by decide +kernel
theorem dX0_standsAt_30 : decode cX0_standsAt 30 = .ok (.iconst 3, 1) := by decide +kernel
theorem dX0_standsAt_31 : decode cX0_standsAt 31 = .ok (.if_icmp .ne 28, 3) := by decide +kernel
theorem dX0_standsAt_34 : decode cX0_standsAt 34 = .ok (.aload_n 0, 1) := by decide +kernel
theorem dX0_standsAt_35 : decode cX0_standsAt 35 = .ok (.getfield 12, 3) := by decide +kernel
theorem dX0_standsAt_38 : decode cX0_standsAt 38 = .ok (.getfield 176, 3) := by decide +kernel
theorem dX0_standsAt_41 : decode cX0_standsAt 41 = .ok (.iload 4, 2) := by decide +kernel
theorem dX0_standsAt_43 : decode cX0_standsAt 43 = .ok (.iload_n 2, 1) := by decide +kernel
theorem dX0_standsAt_44 : decode cX0_standsAt 44 = .ok (.aload_n 0, 1) := by decide +kernel
theorem dX0_standsAt_45 : decode cX0_standsAt 45 = .ok (.getfield 47, 3) := by decide +kernel
theorem dX0_standsAt_48 : decode cX0_standsAt 48 = .ok (.getfield 116, 3) := by decide +kernel
theorem dX0_standsAt_51 : decode cX0_standsAt 51 = .ok (.invokestatic 183, 3) := by decide +kernel
theorem dX0_standsAt_54 : decode cX0_standsAt 54 = .ok (.istore 4, 2) := by decide +kernel
theorem dX0_standsAt_56 : decode cX0_standsAt 56 = .ok (.goto 34, 3) := by decide +kernel
theorem dX0_standsAt_59 : decode cX0_standsAt 59 = .ok (.aload_n 0, 1) := by decide +kernel
theorem dX0_standsAt_60 : decode cX0_standsAt 60 = .ok (.getfield 12, 3) := by decide +kernel
theorem dX0_standsAt_63 : decode cX0_standsAt 63 = .ok (.getfield 176, 3) := by decide +kernel
theorem dX0_standsAt_66 : decode cX0_standsAt 66 = .ok (.iload 4, 2) := by decide +kernel
theorem dX0_standsAt_68 : decode cX0_standsAt 68 = .ok (.iaload, 1) := by decide +kernel
theorem dX0_standsAt_69 : decode cX0_standsAt 69 = .ok (.aload_n 0, 1) := by decide +kernel
theorem dX0_standsAt_70 : decode cX0_standsAt 70 = .ok (.getfield 12, 3) := by decide +kernel
theorem dX0_standsAt_73 : decode cX0_standsAt 73 = .ok (.getfield 246, 3) := by decide +kernel
theorem dX0_standsAt_76 : decode cX0_standsAt 76 = .ok (.iload 5, 2) := by decide +kernel
theorem dX0_standsAt_78 : decode cX0_standsAt 78 = .ok (.iaload, 1) := by decide +kernel
theorem dX0_standsAt_79 : decode cX0_standsAt 79 = .ok (.if_icmp .ne 9, 3) := by decide +kernel
theorem dX0_standsAt_82 : decode cX0_standsAt 82 = .ok (.iinc 4 1, 3) := by decide +kernel
theorem dX0_standsAt_85 : decode cX0_standsAt 85 = .ok (.goto 5, 3) := by decide +kernel
theorem dX0_standsAt_88 : decode cX0_standsAt 88 = .ok (.iconst 0, 1) := by decide +kernel
theorem dX0_standsAt_89 : decode cX0_standsAt 89 = .ok (.ireturn, 1) := by decide +kernel
theorem dX0_standsAt_90 : decode cX0_standsAt 90 = .ok (.iinc 5 1, 3) := by decide +kernel
theorem dX0_standsAt_93 : decode cX0_standsAt 93 = .ok (.goto (-87), 3) := by decide +kernel
theorem dX0_standsAt_96 : decode cX0_standsAt 96 = .ok (.iconst 1, 1) := by decide +kernel
theorem dX0_standsAt_97 : decode cX0_standsAt 97 = .ok (.ireturn, 1) := by decide +kernel
theorem dX1_init_0 : decode cX1_init 0 = .ok (.aload_n 0, 1) := by decide +kernel
theorem dX1_init_1 : decode cX1_init 1 = .ok (.invokespecial 3, 3) := by decide +kernel
theorem dX1_init_4 : decode cX1_init 4 = .ok (.aload_n 0, 1) := by decide +kernel
theorem dX1_init_5 : decode cX1_init 5 = .ok (.iconst 0, 1) := by decide +kernel
theorem dX1_init_6 : decode cX1_init 6 = .ok (.newarray .int, 2) := by decide +kernel
theorem dX1_init_8 : decode cX1_init 8 = .ok (.putfield 9, 3) := by decide +kernel
theorem dX1_init_11 : decode cX1_init 11 = .ok (.aload_n 0, 1) := by decide +kernel
theorem dX1_init_12 : decode cX1_init 12 = .ok (.iconst 0, 1) := by decide +kernel
theorem dX1_init_13 : decode cX1_init 13 = .ok (.newarray .int, 2) := by decide +kernel
theorem dX1_init_15 : decode cX1_init 15 = .ok (.putfield 15, 3) := by decide +kernel
theorem dX1_init_18 : decode cX1_init 18 = .ok (.aload_n 0, 1) := by decide +kernel
theorem dX1_init_19 : decode cX1_init 19 = .ok (.iconst 0, 1) := by decide +kernel
theorem dX1_init_20 : decode cX1_init 20 = .ok (.newarray .int, 2) := by decide +kernel
theorem dX1_init_22 : decode cX1_init 22 = .ok (.putfield 18, 3) := by decide +kernel
theorem dX1_init_25 : decode cX1_init 25 = .ok (.aload_n 0, 1) := by decide +kernel
theorem dX1_init_26 : decode cX1_init 26 = .ok (.bipush 13, 2) := by decide +kernel
theorem dX1_init_28 : decode cX1_init 28 = .ok (.newarray .int, 2) := by decide +kernel
theorem dX1_init_30 : decode cX1_init 30 = .ok (.putfield 21, 3) := by decide +kernel
theorem dX1_init_33 : decode cX1_init 33 = .ok (.aload_n 0, 1) := by decide +kernel
theorem dX1_init_34 : decode cX1_init 34 = .ok (.bipush 39, 2) := by decide +kernel
theorem dX1_init_36 : decode cX1_init 36 = .ok (.newarray .int, 2) := by decide +kernel
theorem dX1_init_38 : decode cX1_init 38 = .ok (.putfield 24, 3) := by decide +kernel
theorem dX1_init_41 : decode cX1_init 41 = .ok (.aload_n 0, 1) := by decide +kernel
theorem dX1_init_42 : decode cX1_init 42 = .ok (.iconst 3, 1) := by decide +kernel
theorem dX1_init_43 : decode cX1_init 43 = .ok (.newarray .int, 2) := by decide +kernel
theorem dX1_init_45 : decode cX1_init 45 = .ok (.putfield 27, 3) := by decide +kernel
theorem dX1_init_48 : decode cX1_init 48 = .ok (.return_, 1) := by decide +kernel
theorem dX1_isNothing_0 : decode cX1_isNothing 0 = .ok (.aload_n 1, 1) := by decide +kernel
theorem dX1_isNothing_1 : decode cX1_isNothing 1 = .ok (.getfield 30, 3) := by decide +kernel
theorem dX1_isNothing_4 : decode cX1_isNothing 4 = .ok (.iload_n 2, 1) := by decide +kernel
theorem dX1_isNothing_5 : decode cX1_isNothing 5 = .ok (.iaload, 1) := by decide +kernel
theorem dX1_isNothing_6 : decode cX1_isNothing 6 = .ok (.istore 4, 2) := by decide +kernel
theorem dX1_isNothing_8 : decode cX1_isNothing 8 = .ok (.sipush 6561, 3) := by decide +kernel
theorem dX1_isNothing_11 : decode cX1_isNothing 11 = .ok (.aload_n 3, 1) := by decide +kernel
theorem dX1_isNothing_12 : decode cX1_isNothing 12 = .ok (.getfield 35, 3) := by decide +kernel
theorem dX1_isNothing_15 : decode cX1_isNothing 15 = .ok (.iload 4, 2) := by decide +kernel
theorem dX1_isNothing_17 : decode cX1_isNothing 17 = .ok (.iconst 1, 1) := by decide +kernel
theorem dX1_isNothing_18 : decode cX1_isNothing 18 = .ok (.iadd, 1) := by decide +kernel
theorem dX1_isNothing_19 : decode cX1_isNothing 19 = .ok (.invokestatic 41, 3) := by decide +kernel
theorem dX1_isNothing_22 : decode cX1_isNothing 22 = .ok (.invokestatic 45, 3) := by decide +kernel
theorem dX1_isNothing_25 : decode cX1_isNothing 25 = .ok (.istore 5, 2) := by decide +kernel
theorem dX1_isNothing_27 : decode cX1_isNothing 27 = .ok (.aload_n 0, 1) := by decide +kernel
theorem dX1_isNothing_28 : decode cX1_isNothing 28 = .ok (.iload 5, 2) := by decide +kernel
theorem dX1_isNothing_30 : decode cX1_isNothing 30 = .ok (.invokevirtual 50, 3) := by decide +kernel
theorem dX1_isNothing_33 : decode cX1_isNothing 33 = .ok (.aload_n 0, 1) := by decide +kernel
theorem dX1_isNothing_34 : decode cX1_isNothing 34 = .ok (.getfield 18, 3) := by decide +kernel
theorem dX1_isNothing_37 : decode cX1_isNothing 37 = .ok (.iconst 0, 1) := by decide +kernel
theorem dX1_isNothing_38 : decode cX1_isNothing 38 = .ok (.iload 5, 2) := by decide +kernel
theorem dX1_isNothing_40 : decode cX1_isNothing 40 = .ok (.iconst 0, 1) := by decide +kernel
theorem dX1_isNothing_41 : decode cX1_isNothing 41 = .ok (.invokestatic 54, 3) := by decide +kernel
theorem dX1_isNothing_44 : decode cX1_isNothing 44 = .ok (.aload_n 1, 1) := by decide +kernel
theorem dX1_isNothing_45 : decode cX1_isNothing 45 = .ok (.getfield 60, 3) := by decide +kernel
theorem dX1_isNothing_48 : decode cX1_isNothing 48 = .ok (.iload_n 2, 1) := by decide +kernel
theorem dX1_isNothing_49 : decode cX1_isNothing 49 = .ok (.iaload, 1) := by decide +kernel
theorem dX1_isNothing_50 : decode cX1_isNothing 50 = .ok (.istore 6, 2) := by decide +kernel
theorem dX1_isNothing_52 : decode cX1_isNothing 52 = .ok (.iload 6, 2) := by decide +kernel
theorem dX1_isNothing_54 : decode cX1_isNothing 54 = .ok (.aload_n 1, 1) := by decide +kernel
theorem dX1_isNothing_55 : decode cX1_isNothing 55 = .ok (.getfield 60, 3) := by decide +kernel
theorem dX1_isNothing_58 : decode cX1_isNothing 58 = .ok (.iload_n 2, 1) := by decide +kernel
theorem dX1_isNothing_59 : decode cX1_isNothing 59 = .ok (.iconst 1, 1) := by decide +kernel
theorem dX1_isNothing_60 : decode cX1_isNothing 60 = .ok (.iadd, 1) := by decide +kernel
theorem dX1_isNothing_61 : decode cX1_isNothing 61 = .ok (.iaload, 1) := by decide +kernel
theorem dX1_isNothing_62 : decode cX1_isNothing 62 = .ok (.if_icmp .ge 77, 3) := by decide +kernel
theorem dX1_isNothing_65 : decode cX1_isNothing 65 = .ok (.aload_n 0, 1) := by decide +kernel
theorem dX1_isNothing_66 : decode cX1_isNothing 66 = .ok (.aload_n 1, 1) := by decide +kernel
theorem dX1_isNothing_67 : decode cX1_isNothing 67 = .ok (.aload_n 1, 1) := by decide +kernel
theorem dX1_isNothing_68 : decode cX1_isNothing 68 = .ok (.getfield 63, 3) := by decide +kernel
theorem dX1_isNothing_71 : decode cX1_isNothing 71 = .ok (.iload 6, 2) := by decide +kernel
theorem dX1_isNothing_73 : decode cX1_isNothing 73 = .ok (.iaload, 1) := by decide +kernel
theorem dX1_isNothing_74 : decode cX1_isNothing 74 = .ok (.iload 4, 2) := by decide +kernel
theorem dX1_isNothing_76 : decode cX1_isNothing 76 = .ok (.aload_n 3, 1) := by decide +kernel
theorem dX1_isNothing_77 : decode cX1_isNothing 77 = .ok (.invokevirtual 66, 3) := by decide +kernel
theorem dX1_isNothing_80 : decode cX1_isNothing 80 = .ok (.iconst 0, 1) := by decide +kernel
theorem dX1_isNothing_81 : decode cX1_isNothing 81 = .ok (.istore 7, 2) := by decide +kernel
theorem dX1_isNothing_83 : decode cX1_isNothing 83 = .ok (.iload 7, 2) := by decide +kernel
theorem dX1_isNothing_85 : decode cX1_isNothing 85 = .ok (.iload 5, 2) := by decide +kernel
theorem dX1_isNothing_87 : decode cX1_isNothing 87 = .ok (.if_icmp .ge 46, 3) := by decide +kernel
theorem dX1_isNothing_90 : decode cX1_isNothing 90 = .ok (.aload_n 0, 1) := by decide +kernel
theorem dX1_isNothing_91 : decode cX1_isNothing 91 = .ok (.getfield 18, 3) := by decide +kernel
theorem dX1_isNothing_94 : decode cX1_isNothing 94 = .ok (.iload 7, 2) := by decide +kernel
theorem dX1_isNothing_96 : decode cX1_isNothing 96 = .ok (.aload_n 0, 1) := by decide +kernel
theorem dX1_isNothing_97 : decode cX1_isNothing 97 = .ok (.getfield 18, 3) := by decide +kernel
theorem dX1_isNothing_100 : decode cX1_isNothing 100 = .ok (.iload 7, 2) := by decide +kernel
theorem dX1_isNothing_102 : decode cX1_isNothing 102 = .ok (.iaload, 1) := by decide +kernel
theorem dX1_isNothing_103 : decode cX1_isNothing 103 = .ok (.aload_n 1, 1) := by decide +kernel
theorem dX1_isNothing_104 : decode cX1_isNothing 104 = .ok (.getfield 70, 3) := by decide +kernel
theorem dX1_isNothing_107 : decode cX1_isNothing 107 = .ok (.iload 6, 2) := by decide +kernel
theorem dX1_isNothing_109 : decode cX1_isNothing 109 = .ok (.iaload, 1) := by decide +kernel
theorem dX1_isNothing_110 : decode cX1_isNothing 110 = .ok (.aload_n 0, 1) := by decide +kernel
theorem dX1_isNothing_111 : decode cX1_isNothing 111 = .ok (.getfield 9, 3) := by decide +kernel
theorem dX1_isNothing_114 : decode cX1_isNothing 114 = .ok (.iload 7, 2) := by decide +kernel
theorem dX1_isNothing_116 : decode cX1_isNothing 116 = .ok (.iaload, 1) := by decide +kernel
theorem dX1_isNothing_117 : decode cX1_isNothing 117 = .ok (.imul, 1) := by decide +kernel
theorem dX1_isNothing_118 : decode cX1_isNothing 118 = .ok (.iadd, 1) := by decide +kernel
theorem dX1_isNothing_119 : decode cX1_isNothing 119 = .ok (.aload_n 1, 1) := by decide +kernel
theorem dX1_isNothing_120 : decode cX1_isNothing 120 = .ok (.getfield 73, 3) := by decide +kernel
theorem dX1_isNothing_123 : decode cX1_isNothing 123 = .ok (.invokestatic 76, 3) := by decide +kernel
theorem dX1_isNothing_126 : decode cX1_isNothing 126 = .ok (.iastore, 1) := by decide +kernel
theorem dX1_isNothing_127 : decode cX1_isNothing 127 = .ok (.iinc 7 1, 3) := by decide +kernel
theorem dX1_isNothing_130 : decode cX1_isNothing 130 = .ok (.goto (-47), 3) := by decide +kernel
theorem dX1_isNothing_133 : decode cX1_isNothing 133 = .ok (.iinc 6 1, 3) := by decide +kernel
theorem dX1_isNothing_136 : decode cX1_isNothing 136 = .ok (.goto (-84), 3) := by decide +kernel
theorem dX1_isNothing_139 : decode cX1_isNothing 139 = .ok (.iconst 0, 1) := by decide +kernel
theorem dX1_isNothing_140 : decode cX1_isNothing 140 = .ok (.istore 6, 2) := by decide +kernel
theorem dX1_isNothing_142 : decode cX1_isNothing 142 = .ok (.iload 6, 2) := by decide +kernel
theorem dX1_isNothing_144 : decode cX1_isNothing 144 = .ok (.iload 5, 2) := by decide +kernel
theorem dX1_isNothing_146 : decode cX1_isNothing 146 = .ok (.if_icmp .ge 21, 3) := by decide +kernel
theorem dX1_isNothing_149 : decode cX1_isNothing 149 = .ok (.aload_n 0, 1) := by decide +kernel
theorem dX1_isNothing_150 : decode cX1_isNothing 150 = .ok (.getfield 18, 3) := by decide +kernel
theorem dX1_isNothing_153 : decode cX1_isNothing 153 = .ok (.iload 6, 2) := by decide +kernel
theorem dX1_isNothing_155 : decode cX1_isNothing 155 = .ok (.iaload, 1) := by decide +kernel
theorem dX1_isNothing_156 : decode cX1_isNothing 156 = .ok (.ifCond .eq 5, 3) := by decide +kernel
theorem dX1_isNothing_159 : decode cX1_isNothing 159 = .ok (.iconst 0, 1) := by decide +kernel
theorem dX1_isNothing_160 : decode cX1_isNothing 160 = .ok (.ireturn, 1) := by decide +kernel
theorem dX1_isNothing_161 : decode cX1_isNothing 161 = .ok (.iinc 6 1, 3) := by decide +kernel
theorem dX1_isNothing_164 : decode cX1_isNothing 164 = .ok (.goto (-22), 3) := by decide +kernel
theorem dX1_isNothing_167 : decode cX1_isNothing 167 = .ok (.iconst 1, 1) := by decide +kernel
theorem dX1_isNothing_168 : decode cX1_isNothing 168 = .ok (.ireturn, 1) := by decide +kernel
theorem dX1_makeRoom_0 : decode cX1_makeRoom 0 = .ok (.iload_n 1, 1) := by decide +kernel
theorem dX1_makeRoom_1 : decode cX1_makeRoom 1 = .ok (.aload_n 0, 1) := by decide +kernel
theorem dX1_makeRoom_2 : decode cX1_makeRoom 2 = .ok (.getfield 18, 3) := by decide +kernel
theorem dX1_makeRoom_5 : decode cX1_makeRoom 5 = .ok (.arraylength, 1) := by decide +kernel
theorem dX1_makeRoom_6 : decode cX1_makeRoom 6 = .ok (.if_icmp .le 31, 3) := by decide +kernel
theorem dX1_makeRoom_9 : decode cX1_makeRoom 9 = .ok (.iload_n 1, 1) := by decide +kernel
theorem dX1_makeRoom_10 : decode cX1_makeRoom 10 = .ok (.sipush 6561, 3) := by decide +kernel
theorem dX1_makeRoom_13 : decode cX1_makeRoom 13 = .ok (.if_icmp .gt 24, 3) := by decide +kernel
theorem dX1_makeRoom_16 : decode cX1_makeRoom 16 = .ok (.aload_n 0, 1) := by decide +kernel
theorem dX1_makeRoom_17 : decode cX1_makeRoom 17 = .ok (.iload_n 1, 1) := by decide +kernel
theorem dX1_makeRoom_18 : decode cX1_makeRoom 18 = .ok (.newarray .int, 2) := by decide +kernel
theorem dX1_makeRoom_20 : decode cX1_makeRoom 20 = .ok (.putfield 9, 3) := by decide +kernel
theorem dX1_makeRoom_23 : decode cX1_makeRoom 23 = .ok (.aload_n 0, 1) := by decide +kernel
theorem dX1_makeRoom_24 : decode cX1_makeRoom 24 = .ok (.iload_n 1, 1) := by decide +kernel
theorem dX1_makeRoom_25 : decode cX1_makeRoom 25 = .ok (.newarray .int, 2) := by decide +kernel
theorem dX1_makeRoom_27 : decode cX1_makeRoom 27 = .ok (.putfield 15, 3) := by decide +kernel
theorem dX1_makeRoom_30 : decode cX1_makeRoom 30 = .ok (.aload_n 0, 1) := by decide +kernel
theorem dX1_makeRoom_31 : decode cX1_makeRoom 31 = .ok (.iload_n 1, 1) := by decide +kernel
theorem dX1_makeRoom_32 : decode cX1_makeRoom 32 = .ok (.newarray .int, 2) := by decide +kernel
theorem dX1_makeRoom_34 : decode cX1_makeRoom 34 = .ok (.putfield 18, 3) := by decide +kernel
theorem dX1_makeRoom_37 : decode cX1_makeRoom 37 = .ok (.return_, 1) := by decide +kernel
theorem dX1_fillBlock_0 : decode cX1_fillBlock 0 = .ok (.aload 4, 2) := by decide +kernel
theorem dX1_fillBlock_2 : decode cX1_fillBlock 2 = .ok (.getfield 35, 3) := by decide +kernel
theorem dX1_fillBlock_5 : decode cX1_fillBlock 5 = .ok (.istore 5, 2) := by decide +kernel
theorem dX1_fillBlock_7 : decode cX1_fillBlock 7 = .ok (.iconst 0, 1) := by decide +kernel
theorem dX1_fillBlock_8 : decode cX1_fillBlock 8 = .ok (.istore 6, 2) := by decide +kernel
theorem dX1_fillBlock_10 : decode cX1_fillBlock 10 = .ok (.iload 6, 2) := by decide +kernel
theorem dX1_fillBlock_12 : decode cX1_fillBlock 12 = .ok (.iload 5, 2) := by decide +kernel
theorem dX1_fillBlock_14 : decode cX1_fillBlock 14 = .ok (.if_icmp .ge 66, 3) := by decide +kernel
theorem dX1_fillBlock_17 : decode cX1_fillBlock 17 = .ok (.iconst 0, 1) := by decide +kernel
theorem dX1_fillBlock_18 : decode cX1_fillBlock 18 = .ok (.istore 7, 2) := by decide +kernel
theorem dX1_fillBlock_20 : decode cX1_fillBlock 20 = .ok (.iload 7, 2) := by decide +kernel
theorem dX1_fillBlock_22 : decode cX1_fillBlock 22 = .ok (.iload 5, 2) := by decide +kernel
theorem dX1_fillBlock_24 : decode cX1_fillBlock 24 = .ok (.if_icmp .ge 50, 3) := by decide +kernel
theorem dX1_fillBlock_27 : decode cX1_fillBlock 27 = .ok (.iload 6, 2) := by decide +kernel
theorem dX1_fillBlock_29 : decode cX1_fillBlock 29 = .ok (.iload 5, 2) := by decide +kernel
theorem dX1_fillBlock_31 : decode cX1_fillBlock 31 = .ok (.imul, 1) := by decide +kernel
theorem dX1_fillBlock_32 : decode cX1_fillBlock 32 = .ok (.iload 7, 2) := by decide +kernel
theorem dX1_fillBlock_34 : decode cX1_fillBlock 34 = .ok (.iadd, 1) := by decide +kernel
theorem dX1_fillBlock_35 : decode cX1_fillBlock 35 = .ok (.aload_n 0, 1) := by decide +kernel
theorem dX1_fillBlock_36 : decode cX1_fillBlock 36 = .ok (.getfield 9, 3) := by decide +kernel
theorem dX1_fillBlock_39 : decode cX1_fillBlock 39 = .ok (.arraylength, 1) := by decide +kernel
theorem dX1_fillBlock_40 : decode cX1_fillBlock 40 = .ok (.if_icmp .ge 34, 3) := by decide +kernel
theorem dX1_fillBlock_43 : decode cX1_fillBlock 43 = .ok (.aload_n 0, 1) := by decide +kernel
theorem dX1_fillBlock_44 : decode cX1_fillBlock 44 = .ok (.getfield 9, 3) := by decide +kernel
theorem dX1_fillBlock_47 : decode cX1_fillBlock 47 = .ok (.iload 6, 2) := by decide +kernel
theorem dX1_fillBlock_49 : decode cX1_fillBlock 49 = .ok (.iload 5, 2) := by decide +kernel
theorem dX1_fillBlock_51 : decode cX1_fillBlock 51 = .ok (.imul, 1) := by decide +kernel
theorem dX1_fillBlock_52 : decode cX1_fillBlock 52 = .ok (.iload 7, 2) := by decide +kernel
theorem dX1_fillBlock_54 : decode cX1_fillBlock 54 = .ok (.iadd, 1) := by decide +kernel
theorem dX1_fillBlock_55 : decode cX1_fillBlock 55 = .ok (.iload 6, 2) := by decide +kernel
theorem dX1_fillBlock_57 : decode cX1_fillBlock 57 = .ok (.iload 7, 2) := by decide +kernel
theorem dX1_fillBlock_59 : decode cX1_fillBlock 59 = .ok (.if_icmp .ne 7, 3) := by decide +kernel
theorem dX1_fillBlock_62 : decode cX1_fillBlock 62 = .ok (.iconst 1, 1) := by decide +kernel
theorem dX1_fillBlock_63 : decode cX1_fillBlock 63 = .ok (.goto 4, 3) := by decide +kernel
theorem dX1_fillBlock_66 : decode cX1_fillBlock 66 = .ok (.iconst 0, 1) := by decide +kernel
theorem dX1_fillBlock_67 : decode cX1_fillBlock 67 = .ok (.iastore, 1) := by decide +kernel
theorem dX1_fillBlock_68 : decode cX1_fillBlock 68 = .ok (.iinc 7 1, 3) := by decide +kernel
theorem dX1_fillBlock_71 : decode cX1_fillBlock 71 = .ok (.goto (-51), 3) := by decide +kernel
theorem dX1_fillBlock_74 : decode cX1_fillBlock 74 = .ok (.iinc 6 1, 3) := by decide +kernel
theorem dX1_fillBlock_77 : decode cX1_fillBlock 77 = .ok (.goto (-67), 3) := by decide +kernel
theorem dX1_fillBlock_80 : decode cX1_fillBlock 80 = .ok (.iconst 0, 1) := by decide +kernel
theorem dX1_fillBlock_81 : decode cX1_fillBlock 81 = .ok (.istore 6, 2) := by decide +kernel
theorem dX1_fillBlock_83 : decode cX1_fillBlock 83 = .ok (.iconst 1, 1) := by decide +kernel
theorem dX1_fillBlock_84 : decode cX1_fillBlock 84 = .ok (.istore 7, 2) := by decide +kernel
theorem dX1_fillBlock_86 : decode cX1_fillBlock 86 = .ok (.iload_n 2, 1) := by decide +kernel
theorem dX1_fillBlock_87 : decode cX1_fillBlock 87 = .ok (.iload_n 3, 1) := by decide +kernel
theorem dX1_fillBlock_88 : decode cX1_fillBlock 88 = .ok (.aload_n 0, 1) := by decide +kernel
theorem dX1_fillBlock_89 : decode cX1_fillBlock 89 = .ok (.getfield 21, 3) := by decide +kernel
theorem dX1_fillBlock_92 : decode cX1_fillBlock 92 = .ok (.invokestatic 79, 3) := by decide +kernel
theorem dX1_fillBlock_95 : decode cX1_fillBlock 95 = .ok (.istore 8, 2) := by decide +kernel
theorem dX1_fillBlock_97 : decode cX1_fillBlock 97 = .ok (.iconst 0, 1) := by decide +kernel
theorem dX1_fillBlock_98 : decode cX1_fillBlock 98 = .ok (.istore 9, 2) := by decide +kernel
theorem dX1_fillBlock_100 : decode cX1_fillBlock 100 = .ok (.iload 9, 2) := by decide +kernel
theorem dX1_fillBlock_102 : decode cX1_fillBlock 102 = .ok (.iload 8, 2) := by decide +kernel
theorem dX1_fillBlock_104 : decode cX1_fillBlock 104 = .ok (.if_icmp .ge 87, 3) := by decide +kernel
theorem dX1_fillBlock_107 : decode cX1_fillBlock 107 = .ok (.aload_n 1, 1) := by decide +kernel
theorem dX1_fillBlock_108 : decode cX1_fillBlock 108 = .ok (.aload_n 0, 1) := by decide +kernel
theorem dX1_fillBlock_109 : decode cX1_fillBlock 109 = .ok (.getfield 21, 3) := by decide +kernel
theorem dX1_fillBlock_112 : decode cX1_fillBlock 112 = .ok (.iload 9, 2) := by decide +kernel
theorem dX1_fillBlock_114 : decode cX1_fillBlock 114 = .ok (.iaload, 1) := by decide +kernel
theorem dX1_fillBlock_115 : decode cX1_fillBlock 115 = .ok (.invokevirtual 85, 3) := by decide +kernel
theorem dX1_fillBlock_118 : decode cX1_fillBlock 118 = .ok (.ifCond .ne 9, 3) := by decide +kernel
theorem dX1_fillBlock_121 : decode cX1_fillBlock 121 = .ok (.iinc 6 1, 3) := by decide +kernel
theorem dX1_fillBlock_124 : decode cX1_fillBlock 124 = .ok (.goto 61, 3) := by decide +kernel
theorem dX1_fillBlock_127 : decode cX1_fillBlock 127 = .ok (.iload 5, 2) := by decide +kernel
theorem dX1_fillBlock_129 : decode cX1_fillBlock 129 = .ok (.iload 6, 2) := by decide +kernel
theorem dX1_fillBlock_131 : decode cX1_fillBlock 131 = .ok (.invokestatic 41, 3) := by decide +kernel
theorem dX1_fillBlock_134 : decode cX1_fillBlock 134 = .ok (.istore 10, 2) := by decide +kernel
theorem dX1_fillBlock_136 : decode cX1_fillBlock 136 = .ok (.iload 5, 2) := by decide +kernel
theorem dX1_fillBlock_138 : decode cX1_fillBlock 138 = .ok (.iload 7, 2) := by decide +kernel
theorem dX1_fillBlock_140 : decode cX1_fillBlock 140 = .ok (.iload 6, 2) := by decide +kernel
theorem dX1_fillBlock_142 : decode cX1_fillBlock 142 = .ok (.isub, 1) := by decide +kernel
theorem dX1_fillBlock_143 : decode cX1_fillBlock 143 = .ok (.invokestatic 41, 3) := by decide +kernel
theorem dX1_fillBlock_146 : decode cX1_fillBlock 146 = .ok (.istore 11, 2) := by decide +kernel
theorem dX1_fillBlock_148 : decode cX1_fillBlock 148 = .ok (.aload_n 0, 1) := by decide +kernel
theorem dX1_fillBlock_149 : decode cX1_fillBlock 149 = .ok (.aload_n 1, 1) := by decide +kernel
theorem dX1_fillBlock_150 : decode cX1_fillBlock 150 = .ok (.aload_n 0, 1) := by decide +kernel
theorem dX1_fillBlock_151 : decode cX1_fillBlock 151 = .ok (.getfield 21, 3) := by decide +kernel
theorem dX1_fillBlock_154 : decode cX1_fillBlock 154 = .ok (.iload 9, 2) := by decide +kernel
theorem dX1_fillBlock_156 : decode cX1_fillBlock 156 = .ok (.iaload, 1) := by decide +kernel
theorem dX1_fillBlock_157 : decode cX1_fillBlock 157 = .ok (.aload 4, 2) := by decide +kernel
theorem dX1_fillBlock_159 : decode cX1_fillBlock 159 = .ok (.iload 10, 2) := by decide +kernel
theorem dX1_fillBlock_161 : decode cX1_fillBlock 161 = .ok (.iload 11, 2) := by decide +kernel
theorem dX1_fillBlock_163 : decode cX1_fillBlock 163 = .ok (.invokevirtual 89, 3) := by decide +kernel
theorem dX1_fillBlock_166 : decode cX1_fillBlock 166 = .ok (.iload 7, 2) := by decide +kernel
theorem dX1_fillBlock_168 : decode cX1_fillBlock 168 = .ok (.aload_n 1, 1) := by decide +kernel
theorem dX1_fillBlock_169 : decode cX1_fillBlock 169 = .ok (.getfield 93, 3) := by decide +kernel
theorem dX1_fillBlock_172 : decode cX1_fillBlock 172 = .ok (.aload_n 0, 1) := by decide +kernel
theorem dX1_fillBlock_173 : decode cX1_fillBlock 173 = .ok (.getfield 21, 3) := by decide +kernel
theorem dX1_fillBlock_176 : decode cX1_fillBlock 176 = .ok (.iload 9, 2) := by decide +kernel
theorem dX1_fillBlock_178 : decode cX1_fillBlock 178 = .ok (.iaload, 1) := by decide +kernel
theorem dX1_fillBlock_179 : decode cX1_fillBlock 179 = .ok (.iaload, 1) := by decide +kernel
theorem dX1_fillBlock_180 : decode cX1_fillBlock 180 = .ok (.iconst 1, 1) := by decide +kernel
theorem dX1_fillBlock_181 : decode cX1_fillBlock 181 = .ok (.isub, 1) := by decide +kernel
theorem dX1_fillBlock_182 : decode cX1_fillBlock 182 = .ok (.iadd, 1) := by decide +kernel
theorem dX1_fillBlock_183 : decode cX1_fillBlock 183 = .ok (.istore 7, 2) := by decide +kernel
theorem dX1_fillBlock_185 : decode cX1_fillBlock 185 = .ok (.iinc 9 1, 3) := by decide +kernel
theorem dX1_fillBlock_188 : decode cX1_fillBlock 188 = .ok (.goto (-88), 3) := by decide +kernel
theorem dX1_fillBlock_191 : decode cX1_fillBlock 191 = .ok (.return_, 1) := by decide +kernel
theorem dX1_putTable_0 : decode cX1_putTable 0 = .ok (.aload_n 3, 1) := by decide +kernel
theorem dX1_putTable_1 : decode cX1_putTable 1 = .ok (.getfield 35, 3) := by decide +kernel
theorem dX1_putTable_4 : decode cX1_putTable 4 = .ok (.istore 6, 2) := by decide +kernel
theorem dX1_putTable_6 : decode cX1_putTable 6 = .ok (.iload 6, 2) := by decide +kernel
theorem dX1_putTable_8 : decode cX1_putTable 8 = .ok (.aload_n 1, 1) := by decide +kernel
theorem dX1_putTable_9 : decode cX1_putTable 9 = .ok (.getfield 93, 3) := by decide +kernel
theorem dX1_putTable_12 : decode cX1_putTable 12 = .ok (.iload_n 2, 1) := by decide +kernel
theorem dX1_putTable_13 : decode cX1_putTable 13 = .ok (.iaload, 1) := by decide +kernel
theorem dX1_putTable_14 : decode cX1_putTable 14 = .ok (.invokestatic 41, 3) := by decide +kernel
theorem dX1_putTable_17 : decode cX1_putTable 17 = .ok (.istore 7, 2) := by decide +kernel
theorem dX1_putTable_19 : decode cX1_putTable 19 = .ok (.iload 4, 2) := by decide +kernel
theorem dX1_putTable_21 : decode cX1_putTable 21 = .ok (.iload 7, 2) := by decide +kernel
theorem dX1_putTable_23 : decode cX1_putTable 23 = .ok (.imul, 1) := by decide +kernel
theorem dX1_putTable_24 : decode cX1_putTable 24 = .ok (.iload 5, 2) := by decide +kernel
theorem dX1_putTable_26 : decode cX1_putTable 26 = .ok (.imul, 1) := by decide +kernel
theorem dX1_putTable_27 : decode cX1_putTable 27 = .ok (.aload_n 0, 1) := by decide +kernel
theorem dX1_putTable_28 : decode cX1_putTable 28 = .ok (.getfield 15, 3) := by decide +kernel
theorem dX1_putTable_31 : decode cX1_putTable 31 = .ok (.arraylength, 1) := by decide +kernel
theorem dX1_putTable_32 : decode cX1_putTable 32 = .ok (.if_icmp .le 4, 3) := by decide +kernel
theorem dX1_putTable_35 : decode cX1_putTable 35 = .ok (.return_, 1) := by decide +kernel
theorem dX1_putTable_36 : decode cX1_putTable 36 = .ok (.iconst 0, 1) := by decide +kernel
theorem dX1_putTable_37 : decode cX1_putTable 37 = .ok (.istore 8, 2) := by decide +kernel
theorem dX1_putTable_39 : decode cX1_putTable 39 = .ok (.iload 8, 2) := by decide +kernel
theorem dX1_putTable_41 : decode cX1_putTable 41 = .ok (.iload 4, 2) := by decide +kernel
theorem dX1_putTable_43 : decode cX1_putTable 43 = .ok (.if_icmp .ge 126, 3) := by decide +kernel
theorem dX1_putTable_46 : decode cX1_putTable 46 = .ok (.iconst 0, 1) := by decide +kernel
theorem dX1_putTable_47 : decode cX1_putTable 47 = .ok (.istore 9, 2) := by decide +kernel
theorem dX1_putTable_49 : decode cX1_putTable 49 = .ok (.iload 9, 2) := by decide +kernel
theorem dX1_putTable_51 : decode cX1_putTable 51 = .ok (.iload 7, 2) := by decide +kernel
theorem dX1_putTable_53 : decode cX1_putTable 53 = .ok (.if_icmp .ge 110, 3) := by decide +kernel
theorem dX1_putTable_56 : decode cX1_putTable 56 = .ok (.iconst 0, 1) := by decide +kernel
theorem dX1_putTable_57 : decode cX1_putTable 57 = .ok (.istore 10, 2) := by decide +kernel
theorem dX1_putTable_59 : decode cX1_putTable 59 = .ok (.iload 10, 2) := by decide +kernel
theorem dX1_putTable_61 : decode cX1_putTable 61 = .ok (.iload 5, 2) := by decide +kernel
theorem dX1_putTable_63 : decode cX1_putTable 63 = .ok (.if_icmp .ge 94, 3) := by decide +kernel
theorem dX1_putTable_66 : decode cX1_putTable 66 = .ok (.iconst 0, 1) := by decide +kernel
theorem dX1_putTable_67 : decode cX1_putTable 67 = .ok (.istore 11, 2) := by decide +kernel
theorem dX1_putTable_69 : decode cX1_putTable 69 = .ok (.iconst 0, 1) := by decide +kernel
theorem dX1_putTable_70 : decode cX1_putTable 70 = .ok (.istore 12, 2) := by decide +kernel
theorem dX1_putTable_72 : decode cX1_putTable 72 = .ok (.iload 12, 2) := by decide +kernel
theorem dX1_putTable_74 : decode cX1_putTable 74 = .ok (.iload 6, 2) := by decide +kernel
theorem dX1_putTable_76 : decode cX1_putTable 76 = .ok (.if_icmp .ge 47, 3) := by decide +kernel
theorem dX1_putTable_79 : decode cX1_putTable 79 = .ok (.iload 11, 2) := by decide +kernel
theorem dX1_putTable_81 : decode cX1_putTable 81 = .ok (.aload_n 3, 1) := by decide +kernel
theorem dX1_putTable_82 : decode cX1_putTable 82 = .ok (.iload_n 2, 1) := by decide +kernel
theorem dX1_putTable_83 : decode cX1_putTable 83 = .ok (.iload 9, 2) := by decide +kernel
theorem dX1_putTable_85 : decode cX1_putTable 85 = .ok (.iload 6, 2) := by decide +kernel
theorem dX1_putTable_87 : decode cX1_putTable 87 = .ok (.imul, 1) := by decide +kernel
theorem dX1_putTable_88 : decode cX1_putTable 88 = .ok (.iload 12, 2) := by decide +kernel
theorem dX1_putTable_90 : decode cX1_putTable 90 = .ok (.iadd, 1) := by decide +kernel
theorem dX1_putTable_91 : decode cX1_putTable 91 = .ok (.invokevirtual 96, 3) := by decide +kernel
theorem dX1_putTable_94 : decode cX1_putTable 94 = .ok (.aload_n 0, 1) := by decide +kernel
theorem dX1_putTable_95 : decode cX1_putTable 95 = .ok (.getfield 9, 3) := by decide +kernel
theorem dX1_putTable_98 : decode cX1_putTable 98 = .ok (.iload 8, 2) := by decide +kernel
theorem dX1_putTable_100 : decode cX1_putTable 100 = .ok (.iload 6, 2) := by decide +kernel
theorem dX1_putTable_102 : decode cX1_putTable 102 = .ok (.imul, 1) := by decide +kernel
theorem dX1_putTable_103 : decode cX1_putTable 103 = .ok (.iload 12, 2) := by decide +kernel
theorem dX1_putTable_105 : decode cX1_putTable 105 = .ok (.iadd, 1) := by decide +kernel
theorem dX1_putTable_106 : decode cX1_putTable 106 = .ok (.iload 5, 2) := by decide +kernel
theorem dX1_putTable_108 : decode cX1_putTable 108 = .ok (.imul, 1) := by decide +kernel
theorem dX1_putTable_109 : decode cX1_putTable 109 = .ok (.iload 10, 2) := by decide +kernel
theorem dX1_putTable_111 : decode cX1_putTable 111 = .ok (.iadd, 1) := by decide +kernel
theorem dX1_putTable_112 : decode cX1_putTable 112 = .ok (.iaload, 1) := by decide +kernel
theorem dX1_putTable_113 : decode cX1_putTable 113 = .ok (.imul, 1) := by decide +kernel
theorem dX1_putTable_114 : decode cX1_putTable 114 = .ok (.iadd, 1) := by decide +kernel
theorem dX1_putTable_115 : decode cX1_putTable 115 = .ok (.istore 11, 2) := by decide +kernel
theorem dX1_putTable_117 : decode cX1_putTable 117 = .ok (.iinc 12 1, 3) := by decide +kernel
theorem dX1_putTable_120 : decode cX1_putTable 120 = .ok (.goto (-48), 3) := by decide +kernel
theorem dX1_putTable_123 : decode cX1_putTable 123 = .ok (.aload_n 0, 1) := by decide +kernel
theorem dX1_putTable_124 : decode cX1_putTable 124 = .ok (.getfield 15, 3) := by decide +kernel
theorem dX1_putTable_127 : decode cX1_putTable 127 = .ok (.iload 8, 2) := by decide +kernel
theorem dX1_putTable_129 : decode cX1_putTable 129 = .ok (.iload 7, 2) := by decide +kernel
theorem dX1_putTable_131 : decode cX1_putTable 131 = .ok (.imul, 1) := by decide +kernel
theorem dX1_putTable_132 : decode cX1_putTable 132 = .ok (.iload 9, 2) := by decide +kernel
theorem dX1_putTable_134 : decode cX1_putTable 134 = .ok (.iadd, 1) := by decide +kernel
theorem dX1_putTable_135 : decode cX1_putTable 135 = .ok (.iload 5, 2) := by decide +kernel
theorem dX1_putTable_137 : decode cX1_putTable 137 = .ok (.imul, 1) := by decide +kernel
theorem dX1_putTable_138 : decode cX1_putTable 138 = .ok (.iload 10, 2) := by decide +kernel
theorem dX1_putTable_140 : decode cX1_putTable 140 = .ok (.iadd, 1) := by decide +kernel
theorem dX1_putTable_141 : decode cX1_putTable 141 = .ok (.iload 11, 2) := by decide +kernel
theorem dX1_putTable_143 : decode cX1_putTable 143 = .ok (.aload_n 1, 1) := by decide +kernel
theorem dX1_putTable_144 : decode cX1_putTable 144 = .ok (.getfield 73, 3) := by decide +kernel
theorem dX1_putTable_147 : decode cX1_putTable 147 = .ok (.invokestatic 76, 3) := by decide +kernel
theorem dX1_putTable_150 : decode cX1_putTable 150 = .ok (.iastore, 1) := by decide +kernel
theorem dX1_putTable_151 : decode cX1_putTable 151 = .ok (.iinc 10 1, 3) := by decide +kernel
theorem dX1_putTable_154 : decode cX1_putTable 154 = .ok (.goto (-95), 3) := by decide +kernel
theorem dX1_putTable_157 : decode cX1_putTable 157 = .ok (.iinc 9 1, 3) := by decide +kernel
theorem dX1_putTable_160 : decode cX1_putTable 160 = .ok (.goto (-111), 3) := by decide +kernel
theorem dX1_putTable_163 : decode cX1_putTable 163 = .ok (.iinc 8 1, 3) := by decide +kernel
theorem dX1_putTable_166 : decode cX1_putTable 166 = .ok (.goto (-127), 3) := by decide +kernel
theorem dX1_putTable_169 : decode cX1_putTable 169 = .ok (.aload_n 0, 1) := by decide +kernel
theorem dX1_putTable_170 : decode cX1_putTable 170 = .ok (.getfield 9, 3) := by decide +kernel
theorem dX1_putTable_173 : decode cX1_putTable 173 = .ok (.astore 8, 2) := by decide +kernel
theorem dX1_putTable_175 : decode cX1_putTable 175 = .ok (.aload_n 0, 1) := by decide +kernel
theorem dX1_putTable_176 : decode cX1_putTable 176 = .ok (.aload_n 0, 1) := by decide +kernel
theorem dX1_putTable_177 : decode cX1_putTable 177 = .ok (.getfield 15, 3) := by decide +kernel
theorem dX1_putTable_180 : decode cX1_putTable 180 = .ok (.putfield 9, 3) := by decide +kernel
theorem dX1_putTable_183 : decode cX1_putTable 183 = .ok (.aload_n 0, 1) := by decide +kernel
theorem dX1_putTable_184 : decode cX1_putTable 184 = .ok (.aload 8, 2) := by decide +kernel
theorem dX1_putTable_186 : decode cX1_putTable 186 = .ok (.putfield 15, 3) := by decide +kernel
theorem dX1_putTable_189 : decode cX1_putTable 189 = .ok (.return_, 1) := by decide +kernel
theorem dX1_outcome_0 : decode cX1_outcome 0 = .ok (.iconst 0, 1) := by decide +kernel
theorem dX1_outcome_1 : decode cX1_outcome 1 = .ok (.istore 6, 2) := by decide +kernel
theorem dX1_outcome_3 : decode cX1_outcome 3 = .ok (.iconst 0, 1) := by decide +kernel
theorem dX1_outcome_4 : decode cX1_outcome 4 = .ok (.istore 7, 2) := by decide +kernel
theorem dX1_outcome_6 : decode cX1_outcome 6 = .ok (.iload 7, 2) := by decide +kernel
theorem dX1_outcome_8 : decode cX1_outcome 8 = .ok (.aload_n 2, 1) := by decide +kernel
theorem dX1_outcome_9 : decode cX1_outcome 9 = .ok (.getfield 99, 3) := by decide +kernel
theorem dX1_outcome_12 : decode cX1_outcome 12 = .ok (.if_icmp .ge 55, 3) := by decide +kernel
theorem dX1_outcome_15 : decode cX1_outcome 15 = .ok (.aload_n 0, 1) := by decide +kernel
theorem dX1_outcome_16 : decode cX1_outcome 16 = .ok (.aload_n 1, 1) := by decide +kernel
theorem dX1_outcome_17 : decode cX1_outcome 17 = .ok (.aload_n 2, 1) := by decide +kernel
theorem dX1_outcome_18 : decode cX1_outcome 18 = .ok (.getfield 104, 3) := by decide +kernel
theorem dX1_outcome_21 : decode cX1_outcome 21 = .ok (.iload 7, 2) := by decide +kernel
theorem dX1_outcome_23 : decode cX1_outcome 23 = .ok (.iaload, 1) := by decide +kernel
theorem dX1_outcome_24 : decode cX1_outcome 24 = .ok (.aload_n 2, 1) := by decide +kernel
theorem dX1_outcome_25 : decode cX1_outcome 25 = .ok (.getfield 107, 3) := by decide +kernel
theorem dX1_outcome_28 : decode cX1_outcome 28 = .ok (.aload_n 3, 1) := by decide +kernel
theorem dX1_outcome_29 : decode cX1_outcome 29 = .ok (.aload 4, 2) := by decide +kernel
theorem dX1_outcome_31 : decode cX1_outcome 31 = .ok (.invokevirtual 110, 3) := by decide +kernel
theorem dX1_outcome_34 : decode cX1_outcome 34 = .ok (.iload 6, 2) := by decide +kernel
theorem dX1_outcome_36 : decode cX1_outcome 36 = .ok (.aload_n 2, 1) := by decide +kernel
theorem dX1_outcome_37 : decode cX1_outcome 37 = .ok (.getfield 114, 3) := by decide +kernel
theorem dX1_outcome_40 : decode cX1_outcome 40 = .ok (.iload 7, 2) := by decide +kernel
theorem dX1_outcome_42 : decode cX1_outcome 42 = .ok (.iaload, 1) := by decide +kernel
theorem dX1_outcome_43 : decode cX1_outcome 43 = .ok (.aload_n 0, 1) := by decide +kernel
theorem dX1_outcome_44 : decode cX1_outcome 44 = .ok (.getfield 24, 3) := by decide +kernel
theorem dX1_outcome_47 : decode cX1_outcome 47 = .ok (.iload 5, 2) := by decide +kernel
theorem dX1_outcome_49 : decode cX1_outcome 49 = .ok (.iaload, 1) := by decide +kernel
theorem dX1_outcome_50 : decode cX1_outcome 50 = .ok (.imul, 1) := by decide +kernel
theorem dX1_outcome_51 : decode cX1_outcome 51 = .ok (.iadd, 1) := by decide +kernel
theorem dX1_outcome_52 : decode cX1_outcome 52 = .ok (.aload_n 1, 1) := by decide +kernel
theorem dX1_outcome_53 : decode cX1_outcome 53 = .ok (.getfield 73, 3) := by decide +kernel
theorem dX1_outcome_56 : decode cX1_outcome 56 = .ok (.invokestatic 76, 3) := by decide +kernel
theorem dX1_outcome_59 : decode cX1_outcome 59 = .ok (.istore 6, 2) := by decide +kernel
theorem dX1_outcome_61 : decode cX1_outcome 61 = .ok (.iinc 7 1, 3) := by decide +kernel
theorem dX1_outcome_64 : decode cX1_outcome 64 = .ok (.goto (-58), 3) := by decide +kernel
theorem dX1_outcome_67 : decode cX1_outcome 67 = .ok (.iload 6, 2) := by decide +kernel
theorem dX1_outcome_69 : decode cX1_outcome 69 = .ok (.ireturn, 1) := by decide +kernel
theorem dX1_doTree_0 : decode cX1_doTree 0 = .ok (.aload 4, 2) := by decide +kernel
theorem dX1_doTree_2 : decode cX1_doTree 2 = .ok (.getfield 35, 3) := by decide +kernel
theorem dX1_doTree_5 : decode cX1_doTree 5 = .ok (.istore 6, 2) := by decide +kernel
theorem dX1_doTree_7 : decode cX1_doTree 7 = .ok (.iconst 0, 1) := by decide +kernel
theorem dX1_doTree_8 : decode cX1_doTree 8 = .ok (.istore 7, 2) := by decide +kernel
theorem dX1_doTree_10 : decode cX1_doTree 10 = .ok (.iload_n 3, 1) := by decide +kernel
theorem dX1_doTree_11 : decode cX1_doTree 11 = .ok (.istore 8, 2) := by decide +kernel
theorem dX1_doTree_13 : decode cX1_doTree 13 = .ok (.iload_n 2, 1) := by decide +kernel
theorem dX1_doTree_14 : decode cX1_doTree 14 = .ok (.iload_n 3, 1) := by decide +kernel
theorem dX1_doTree_15 : decode cX1_doTree 15 = .ok (.aload_n 0, 1) := by decide +kernel
theorem dX1_doTree_16 : decode cX1_doTree 16 = .ok (.getfield 21, 3) := by decide +kernel
theorem dX1_doTree_19 : decode cX1_doTree 19 = .ok (.invokestatic 79, 3) := by decide +kernel
theorem dX1_doTree_22 : decode cX1_doTree 22 = .ok (.iconst 1, 1) := by decide +kernel
theorem dX1_doTree_23 : decode cX1_doTree 23 = .ok (.isub, 1) := by decide +kernel
theorem dX1_doTree_24 : decode cX1_doTree 24 = .ok (.istore 9, 2) := by decide +kernel
theorem dX1_doTree_26 : decode cX1_doTree 26 = .ok (.iload 9, 2) := by decide +kernel
theorem dX1_doTree_28 : decode cX1_doTree 28 = .ok (.ifCond .lt 167, 3) := by decide +kernel
theorem dX1_doTree_31 : decode cX1_doTree 31 = .ok (.aload_n 1, 1) := by decide +kernel
theorem dX1_doTree_32 : decode cX1_doTree 32 = .ok (.aload_n 0, 1) := by decide +kernel
theorem dX1_doTree_33 : decode cX1_doTree 33 = .ok (.getfield 21, 3) := by decide +kernel
theorem dX1_doTree_36 : decode cX1_doTree 36 = .ok (.iload 9, 2) := by decide +kernel
theorem dX1_doTree_38 : decode cX1_doTree 38 = .ok (.iaload, 1) := by decide +kernel
theorem dX1_doTree_39 : decode cX1_doTree 39 = .ok (.invokevirtual 85, 3) := by decide +kernel
theorem dX1_doTree_42 : decode cX1_doTree 42 = .ok (.ifCond .eq 84, 3) := by decide +kernel
theorem dX1_doTree_45 : decode cX1_doTree 45 = .ok (.aload_n 1, 1) := by decide +kernel
theorem dX1_doTree_46 : decode cX1_doTree 46 = .ok (.getfield 93, 3) := by decide +kernel
theorem dX1_doTree_49 : decode cX1_doTree 49 = .ok (.aload_n 0, 1) := by decide +kernel
theorem dX1_doTree_50 : decode cX1_doTree 50 = .ok (.getfield 21, 3) := by decide +kernel
theorem dX1_doTree_53 : decode cX1_doTree 53 = .ok (.iload 9, 2) := by decide +kernel
theorem dX1_doTree_55 : decode cX1_doTree 55 = .ok (.iaload, 1) := by decide +kernel
theorem dX1_doTree_56 : decode cX1_doTree 56 = .ok (.iaload, 1) := by decide +kernel
theorem dX1_doTree_57 : decode cX1_doTree 57 = .ok (.istore 10, 2) := by decide +kernel
theorem dX1_doTree_59 : decode cX1_doTree 59 = .ok (.aload_n 0, 1) := by decide +kernel
theorem dX1_doTree_60 : decode cX1_doTree 60 = .ok (.aload_n 1, 1) := by decide +kernel
theorem dX1_doTree_61 : decode cX1_doTree 61 = .ok (.aload_n 0, 1) := by decide +kernel
theorem dX1_doTree_62 : decode cX1_doTree 62 = .ok (.getfield 21, 3) := by decide +kernel
theorem dX1_doTree_65 : decode cX1_doTree 65 = .ok (.iload 9, 2) := by decide +kernel
theorem dX1_doTree_67 : decode cX1_doTree 67 = .ok (.iaload, 1) := by decide +kernel
theorem dX1_doTree_68 : decode cX1_doTree 68 = .ok (.aload 4, 2) := by decide +kernel
theorem dX1_doTree_70 : decode cX1_doTree 70 = .ok (.iload 7, 2) := by decide +kernel
theorem dX1_doTree_72 : decode cX1_doTree 72 = .ok (.invokevirtual 117, 3) := by decide +kernel
theorem dX1_doTree_75 : decode cX1_doTree 75 = .ok (.iload 7, 2) := by decide +kernel
theorem dX1_doTree_77 : decode cX1_doTree 77 = .ok (.iload 10, 2) := by decide +kernel
theorem dX1_doTree_79 : decode cX1_doTree 79 = .ok (.isub, 1) := by decide +kernel
theorem dX1_doTree_80 : decode cX1_doTree 80 = .ok (.istore 7, 2) := by decide +kernel
theorem dX1_doTree_82 : decode cX1_doTree 82 = .ok (.iconst 0, 1) := by decide +kernel
theorem dX1_doTree_83 : decode cX1_doTree 83 = .ok (.istore 11, 2) := by decide +kernel
theorem dX1_doTree_85 : decode cX1_doTree 85 = .ok (.iload 11, 2) := by decide +kernel
theorem dX1_doTree_87 : decode cX1_doTree 87 = .ok (.iload 6, 2) := by decide +kernel
theorem dX1_doTree_89 : decode cX1_doTree 89 = .ok (.if_icmp .ge 34, 3) := by decide +kernel
theorem dX1_doTree_92 : decode cX1_doTree 92 = .ok (.iload 7, 2) := by decide +kernel
theorem dX1_doTree_94 : decode cX1_doTree 94 = .ok (.ifCond .lt 29, 3) := by decide +kernel
theorem dX1_doTree_97 : decode cX1_doTree 97 = .ok (.aload_n 0, 1) := by decide +kernel
theorem dX1_doTree_98 : decode cX1_doTree 98 = .ok (.getfield 24, 3) := by decide +kernel
theorem dX1_doTree_101 : decode cX1_doTree 101 = .ok (.iload 7, 2) := by decide +kernel
theorem dX1_doTree_103 : decode cX1_doTree 103 = .ok (.iload 6, 2) := by decide +kernel
theorem dX1_doTree_105 : decode cX1_doTree 105 = .ok (.imul, 1) := by decide +kernel
theorem dX1_doTree_106 : decode cX1_doTree 106 = .ok (.iload 11, 2) := by decide +kernel
theorem dX1_doTree_108 : decode cX1_doTree 108 = .ok (.iadd, 1) := by decide +kernel
theorem dX1_doTree_109 : decode cX1_doTree 109 = .ok (.aload_n 0, 1) := by decide +kernel
theorem dX1_doTree_110 : decode cX1_doTree 110 = .ok (.getfield 27, 3) := by decide +kernel
theorem dX1_doTree_113 : decode cX1_doTree 113 = .ok (.iload 11, 2) := by decide +kernel
theorem dX1_doTree_115 : decode cX1_doTree 115 = .ok (.iaload, 1) := by decide +kernel
theorem dX1_doTree_116 : decode cX1_doTree 116 = .ok (.iastore, 1) := by decide +kernel
theorem dX1_doTree_117 : decode cX1_doTree 117 = .ok (.iinc 11 1, 3) := by decide +kernel
theorem dX1_doTree_120 : decode cX1_doTree 120 = .ok (.goto (-35), 3) := by decide +kernel
theorem dX1_doTree_123 : decode cX1_doTree 123 = .ok (.goto 63, 3) := by decide +kernel
theorem dX1_doTree_126 : decode cX1_doTree 126 = .ok (.iinc 8 (-1), 3) := by decide +kernel
theorem dX1_doTree_129 : decode cX1_doTree 129 = .ok (.iconst 0, 1) := by decide +kernel
theorem dX1_doTree_130 : decode cX1_doTree 130 = .ok (.istore 10, 2) := by decide +kernel
theorem dX1_doTree_132 : decode cX1_doTree 132 = .ok (.iload 10, 2) := by decide +kernel
theorem dX1_doTree_134 : decode cX1_doTree 134 = .ok (.iload 6, 2) := by decide +kernel
theorem dX1_doTree_136 : decode cX1_doTree 136 = .ok (.if_icmp .ge 50, 3) := by decide +kernel
theorem dX1_doTree_139 : decode cX1_doTree 139 = .ok (.iload 8, 2) := by decide +kernel
theorem dX1_doTree_141 : decode cX1_doTree 141 = .ok (.ifCond .lt 45, 3) := by decide +kernel
theorem dX1_doTree_144 : decode cX1_doTree 144 = .ok (.iload 8, 2) := by decide +kernel
theorem dX1_doTree_146 : decode cX1_doTree 146 = .ok (.aload 5, 2) := by decide +kernel
theorem dX1_doTree_148 : decode cX1_doTree 148 = .ok (.arraylength, 1) := by decide +kernel
theorem dX1_doTree_149 : decode cX1_doTree 149 = .ok (.if_icmp .ge 37, 3) := by decide +kernel
theorem dX1_doTree_152 : decode cX1_doTree 152 = .ok (.aload_n 0, 1) := by decide +kernel
theorem dX1_doTree_153 : decode cX1_doTree 153 = .ok (.getfield 24, 3) := by decide +kernel
theorem dX1_doTree_156 : decode cX1_doTree 156 = .ok (.iload 7, 2) := by decide +kernel
theorem dX1_doTree_158 : decode cX1_doTree 158 = .ok (.iload 6, 2) := by decide +kernel
theorem dX1_doTree_160 : decode cX1_doTree 160 = .ok (.imul, 1) := by decide +kernel
theorem dX1_doTree_161 : decode cX1_doTree 161 = .ok (.iload 10, 2) := by decide +kernel
theorem dX1_doTree_163 : decode cX1_doTree 163 = .ok (.iadd, 1) := by decide +kernel
theorem dX1_doTree_164 : decode cX1_doTree 164 = .ok (.aload 5, 2) := by decide +kernel
theorem dX1_doTree_166 : decode cX1_doTree 166 = .ok (.iload 8, 2) := by decide +kernel
theorem dX1_doTree_168 : decode cX1_doTree 168 = .ok (.baload, 1) := by decide +kernel
theorem dX1_doTree_169 : decode cX1_doTree 169 = .ok (.iload 10, 2) := by decide +kernel
theorem dX1_doTree_171 : decode cX1_doTree 171 = .ok (.if_icmp .ne 7, 3) := by decide +kernel
theorem dX1_doTree_174 : decode cX1_doTree 174 = .ok (.iconst 1, 1) := by decide +kernel
theorem dX1_doTree_175 : decode cX1_doTree 175 = .ok (.goto 4, 3) := by decide +kernel
theorem dX1_doTree_178 : decode cX1_doTree 178 = .ok (.iconst 0, 1) := by decide +kernel
theorem dX1_doTree_179 : decode cX1_doTree 179 = .ok (.iastore, 1) := by decide +kernel
theorem dX1_doTree_180 : decode cX1_doTree 180 = .ok (.iinc 10 1, 3) := by decide +kernel
theorem dX1_doTree_183 : decode cX1_doTree 183 = .ok (.goto (-51), 3) := by decide +kernel
theorem dX1_doTree_186 : decode cX1_doTree 186 = .ok (.iinc 7 1, 3) := by decide +kernel
theorem dX1_doTree_189 : decode cX1_doTree 189 = .ok (.iinc 9 (-1), 3) := by decide +kernel
theorem dX1_doTree_192 : decode cX1_doTree 192 = .ok (.goto (-166), 3) := by decide +kernel
theorem dX1_doTree_195 : decode cX1_doTree 195 = .ok (.return_, 1) := by decide +kernel
theorem dX1_doAct_0 : decode cX1_doAct 0 = .ok (.aload_n 3, 1) := by decide +kernel
theorem dX1_doAct_1 : decode cX1_doAct 1 = .ok (.getfield 35, 3) := by decide +kernel
theorem dX1_doAct_4 : decode cX1_doAct 4 = .ok (.istore 5, 2) := by decide +kernel
theorem dX1_doAct_6 : decode cX1_doAct 6 = .ok (.aload_n 1, 1) := by decide +kernel
theorem dX1_doAct_7 : decode cX1_doAct 7 = .ok (.getfield 93, 3) := by decide +kernel
theorem dX1_doAct_10 : decode cX1_doAct 10 = .ok (.iload_n 2, 1) := by decide +kernel
theorem dX1_doAct_11 : decode cX1_doAct 11 = .ok (.iaload, 1) := by decide +kernel
theorem dX1_doAct_12 : decode cX1_doAct 12 = .ok (.istore 6, 2) := by decide +kernel
theorem dX1_doAct_14 : decode cX1_doAct 14 = .ok (.iload 5, 2) := by decide +kernel
theorem dX1_doAct_16 : decode cX1_doAct 16 = .ok (.iload 6, 2) := by decide +kernel
theorem dX1_doAct_18 : decode cX1_doAct 18 = .ok (.invokestatic 41, 3) := by decide +kernel
theorem dX1_doAct_21 : decode cX1_doAct 21 = .ok (.istore 7, 2) := by decide +kernel
theorem dX1_doAct_23 : decode cX1_doAct 23 = .ok (.aload_n 0, 1) := by decide +kernel
theorem dX1_doAct_24 : decode cX1_doAct 24 = .ok (.getfield 27, 3) := by decide +kernel
theorem dX1_doAct_27 : decode cX1_doAct 27 = .ok (.iconst 0, 1) := by decide +kernel
theorem dX1_doAct_28 : decode cX1_doAct 28 = .ok (.invokestatic 121, 3) := by decide +kernel
theorem dX1_doAct_31 : decode cX1_doAct 31 = .ok (.iconst 0, 1) := by decide +kernel
theorem dX1_doAct_32 : decode cX1_doAct 32 = .ok (.istore 8, 2) := by decide +kernel
theorem dX1_doAct_34 : decode cX1_doAct 34 = .ok (.iload 8, 2) := by decide +kernel
theorem dX1_doAct_36 : decode cX1_doAct 36 = .ok (.iload 7, 2) := by decide +kernel
theorem dX1_doAct_38 : decode cX1_doAct 38 = .ok (.if_icmp .ge 165, 3) := by decide +kernel
theorem dX1_doAct_41 : decode cX1_doAct 41 = .ok (.iload 4, 2) := by decide +kernel
theorem dX1_doAct_43 : decode cX1_doAct 43 = .ok (.iload 6, 2) := by decide +kernel
theorem dX1_doAct_45 : decode cX1_doAct 45 = .ok (.if_icmp .lt 158, 3) := by decide +kernel
theorem dX1_doAct_48 : decode cX1_doAct 48 = .ok (.iconst 1, 1) := by decide +kernel
theorem dX1_doAct_49 : decode cX1_doAct 49 = .ok (.istore 9, 2) := by decide +kernel
theorem dX1_doAct_51 : decode cX1_doAct 51 = .ok (.iload 8, 2) := by decide +kernel
theorem dX1_doAct_53 : decode cX1_doAct 53 = .ok (.istore 10, 2) := by decide +kernel
theorem dX1_doAct_55 : decode cX1_doAct 55 = .ok (.iload 6, 2) := by decide +kernel
theorem dX1_doAct_57 : decode cX1_doAct 57 = .ok (.istore 11, 2) := by decide +kernel
theorem dX1_doAct_59 : decode cX1_doAct 59 = .ok (.iload 11, 2) := by decide +kernel
theorem dX1_doAct_61 : decode cX1_doAct 61 = .ok (.iconst 1, 1) := by decide +kernel
theorem dX1_doAct_62 : decode cX1_doAct 62 = .ok (.if_icmp .lt 76, 3) := by decide +kernel
theorem dX1_doAct_65 : decode cX1_doAct 65 = .ok (.iload 9, 2) := by decide +kernel
theorem dX1_doAct_67 : decode cX1_doAct 67 = .ok (.ifCond .eq 71, 3) := by decide +kernel
theorem dX1_doAct_70 : decode cX1_doAct 70 = .ok (.iload 5, 2) := by decide +kernel
theorem dX1_doAct_72 : decode cX1_doAct 72 = .ok (.iconst 1, 1) := by decide +kernel
theorem dX1_doAct_73 : decode cX1_doAct 73 = .ok (.if_icmp .ge 7, 3) := by decide +kernel
theorem dX1_doAct_76 : decode cX1_doAct 76 = .ok (.iconst 0, 1) := by decide +kernel
theorem dX1_doAct_77 : decode cX1_doAct 77 = .ok (.goto 8, 3) := by decide +kernel
theorem dX1_doAct_80 : decode cX1_doAct 80 = .ok (.iload 10, 2) := by decide +kernel
theorem dX1_doAct_82 : decode cX1_doAct 82 = .ok (.iload 5, 2) := by decide +kernel
theorem dX1_doAct_84 : decode cX1_doAct 84 = .ok (.irem, 1) := by decide +kernel
theorem dX1_doAct_85 : decode cX1_doAct 85 = .ok (.istore 12, 2) := by decide +kernel
theorem dX1_doAct_87 : decode cX1_doAct 87 = .ok (.iload 5, 2) := by decide +kernel
theorem dX1_doAct_89 : decode cX1_doAct 89 = .ok (.iconst 1, 1) := by decide +kernel
theorem dX1_doAct_90 : decode cX1_doAct 90 = .ok (.if_icmp .ge 7, 3) := by decide +kernel
theorem dX1_doAct_93 : decode cX1_doAct 93 = .ok (.iconst 0, 1) := by decide +kernel
theorem dX1_doAct_94 : decode cX1_doAct 94 = .ok (.goto 8, 3) := by decide +kernel
theorem dX1_doAct_97 : decode cX1_doAct 97 = .ok (.iload 10, 2) := by decide +kernel
theorem dX1_doAct_99 : decode cX1_doAct 99 = .ok (.iload 5, 2) := by decide +kernel
theorem dX1_doAct_101 : decode cX1_doAct 101 = .ok (.idiv, 1) := by decide +kernel
theorem dX1_doAct_102 : decode cX1_doAct 102 = .ok (.istore 10, 2) := by decide +kernel
theorem dX1_doAct_104 : decode cX1_doAct 104 = .ok (.iload 9, 2) := by decide +kernel
theorem dX1_doAct_106 : decode cX1_doAct 106 = .ok (.aload_n 0, 1) := by decide +kernel
theorem dX1_doAct_107 : decode cX1_doAct 107 = .ok (.getfield 24, 3) := by decide +kernel
theorem dX1_doAct_110 : decode cX1_doAct 110 = .ok (.iload 4, 2) := by decide +kernel
theorem dX1_doAct_112 : decode cX1_doAct 112 = .ok (.iload 11, 2) := by decide +kernel
theorem dX1_doAct_114 : decode cX1_doAct 114 = .ok (.isub, 1) := by decide +kernel
theorem dX1_doAct_115 : decode cX1_doAct 115 = .ok (.iload 5, 2) := by decide +kernel
theorem dX1_doAct_117 : decode cX1_doAct 117 = .ok (.imul, 1) := by decide +kernel
theorem dX1_doAct_118 : decode cX1_doAct 118 = .ok (.iload 12, 2) := by decide +kernel
theorem dX1_doAct_120 : decode cX1_doAct 120 = .ok (.iadd, 1) := by decide +kernel
theorem dX1_doAct_121 : decode cX1_doAct 121 = .ok (.iaload, 1) := by decide +kernel
theorem dX1_doAct_122 : decode cX1_doAct 122 = .ok (.imul, 1) := by decide +kernel
theorem dX1_doAct_123 : decode cX1_doAct 123 = .ok (.aload_n 1, 1) := by decide +kernel
theorem dX1_doAct_124 : decode cX1_doAct 124 = .ok (.getfield 73, 3) := by decide +kernel
theorem dX1_doAct_127 : decode cX1_doAct 127 = .ok (.invokestatic 76, 3) := by decide +kernel
theorem dX1_doAct_130 : decode cX1_doAct 130 = .ok (.istore 9, 2) := by decide +kernel
theorem dX1_doAct_132 : decode cX1_doAct 132 = .ok (.iinc 11 (-1), 3) := by decide +kernel
theorem dX1_doAct_135 : decode cX1_doAct 135 = .ok (.goto (-76), 3) := by decide +kernel
theorem dX1_doAct_138 : decode cX1_doAct 138 = .ok (.iconst 0, 1) := by decide +kernel
theorem dX1_doAct_139 : decode cX1_doAct 139 = .ok (.istore 11, 2) := by decide +kernel
theorem dX1_doAct_141 : decode cX1_doAct 141 = .ok (.iload 11, 2) := by decide +kernel
theorem dX1_doAct_143 : decode cX1_doAct 143 = .ok (.iload 5, 2) := by decide +kernel
theorem dX1_doAct_145 : decode cX1_doAct 145 = .ok (.if_icmp .ge 52, 3) := by decide +kernel
theorem dX1_doAct_148 : decode cX1_doAct 148 = .ok (.iload 9, 2) := by decide +kernel
theorem dX1_doAct_150 : decode cX1_doAct 150 = .ok (.ifCond .eq 47, 3) := by decide +kernel
theorem dX1_doAct_153 : decode cX1_doAct 153 = .ok (.aload_n 0, 1) := by decide +kernel
theorem dX1_doAct_154 : decode cX1_doAct 154 = .ok (.getfield 27, 3) := by decide +kernel
theorem dX1_doAct_157 : decode cX1_doAct 157 = .ok (.iload 11, 2) := by decide +kernel
theorem dX1_doAct_159 : decode cX1_doAct 159 = .ok (.aload_n 0, 1) := by decide +kernel
theorem dX1_doAct_160 : decode cX1_doAct 160 = .ok (.getfield 27, 3) := by decide +kernel
theorem dX1_doAct_163 : decode cX1_doAct 163 = .ok (.iload 11, 2) := by decide +kernel
theorem dX1_doAct_165 : decode cX1_doAct 165 = .ok (.iaload, 1) := by decide +kernel
theorem dX1_doAct_166 : decode cX1_doAct 166 = .ok (.iload 9, 2) := by decide +kernel
theorem dX1_doAct_168 : decode cX1_doAct 168 = .ok (.aload_n 3, 1) := by decide +kernel
theorem dX1_doAct_169 : decode cX1_doAct 169 = .ok (.iload_n 2, 1) := by decide +kernel
theorem dX1_doAct_170 : decode cX1_doAct 170 = .ok (.iload 8, 2) := by decide +kernel
theorem dX1_doAct_172 : decode cX1_doAct 172 = .ok (.iload 5, 2) := by decide +kernel
theorem dX1_doAct_174 : decode cX1_doAct 174 = .ok (.imul, 1) := by decide +kernel
theorem dX1_doAct_175 : decode cX1_doAct 175 = .ok (.iload 11, 2) := by decide +kernel
theorem dX1_doAct_177 : decode cX1_doAct 177 = .ok (.iadd, 1) := by decide +kernel
theorem dX1_doAct_178 : decode cX1_doAct 178 = .ok (.invokevirtual 96, 3) := by decide +kernel
theorem dX1_doAct_181 : decode cX1_doAct 181 = .ok (.imul, 1) := by decide +kernel
theorem dX1_doAct_182 : decode cX1_doAct 182 = .ok (.iadd, 1) := by decide +kernel
theorem dX1_doAct_183 : decode cX1_doAct 183 = .ok (.aload_n 1, 1) := by decide +kernel
theorem dX1_doAct_184 : decode cX1_doAct 184 = .ok (.getfield 73, 3) := by decide +kernel
theorem dX1_doAct_187 : decode cX1_doAct 187 = .ok (.invokestatic 76, 3) := by decide +kernel
theorem dX1_doAct_190 : decode cX1_doAct 190 = .ok (.iastore, 1) := by decide +kernel
theorem dX1_doAct_191 : decode cX1_doAct 191 = .ok (.iinc 11 1, 3) := by decide +kernel
theorem dX1_doAct_194 : decode cX1_doAct 194 = .ok (.goto (-53), 3) := by decide +kernel
theorem dX1_doAct_197 : decode cX1_doAct 197 = .ok (.iinc 8 1, 3) := by decide +kernel
theorem dX1_doAct_200 : decode cX1_doAct 200 = .ok (.goto (-166), 3) := by decide +kernel
theorem dX1_doAct_203 : decode cX1_doAct 203 = .ok (.return_, 1) := by decide +kernel
theorem dX2_init_0 : decode cX2_init 0 = .ok (.aload_n 0, 1) := by decide +kernel
theorem dX2_init_1 : decode cX2_init 1 = .ok (.invokespecial 3, 3) := by decide +kernel
theorem dX2_init_4 : decode cX2_init 4 = .ok (.aload_n 0, 1) := by decide +kernel
theorem dX2_init_5 : decode cX2_init 5 = .ok (.bipush 18, 2) := by decide +kernel
theorem dX2_init_7 : decode cX2_init 7 = .ok (.bipush 18, 2) := by decide +kernel
theorem dX2_init_9 : decode cX2_init 9 = .ok (.multianewarray 11 2, 4) := by decide +kernel
theorem dX2_init_13 : decode cX2_init 13 = .ok (.putfield 13, 3) := by decide +kernel
theorem dX2_init_16 : decode cX2_init 16 = .ok (.aload_n 0, 1) := by decide +kernel
theorem dX2_init_17 : decode cX2_init 17 = .ok (.bipush 18, 2) := by decide +kernel
theorem dX2_init_19 : decode cX2_init 19 = .ok (.newarray .int, 2) := by decide +kernel
theorem dX2_init_21 : decode cX2_init 21 = .ok (.putfield 16, 3) := by decide +kernel
theorem dX2_init_24 : decode cX2_init 24 = .ok (.aload_n 0, 1) := by decide +kernel
theorem dX2_init_25 : decode cX2_init 25 = .ok (.bipush 13, 2) := by decide +kernel
theorem dX2_init_27 : decode cX2_init 27 = .ok (.newarray .int, 2) := by decide +kernel
theorem dX2_init_29 : decode cX2_init 29 = .ok (.putfield 20, 3) := by decide +kernel
theorem dX2_init_32 : decode cX2_init 32 = .ok (.return_, 1) := by decide +kernel
theorem dX2_make_0 : decode cX2_make 0 = .ok (.aload_n 1, 1) := by decide +kernel
theorem dX2_make_1 : decode cX2_make 1 = .ok (.getfield 23, 3) := by decide +kernel
theorem dX2_make_4 : decode cX2_make 4 = .ok (.astore 4, 2) := by decide +kernel
theorem dX2_make_6 : decode cX2_make 6 = .ok (.aload_n 2, 1) := by decide +kernel
theorem dX2_make_7 : decode cX2_make 7 = .ok (.invokevirtual 29, 3) := by decide +kernel
theorem dX2_make_10 : decode cX2_make 10 = .ok (.aload_n 2, 1) := by decide +kernel
theorem dX2_make_11 : decode cX2_make 11 = .ok (.aload 4, 2) := by decide +kernel
theorem dX2_make_13 : decode cX2_make 13 = .ok (.getfield 34, 3) := by decide +kernel
theorem dX2_make_16 : decode cX2_make 16 = .ok (.putfield 34, 3) := by decide +kernel
theorem dX2_make_19 : decode cX2_make 19 = .ok (.iconst 0, 1) := by decide +kernel
theorem dX2_make_20 : decode cX2_make 20 = .ok (.istore 5, 2) := by decide +kernel
theorem dX2_make_22 : decode cX2_make 22 = .ok (.iload 5, 2) := by decide +kernel
theorem dX2_make_24 : decode cX2_make 24 = .ok (.aload 4, 2) := by decide +kernel
theorem dX2_make_26 : decode cX2_make 26 = .ok (.getfield 38, 3) := by decide +kernel
theorem dX2_make_29 : decode cX2_make 29 = .ok (.if_icmp .ge 29, 3) := by decide +kernel
theorem dX2_make_32 : decode cX2_make 32 = .ok (.aload_n 2, 1) := by decide +kernel
theorem dX2_make_33 : decode cX2_make 33 = .ok (.aload 4, 2) := by decide +kernel
theorem dX2_make_35 : decode cX2_make 35 = .ok (.getfield 41, 3) := by decide +kernel
theorem dX2_make_38 : decode cX2_make 38 = .ok (.iload 5, 2) := by decide +kernel
theorem dX2_make_40 : decode cX2_make 40 = .ok (.laload, 1) := by decide +kernel
theorem dX2_make_41 : decode cX2_make 41 = .ok (.aload 4, 2) := by decide +kernel
theorem dX2_make_43 : decode cX2_make 43 = .ok (.getfield 45, 3) := by decide +kernel
theorem dX2_make_46 : decode cX2_make 46 = .ok (.iload 5, 2) := by decide +kernel
theorem dX2_make_48 : decode cX2_make 48 = .ok (.iaload, 1) := by decide +kernel
theorem dX2_make_49 : decode cX2_make 49 = .ok (.invokevirtual 48, 3) := by decide +kernel
theorem dX2_make_52 : decode cX2_make 52 = .ok (.iinc 5 1, 3) := by decide +kernel
theorem dX2_make_55 : decode cX2_make 55 = .ok (.goto (-33), 3) := by decide +kernel
theorem dX2_make_58 : decode cX2_make 58 = .ok (.bipush 18, 2) := by decide +kernel
theorem dX2_make_60 : decode cX2_make 60 = .ok (.aload_n 1, 1) := by decide +kernel
theorem dX2_make_61 : decode cX2_make 61 = .ok (.iconst 3, 1) := by decide +kernel
theorem dX2_make_62 : decode cX2_make 62 = .ok (.invokevirtual 52, 3) := by decide +kernel
theorem dX2_make_65 : decode cX2_make 65 = .ok (.invokestatic 56, 3) := by decide +kernel
theorem dX2_make_68 : decode cX2_make 68 = .ok (.istore 5, 2) := by decide +kernel
theorem dX2_make_70 : decode cX2_make 70 = .ok (.aload_n 0, 1) := by decide +kernel
theorem dX2_make_71 : decode cX2_make 71 = .ok (.aload_n 1, 1) := by decide +kernel
theorem dX2_make_72 : decode cX2_make 72 = .ok (.iload 5, 2) := by decide +kernel
theorem dX2_make_74 : decode cX2_make 74 = .ok (.invokevirtual 62, 3) := by decide +kernel
theorem dX2_make_77 : decode cX2_make 77 = .ok (.aload_n 0, 1) := by decide +kernel
theorem dX2_make_78 : decode cX2_make 78 = .ok (.aload 4, 2) := by decide +kernel
theorem dX2_make_80 : decode cX2_make 80 = .ok (.getfield 66, 3) := by decide +kernel
theorem dX2_make_83 : decode cX2_make 83 = .ok (.iload 5, 2) := by decide +kernel
theorem dX2_make_85 : decode cX2_make 85 = .ok (.aload 4, 2) := by decide +kernel
theorem dX2_make_87 : decode cX2_make 87 = .ok (.getfield 34, 3) := by decide +kernel
theorem dX2_make_90 : decode cX2_make 90 = .ok (.invokevirtual 69, 3) := by decide +kernel
theorem dX2_make_93 : decode cX2_make 93 = .ok (.iload 5, 2) := by decide +kernel
theorem dX2_make_95 : decode cX2_make 95 = .ok (.iconst 1, 1) := by decide +kernel
theorem dX2_make_96 : decode cX2_make 96 = .ok (.isub, 1) := by decide +kernel
theorem dX2_make_97 : decode cX2_make 97 = .ok (.istore 6, 2) := by decide +kernel
theorem dX2_make_99 : decode cX2_make 99 = .ok (.iload 6, 2) := by decide +kernel
theorem dX2_make_101 : decode cX2_make 101 = .ok (.ifCond .lt 104, 3) := by decide +kernel
theorem dX2_make_104 : decode cX2_make 104 = .ok (.aload_n 0, 1) := by decide +kernel
theorem dX2_make_105 : decode cX2_make 105 = .ok (.getfield 16, 3) := by decide +kernel
theorem dX2_make_108 : decode cX2_make 108 = .ok (.iload 6, 2) := by decide +kernel
theorem dX2_make_110 : decode cX2_make 110 = .ok (.iaload, 1) := by decide +kernel
theorem dX2_make_111 : decode cX2_make 111 = .ok (.ifCond .ge 88, 3) := by decide +kernel
theorem dX2_make_114 : decode cX2_make 114 = .ok (.aload_n 3, 1) := by decide +kernel
theorem dX2_make_115 : decode cX2_make 115 = .ok (.iconst 3, 1) := by decide +kernel
theorem dX2_make_116 : decode cX2_make 116 = .ok (.invokevirtual 73, 3) := by decide +kernel
theorem dX2_make_119 : decode cX2_make 119 = .ok (.aload_n 3, 1) := by decide +kernel
theorem dX2_make_120 : decode cX2_make 120 = .ok (.aload_n 1, 1) := by decide +kernel
theorem dX2_make_121 : decode cX2_make 121 = .ok (.iconst 3, 1) := by decide +kernel
theorem dX2_make_122 : decode cX2_make 122 = .ok (.iload 6, 2) := by decide +kernel
theorem dX2_make_124 : decode cX2_make 124 = .ok (.invokevirtual 78, 3) := by decide +kernel
theorem dX2_make_127 : decode cX2_make 127 = .ok (.iconst 1, 1) := by decide +kernel
theorem dX2_make_128 : decode cX2_make 128 = .ok (.aload 4, 2) := by decide +kernel
theorem dX2_make_130 : decode cX2_make 130 = .ok (.getfield 34, 3) := by decide +kernel
theorem dX2_make_133 : decode cX2_make 133 = .ok (.invokevirtual 81, 3) := by decide +kernel
theorem dX2_make_136 : decode cX2_make 136 = .ok (.iconst 0, 1) := by decide +kernel
theorem dX2_make_137 : decode cX2_make 137 = .ok (.istore 7, 2) := by decide +kernel
theorem dX2_make_139 : decode cX2_make 139 = .ok (.iload 7, 2) := by decide +kernel
theorem dX2_make_141 : decode cX2_make 141 = .ok (.iload 6, 2) := by decide +kernel
theorem dX2_make_143 : decode cX2_make 143 = .ok (.if_icmp .ge 51, 3) := by decide +kernel
theorem dX2_make_146 : decode cX2_make 146 = .ok (.aload_n 0, 1) := by decide +kernel
theorem dX2_make_147 : decode cX2_make 147 = .ok (.getfield 16, 3) := by decide +kernel
theorem dX2_make_150 : decode cX2_make 150 = .ok (.iload 7, 2) := by decide +kernel
theorem dX2_make_152 : decode cX2_make 152 = .ok (.iaload, 1) := by decide +kernel
theorem dX2_make_153 : decode cX2_make 153 = .ok (.ifCond .lt 35, 3) := by decide +kernel
theorem dX2_make_156 : decode cX2_make 156 = .ok (.aload_n 3, 1) := by decide +kernel
theorem dX2_make_157 : decode cX2_make 157 = .ok (.aload_n 1, 1) := by decide +kernel
theorem dX2_make_158 : decode cX2_make 158 = .ok (.iconst 3, 1) := by decide +kernel
theorem dX2_make_159 : decode cX2_make 159 = .ok (.iload 7, 2) := by decide +kernel
theorem dX2_make_161 : decode cX2_make 161 = .ok (.invokevirtual 78, 3) := by decide +kernel
theorem dX2_make_164 : decode cX2_make 164 = .ok (.aload_n 0, 1) := by decide +kernel
theorem dX2_make_165 : decode cX2_make 165 = .ok (.getfield 13, 3) := by decide +kernel
theorem dX2_make_168 : decode cX2_make 168 = .ok (.aload_n 0, 1) := by decide +kernel
theorem dX2_make_169 : decode cX2_make 169 = .ok (.getfield 16, 3) := by decide +kernel
theorem dX2_make_172 : decode cX2_make 172 = .ok (.iload 7, 2) := by decide +kernel
theorem dX2_make_174 : decode cX2_make 174 = .ok (.iaload, 1) := by decide +kernel
theorem dX2_make_175 : decode cX2_make 175 = .ok (.aaload, 1) := by decide +kernel
theorem dX2_make_176 : decode cX2_make 176 = .ok (.iload 6, 2) := by decide +kernel
theorem dX2_make_178 : decode cX2_make 178 = .ok (.iaload, 1) := by decide +kernel
theorem dX2_make_179 : decode cX2_make 179 = .ok (.ineg, 1) := by decide +kernel
theorem dX2_make_180 : decode cX2_make 180 = .ok (.aload 4, 2) := by decide +kernel
theorem dX2_make_182 : decode cX2_make 182 = .ok (.getfield 34, 3) := by decide +kernel
theorem dX2_make_185 : decode cX2_make 185 = .ok (.invokevirtual 81, 3) := by decide +kernel
theorem dX2_make_188 : decode cX2_make 188 = .ok (.iinc 7 1, 3) := by decide +kernel
theorem dX2_make_191 : decode cX2_make 191 = .ok (.goto (-52), 3) := by decide +kernel
theorem dX2_make_194 : decode cX2_make 194 = .ok (.aload_n 2, 1) := by decide +kernel
theorem dX2_make_195 : decode cX2_make 195 = .ok (.aload_n 3, 1) := by decide +kernel
theorem dX2_make_196 : decode cX2_make 196 = .ok (.invokevirtual 84, 3) := by decide +kernel
theorem dX2_make_199 : decode cX2_make 199 = .ok (.iinc 6 (-1), 3) := by decide +kernel
theorem dX2_make_202 : decode cX2_make 202 = .ok (.goto (-103), 3) := by decide +kernel
theorem dX2_make_205 : decode cX2_make 205 = .ok (.return_, 1) := by decide +kernel
theorem dX2_fillGrid_0 : decode cX2_fillGrid 0 = .ok (.aload_n 1, 1) := by decide +kernel
theorem dX2_fillGrid_1 : decode cX2_fillGrid 1 = .ok (.getfield 23, 3) := by decide +kernel
theorem dX2_fillGrid_4 : decode cX2_fillGrid 4 = .ok (.astore_n 3, 1) := by decide +kernel
theorem dX2_fillGrid_5 : decode cX2_fillGrid 5 = .ok (.iconst 0, 1) := by decide +kernel
theorem dX2_fillGrid_6 : decode cX2_fillGrid 6 = .ok (.istore 4, 2) := by decide +kernel
theorem dX2_fillGrid_8 : decode cX2_fillGrid 8 = .ok (.iload 4, 2) := by decide +kernel
theorem dX2_fillGrid_10 : decode cX2_fillGrid 10 = .ok (.aload_n 3, 1) := by decide +kernel
theorem dX2_fillGrid_11 : decode cX2_fillGrid 11 = .ok (.getfield 66, 3) := by decide +kernel
theorem dX2_fillGrid_14 : decode cX2_fillGrid 14 = .ok (.if_icmp .ge 18, 3) := by decide +kernel
theorem dX2_fillGrid_17 : decode cX2_fillGrid 17 = .ok (.aload_n 0, 1) := by decide +kernel
theorem dX2_fillGrid_18 : decode cX2_fillGrid 18 = .ok (.aload_n 3, 1) := by decide +kernel
theorem dX2_fillGrid_19 : decode cX2_fillGrid 19 = .ok (.iload 4, 2) := by decide +kernel
theorem dX2_fillGrid_21 : decode cX2_fillGrid 21 = .ok (.aload_n 1, 1) := by decide +kernel
theorem dX2_fillGrid_22 : decode cX2_fillGrid 22 = .ok (.iload_n 2, 1) := by decide +kernel
theorem dX2_fillGrid_23 : decode cX2_fillGrid 23 = .ok (.invokevirtual 88, 3) := by decide +kernel
theorem dX2_fillGrid_26 : decode cX2_fillGrid 26 = .ok (.iinc 4 1, 3) := by decide +kernel
theorem dX2_fillGrid_29 : decode cX2_fillGrid 29 = .ok (.goto (-21), 3) := by decide +kernel
theorem dX2_fillGrid_32 : decode cX2_fillGrid 32 = .ok (.return_, 1) := by decide +kernel
theorem dX2_fillRow_0 : decode cX2_fillRow 0 = .ok (.iconst 0, 1) := by decide +kernel
theorem dX2_fillRow_1 : decode cX2_fillRow 1 = .ok (.istore 5, 2) := by decide +kernel
theorem dX2_fillRow_3 : decode cX2_fillRow 3 = .ok (.iload 5, 2) := by decide +kernel
theorem dX2_fillRow_5 : decode cX2_fillRow 5 = .ok (.iload 4, 2) := by decide +kernel
theorem dX2_fillRow_7 : decode cX2_fillRow 7 = .ok (.if_icmp .ge 72, 3) := by decide +kernel
theorem dX2_fillRow_10 : decode cX2_fillRow 10 = .ok (.aload_n 3, 1) := by decide +kernel
theorem dX2_fillRow_11 : decode cX2_fillRow 11 = .ok (.iconst 3, 1) := by decide +kernel
theorem dX2_fillRow_12 : decode cX2_fillRow 12 = .ok (.iload 5, 2) := by decide +kernel
theorem dX2_fillRow_14 : decode cX2_fillRow 14 = .ok (.invokevirtual 78, 3) := by decide +kernel
theorem dX2_fillRow_17 : decode cX2_fillRow 17 = .ok (.istore 6, 2) := by decide +kernel
theorem dX2_fillRow_19 : decode cX2_fillRow 19 = .ok (.iload 6, 2) := by decide +kernel
theorem dX2_fillRow_21 : decode cX2_fillRow 21 = .ok (.iconst 3, 1) := by decide +kernel
theorem dX2_fillRow_22 : decode cX2_fillRow 22 = .ok (.aload_n 0, 1) := by decide +kernel
theorem dX2_fillRow_23 : decode cX2_fillRow 23 = .ok (.getfield 20, 3) := by decide +kernel
theorem dX2_fillRow_26 : decode cX2_fillRow 26 = .ok (.invokestatic 92, 3) := by decide +kernel
theorem dX2_fillRow_29 : decode cX2_fillRow 29 = .ok (.pop, 1) := by decide +kernel
theorem dX2_fillRow_30 : decode cX2_fillRow 30 = .ok (.aload_n 0, 1) := by decide +kernel
theorem dX2_fillRow_31 : decode cX2_fillRow 31 = .ok (.getfield 20, 3) := by decide +kernel
theorem dX2_fillRow_34 : decode cX2_fillRow 34 = .ok (.iconst 1, 1) := by decide +kernel
theorem dX2_fillRow_35 : decode cX2_fillRow 35 = .ok (.iaload, 1) := by decide +kernel
theorem dX2_fillRow_36 : decode cX2_fillRow 36 = .ok (.iconst 3, 1) := by decide +kernel
theorem dX2_fillRow_37 : decode cX2_fillRow 37 = .ok (.if_icmp .ne 7, 3) := by decide +kernel
theorem dX2_fillRow_40 : decode cX2_fillRow 40 = .ok (.iconst (-1), 1) := by decide +kernel
theorem dX2_fillRow_41 : decode cX2_fillRow 41 = .ok (.goto 4, 3) := by decide +kernel
theorem dX2_fillRow_44 : decode cX2_fillRow 44 = .ok (.iconst 1, 1) := by decide +kernel
theorem dX2_fillRow_45 : decode cX2_fillRow 45 = .ok (.istore 7, 2) := by decide +kernel
theorem dX2_fillRow_47 : decode cX2_fillRow 47 = .ok (.aload_n 0, 1) := by decide +kernel
theorem dX2_fillRow_48 : decode cX2_fillRow 48 = .ok (.getfield 13, 3) := by decide +kernel
theorem dX2_fillRow_51 : decode cX2_fillRow 51 = .ok (.iload_n 2, 1) := by decide +kernel
theorem dX2_fillRow_52 : decode cX2_fillRow 52 = .ok (.aaload, 1) := by decide +kernel
theorem dX2_fillRow_53 : decode cX2_fillRow 53 = .ok (.iload 5, 2) := by decide +kernel
theorem dX2_fillRow_55 : decode cX2_fillRow 55 = .ok (.iload 7, 2) := by decide +kernel
theorem dX2_fillRow_57 : decode cX2_fillRow 57 = .ok (.aload_n 1, 1) := by decide +kernel
theorem dX2_fillRow_58 : decode cX2_fillRow 58 = .ok (.iload_n 2, 1) := by decide +kernel
theorem dX2_fillRow_59 : decode cX2_fillRow 59 = .ok (.iload 6, 2) := by decide +kernel
theorem dX2_fillRow_61 : decode cX2_fillRow 61 = .ok (.invokestatic 98, 3) := by decide +kernel
theorem dX2_fillRow_64 : decode cX2_fillRow 64 = .ok (.imul, 1) := by decide +kernel
theorem dX2_fillRow_65 : decode cX2_fillRow 65 = .ok (.aload_n 1, 1) := by decide +kernel
theorem dX2_fillRow_66 : decode cX2_fillRow 66 = .ok (.getfield 34, 3) := by decide +kernel
theorem dX2_fillRow_69 : decode cX2_fillRow 69 = .ok (.invokestatic 102, 3) := by decide +kernel
theorem dX2_fillRow_72 : decode cX2_fillRow 72 = .ok (.iastore, 1) := by decide +kernel
theorem dX2_fillRow_73 : decode cX2_fillRow 73 = .ok (.iinc 5 1, 3) := by decide +kernel
theorem dX2_fillRow_76 : decode cX2_fillRow 76 = .ok (.goto (-73), 3) := by decide +kernel
theorem dX2_fillRow_79 : decode cX2_fillRow 79 = .ok (.return_, 1) := by decide +kernel
theorem dX2_numberOf_0 : decode cX2_numberOf 0 = .ok (.aload_n 0, 1) := by decide +kernel
theorem dX2_numberOf_1 : decode cX2_numberOf 1 = .ok (.getfield 105, 3) := by decide +kernel
theorem dX2_numberOf_4 : decode cX2_numberOf 4 = .ok (.iload_n 1, 1) := by decide +kernel
theorem dX2_numberOf_5 : decode cX2_numberOf 5 = .ok (.iaload, 1) := by decide +kernel
theorem dX2_numberOf_6 : decode cX2_numberOf 6 = .ok (.istore_n 3, 1) := by decide +kernel
theorem dX2_numberOf_7 : decode cX2_numberOf 7 = .ok (.iload_n 3, 1) := by decide +kernel
theorem dX2_numberOf_8 : decode cX2_numberOf 8 = .ok (.aload_n 0, 1) := by decide +kernel
theorem dX2_numberOf_9 : decode cX2_numberOf 9 = .ok (.getfield 105, 3) := by decide +kernel
theorem dX2_numberOf_12 : decode cX2_numberOf 12 = .ok (.iload_n 1, 1) := by decide +kernel
theorem dX2_numberOf_13 : decode cX2_numberOf 13 = .ok (.iconst 1, 1) := by decide +kernel
theorem dX2_numberOf_14 : decode cX2_numberOf 14 = .ok (.iadd, 1) := by decide +kernel
theorem dX2_numberOf_15 : decode cX2_numberOf 15 = .ok (.iaload, 1) := by decide +kernel
theorem dX2_numberOf_16 : decode cX2_numberOf 16 = .ok (.if_icmp .ge 26, 3) := by decide +kernel
theorem dX2_numberOf_19 : decode cX2_numberOf 19 = .ok (.aload_n 0, 1) := by decide +kernel
theorem dX2_numberOf_20 : decode cX2_numberOf 20 = .ok (.getfield 108, 3) := by decide +kernel
theorem dX2_numberOf_23 : decode cX2_numberOf 23 = .ok (.iload_n 3, 1) := by decide +kernel
theorem dX2_numberOf_24 : decode cX2_numberOf 24 = .ok (.iaload, 1) := by decide +kernel
theorem dX2_numberOf_25 : decode cX2_numberOf 25 = .ok (.iload_n 2, 1) := by decide +kernel
theorem dX2_numberOf_26 : decode cX2_numberOf 26 = .ok (.if_icmp .ne 10, 3) := by decide +kernel
theorem dX2_numberOf_29 : decode cX2_numberOf 29 = .ok (.aload_n 0, 1) := by decide +kernel
theorem dX2_numberOf_30 : decode cX2_numberOf 30 = .ok (.getfield 111, 3) := by decide +kernel
theorem dX2_numberOf_33 : decode cX2_numberOf 33 = .ok (.iload_n 3, 1) := by decide +kernel
theorem dX2_numberOf_34 : decode cX2_numberOf 34 = .ok (.iaload, 1) := by decide +kernel
theorem dX2_numberOf_35 : decode cX2_numberOf 35 = .ok (.ireturn, 1) := by decide +kernel
theorem dX2_numberOf_36 : decode cX2_numberOf 36 = .ok (.iinc 3 1, 3) := by decide +kernel
theorem dX2_numberOf_39 : decode cX2_numberOf 39 = .ok (.goto (-32), 3) := by decide +kernel
theorem dX2_numberOf_42 : decode cX2_numberOf 42 = .ok (.iconst 0, 1) := by decide +kernel
theorem dX2_numberOf_43 : decode cX2_numberOf 43 = .ok (.ireturn, 1) := by decide +kernel
theorem dX2_clearColumns_0 : decode cX2_clearColumns 0 = .ok (.iconst 0, 1) := by decide +kernel
theorem dX2_clearColumns_1 : decode cX2_clearColumns 1 = .ok (.istore 4, 2) := by decide +kernel
theorem dX2_clearColumns_3 : decode cX2_clearColumns 3 = .ok (.iconst 0, 1) := by decide +kernel
theorem dX2_clearColumns_4 : decode cX2_clearColumns 4 = .ok (.istore 5, 2) := by decide +kernel
theorem dX2_clearColumns_6 : decode cX2_clearColumns 6 = .ok (.iload 5, 2) := by decide +kernel
theorem dX2_clearColumns_8 : decode cX2_clearColumns 8 = .ok (.iload_n 2, 1) := by decide +kernel
theorem dX2_clearColumns_9 : decode cX2_clearColumns 9 = .ok (.if_icmp .ge 83, 3) := by decide +kernel
theorem dX2_clearColumns_12 : decode cX2_clearColumns 12 = .ok (.aload_n 0, 1) := by decide +kernel
theorem dX2_clearColumns_13 : decode cX2_clearColumns 13 = .ok (.getfield 16, 3) := by decide +kernel
theorem dX2_clearColumns_16 : decode cX2_clearColumns 16 = .ok (.iload 5, 2) := by decide +kernel
theorem dX2_clearColumns_18 : decode cX2_clearColumns 18 = .ok (.iconst (-1), 1) := by decide +kernel
theorem dX2_clearColumns_19 : decode cX2_clearColumns 19 = .ok (.iastore, 1) := by decide +kernel
theorem dX2_clearColumns_20 : decode cX2_clearColumns 20 = .ok (.iload 4, 2) := by decide +kernel
theorem dX2_clearColumns_22 : decode cX2_clearColumns 22 = .ok (.istore 6, 2) := by decide +kernel
theorem dX2_clearColumns_24 : decode cX2_clearColumns 24 = .ok (.iload 6, 2) := by decide +kernel
theorem dX2_clearColumns_26 : decode cX2_clearColumns 26 = .ok (.iload_n 1, 1) := by decide +kernel
theorem dX2_clearColumns_27 : decode cX2_clearColumns 27 = .ok (.if_icmp .ge 22, 3) := by decide +kernel
theorem dX2_clearColumns_30 : decode cX2_clearColumns 30 = .ok (.aload_n 0, 1) := by decide +kernel
theorem dX2_clearColumns_31 : decode cX2_clearColumns 31 = .ok (.getfield 13, 3) := by decide +kernel
theorem dX2_clearColumns_34 : decode cX2_clearColumns 34 = .ok (.iload 6, 2) := by decide +kernel
theorem dX2_clearColumns_36 : decode cX2_clearColumns 36 = .ok (.aaload, 1) := by decide +kernel
theorem dX2_clearColumns_37 : decode cX2_clearColumns 37 = .ok (.iload 5, 2) := by decide +kernel
theorem dX2_clearColumns_39 : decode cX2_clearColumns 39 = .ok (.iaload, 1) := by decide +kernel
theorem dX2_clearColumns_40 : decode cX2_clearColumns 40 = .ok (.ifCond .ne 9, 3) := by decide +kernel
theorem dX2_clearColumns_43 : decode cX2_clearColumns 43 = .ok (.iinc 6 1, 3) := by decide +kernel
theorem dX2_clearColumns_46 : decode cX2_clearColumns 46 = .ok (.goto (-22), 3) := by decide +kernel
theorem dX2_clearColumns_49 : decode cX2_clearColumns 49 = .ok (.iload 6, 2) := by decide +kernel
theorem dX2_clearColumns_51 : decode cX2_clearColumns 51 = .ok (.iload_n 1, 1) := by decide +kernel
theorem dX2_clearColumns_52 : decode cX2_clearColumns 52 = .ok (.if_icmp .ge 34, 3) := by decide +kernel
theorem dX2_clearColumns_55 : decode cX2_clearColumns 55 = .ok (.aload_n 0, 1) := by decide +kernel
theorem dX2_clearColumns_56 : decode cX2_clearColumns 56 = .ok (.iload 6, 2) := by decide +kernel
theorem dX2_clearColumns_58 : decode cX2_clearColumns 58 = .ok (.iload 4, 2) := by decide +kernel
theorem dX2_clearColumns_60 : decode cX2_clearColumns 60 = .ok (.invokevirtual 114, 3) := by decide +kernel
theorem dX2_clearColumns_63 : decode cX2_clearColumns 63 = .ok (.aload_n 0, 1) := by decide +kernel
theorem dX2_clearColumns_64 : decode cX2_clearColumns 64 = .ok (.iload 4, 2) := by decide +kernel
theorem dX2_clearColumns_66 : decode cX2_clearColumns 66 = .ok (.iload 5, 2) := by decide +kernel
theorem dX2_clearColumns_68 : decode cX2_clearColumns 68 = .ok (.iload_n 1, 1) := by decide +kernel
theorem dX2_clearColumns_69 : decode cX2_clearColumns 69 = .ok (.iload_n 2, 1) := by decide +kernel
theorem dX2_clearColumns_70 : decode cX2_clearColumns 70 = .ok (.iload_n 3, 1) := by decide +kernel
theorem dX2_clearColumns_71 : decode cX2_clearColumns 71 = .ok (.invokevirtual 118, 3) := by decide +kernel
theorem dX2_clearColumns_74 : decode cX2_clearColumns 74 = .ok (.aload_n 0, 1) := by decide +kernel
theorem dX2_clearColumns_75 : decode cX2_clearColumns 75 = .ok (.getfield 16, 3) := by decide +kernel
theorem dX2_clearColumns_78 : decode cX2_clearColumns 78 = .ok (.iload 5, 2) := by decide +kernel
theorem dX2_clearColumns_80 : decode cX2_clearColumns 80 = .ok (.iload 4, 2) := by decide +kernel
theorem dX2_clearColumns_82 : decode cX2_clearColumns 82 = .ok (.iastore, 1) := by decide +kernel
theorem dX2_clearColumns_83 : decode cX2_clearColumns 83 = .ok (.iinc 4 1, 3) := by decide +kernel
theorem dX2_clearColumns_86 : decode cX2_clearColumns 86 = .ok (.iinc 5 1, 3) := by decide +kernel
theorem dX2_clearColumns_89 : decode cX2_clearColumns 89 = .ok (.goto (-83), 3) := by decide +kernel
theorem dX2_clearColumns_92 : decode cX2_clearColumns 92 = .ok (.return_, 1) := by decide +kernel
theorem dX2_swapRows_0 : decode cX2_swapRows 0 = .ok (.iconst 0, 1) := by decide +kernel
theorem dX2_swapRows_1 : decode cX2_swapRows 1 = .ok (.istore_n 3, 1) := by decide +kernel
theorem dX2_swapRows_2 : decode cX2_swapRows 2 = .ok (.iload_n 3, 1) := by decide +kernel
theorem dX2_swapRows_3 : decode cX2_swapRows 3 = .ok (.bipush 18, 2) := by decide +kernel
theorem dX2_swapRows_5 : decode cX2_swapRows 5 = .ok (.if_icmp .ge 45, 3) := by decide +kernel
theorem dX2_swapRows_8 : decode cX2_swapRows 8 = .ok (.aload_n 0, 1) := by decide +kernel
theorem dX2_swapRows_9 : decode cX2_swapRows 9 = .ok (.getfield 13, 3) := by decide +kernel
theorem dX2_swapRows_12 : decode cX2_swapRows 12 = .ok (.iload_n 1, 1) := by decide +kernel
theorem dX2_swapRows_13 : decode cX2_swapRows 13 = .ok (.aaload, 1) := by decide +kernel
theorem dX2_swapRows_14 : decode cX2_swapRows 14 = .ok (.iload_n 3, 1) := by decide +kernel
theorem dX2_swapRows_15 : decode cX2_swapRows 15 = .ok (.iaload, 1) := by decide +kernel
theorem dX2_swapRows_16 : decode cX2_swapRows 16 = .ok (.istore 4, 2) := by decide +kernel
theorem dX2_swapRows_18 : decode cX2_swapRows 18 = .ok (.aload_n 0, 1) := by decide +kernel
theorem dX2_swapRows_19 : decode cX2_swapRows 19 = .ok (.getfield 13, 3) := by decide +kernel
theorem dX2_swapRows_22 : decode cX2_swapRows 22 = .ok (.iload_n 1, 1) := by decide +kernel
theorem dX2_swapRows_23 : decode cX2_swapRows 23 = .ok (.aaload, 1) := by decide +kernel
theorem dX2_swapRows_24 : decode cX2_swapRows 24 = .ok (.iload_n 3, 1) := by decide +kernel
theorem dX2_swapRows_25 : decode cX2_swapRows 25 = .ok (.aload_n 0, 1) := by decide +kernel
theorem dX2_swapRows_26 : decode cX2_swapRows 26 = .ok (.getfield 13, 3) := by decide +kernel
theorem dX2_swapRows_29 : decode cX2_swapRows 29 = .ok (.iload_n 2, 1) := by decide +kernel
theorem dX2_swapRows_30 : decode cX2_swapRows 30 = .ok (.aaload, 1) := by decide +kernel
theorem dX2_swapRows_31 : decode cX2_swapRows 31 = .ok (.iload_n 3, 1) := by decide +kernel
theorem dX2_swapRows_32 : decode cX2_swapRows 32 = .ok (.iaload, 1) := by decide +kernel
theorem dX2_swapRows_33 : decode cX2_swapRows 33 = .ok (.iastore, 1) := by decide +kernel
theorem dX2_swapRows_34 : decode cX2_swapRows 34 = .ok (.aload_n 0, 1) := by decide +kernel
theorem dX2_swapRows_35 : decode cX2_swapRows 35 = .ok (.getfield 13, 3) := by decide +kernel
theorem dX2_swapRows_38 : decode cX2_swapRows 38 = .ok (.iload_n 2, 1) := by decide +kernel
theorem dX2_swapRows_39 : decode cX2_swapRows 39 = .ok (.aaload, 1) := by decide +kernel
theorem dX2_swapRows_40 : decode cX2_swapRows 40 = .ok (.iload_n 3, 1) := by decide +kernel
theorem dX2_swapRows_41 : decode cX2_swapRows 41 = .ok (.iload 4, 2) := by decide +kernel
theorem dX2_swapRows_43 : decode cX2_swapRows 43 = .ok (.iastore, 1) := by decide +kernel
theorem dX2_swapRows_44 : decode cX2_swapRows 44 = .ok (.iinc 3 1, 3) := by decide +kernel
theorem dX2_swapRows_47 : decode cX2_swapRows 47 = .ok (.goto (-45), 3) := by decide +kernel
theorem dX2_swapRows_50 : decode cX2_swapRows 50 = .ok (.return_, 1) := by decide +kernel
theorem dX2_clearColumn_0 : decode cX2_clearColumn 0 = .ok (.aload_n 0, 1) := by decide +kernel
theorem dX2_clearColumn_1 : decode cX2_clearColumn 1 = .ok (.getfield 13, 3) := by decide +kernel
theorem dX2_clearColumn_4 : decode cX2_clearColumn 4 = .ok (.iload_n 1, 1) := by decide +kernel
theorem dX2_clearColumn_5 : decode cX2_clearColumn 5 = .ok (.aaload, 1) := by decide +kernel
theorem dX2_clearColumn_6 : decode cX2_clearColumn 6 = .ok (.iload_n 2, 1) := by decide +kernel
theorem dX2_clearColumn_7 : decode cX2_clearColumn 7 = .ok (.iaload, 1) := by decide +kernel
theorem dX2_clearColumn_8 : decode cX2_clearColumn 8 = .ok (.iload 5, 2) := by decide +kernel
theorem dX2_clearColumn_10 : decode cX2_clearColumn 10 = .ok (.invokestatic 122, 3) := by decide +kernel
theorem dX2_clearColumn_13 : decode cX2_clearColumn 13 = .ok (.istore 6, 2) := by decide +kernel
theorem dX2_clearColumn_15 : decode cX2_clearColumn 15 = .ok (.iconst 0, 1) := by decide +kernel
theorem dX2_clearColumn_16 : decode cX2_clearColumn 16 = .ok (.istore 7, 2) := by decide +kernel
theorem dX2_clearColumn_18 : decode cX2_clearColumn 18 = .ok (.iload 7, 2) := by decide +kernel
theorem dX2_clearColumn_20 : decode cX2_clearColumn 20 = .ok (.iload 4, 2) := by decide +kernel
theorem dX2_clearColumn_22 : decode cX2_clearColumn 22 = .ok (.if_icmp .ge 35, 3) := by decide +kernel
theorem dX2_clearColumn_25 : decode cX2_clearColumn 25 = .ok (.aload_n 0, 1) := by decide +kernel
theorem dX2_clearColumn_26 : decode cX2_clearColumn 26 = .ok (.getfield 13, 3) := by decide +kernel
theorem dX2_clearColumn_29 : decode cX2_clearColumn 29 = .ok (.iload_n 1, 1) := by decide +kernel
theorem dX2_clearColumn_30 : decode cX2_clearColumn 30 = .ok (.aaload, 1) := by decide +kernel
theorem dX2_clearColumn_31 : decode cX2_clearColumn 31 = .ok (.iload 7, 2) := by decide +kernel
theorem dX2_clearColumn_33 : decode cX2_clearColumn 33 = .ok (.aload_n 0, 1) := by decide +kernel
theorem dX2_clearColumn_34 : decode cX2_clearColumn 34 = .ok (.getfield 13, 3) := by decide +kernel
theorem dX2_clearColumn_37 : decode cX2_clearColumn 37 = .ok (.iload_n 1, 1) := by decide +kernel
theorem dX2_clearColumn_38 : decode cX2_clearColumn 38 = .ok (.aaload, 1) := by decide +kernel
theorem dX2_clearColumn_39 : decode cX2_clearColumn 39 = .ok (.iload 7, 2) := by decide +kernel
theorem dX2_clearColumn_41 : decode cX2_clearColumn 41 = .ok (.iaload, 1) := by decide +kernel
theorem dX2_clearColumn_42 : decode cX2_clearColumn 42 = .ok (.iload 6, 2) := by decide +kernel
theorem dX2_clearColumn_44 : decode cX2_clearColumn 44 = .ok (.imul, 1) := by decide +kernel
theorem dX2_clearColumn_45 : decode cX2_clearColumn 45 = .ok (.iload 5, 2) := by decide +kernel
theorem dX2_clearColumn_47 : decode cX2_clearColumn 47 = .ok (.invokestatic 102, 3) := by decide +kernel
theorem dX2_clearColumn_50 : decode cX2_clearColumn 50 = .ok (.iastore, 1) := by decide +kernel
theorem dX2_clearColumn_51 : decode cX2_clearColumn 51 = .ok (.iinc 7 1, 3) := by decide +kernel
theorem dX2_clearColumn_54 : decode cX2_clearColumn 54 = .ok (.goto (-36), 3) := by decide +kernel
theorem dX2_clearColumn_57 : decode cX2_clearColumn 57 = .ok (.iconst 0, 1) := by decide +kernel
theorem dX2_clearColumn_58 : decode cX2_clearColumn 58 = .ok (.istore 7, 2) := by decide +kernel
theorem dX2_clearColumn_60 : decode cX2_clearColumn 60 = .ok (.iload 7, 2) := by decide +kernel
theorem dX2_clearColumn_62 : decode cX2_clearColumn 62 = .ok (.iload_n 3, 1) := by decide +kernel
theorem dX2_clearColumn_63 : decode cX2_clearColumn 63 = .ok (.if_icmp .ge 89, 3) := by decide +kernel
theorem dX2_clearColumn_66 : decode cX2_clearColumn 66 = .ok (.iload 7, 2) := by decide +kernel
theorem dX2_clearColumn_68 : decode cX2_clearColumn 68 = .ok (.iload_n 1, 1) := by decide +kernel
theorem dX2_clearColumn_69 : decode cX2_clearColumn 69 = .ok (.if_icmp .ne 7, 3) := by decide +kernel
theorem dX2_clearColumn_72 : decode cX2_clearColumn 72 = .ok (.iconst 0, 1) := by decide +kernel
theorem dX2_clearColumn_73 : decode cX2_clearColumn 73 = .ok (.goto 12, 3) := by decide +kernel
theorem dX2_clearColumn_76 : decode cX2_clearColumn 76 = .ok (.aload_n 0, 1) := by decide +kernel
theorem dX2_clearColumn_77 : decode cX2_clearColumn 77 = .ok (.getfield 13, 3) := by decide +kernel
theorem dX2_clearColumn_80 : decode cX2_clearColumn 80 = .ok (.iload 7, 2) := by decide +kernel
theorem dX2_clearColumn_82 : decode cX2_clearColumn 82 = .ok (.aaload, 1) := by decide +kernel
theorem dX2_clearColumn_83 : decode cX2_clearColumn 83 = .ok (.iload_n 2, 1) := by decide +kernel
theorem dX2_clearColumn_84 : decode cX2_clearColumn 84 = .ok (.iaload, 1) := by decide +kernel
theorem dX2_clearColumn_85 : decode cX2_clearColumn 85 = .ok (.istore 8, 2) := by decide +kernel
theorem dX2_clearColumn_87 : decode cX2_clearColumn 87 = .ok (.iconst 0, 1) := by decide +kernel
theorem dX2_clearColumn_88 : decode cX2_clearColumn 88 = .ok (.istore 9, 2) := by decide +kernel
theorem dX2_clearColumn_90 : decode cX2_clearColumn 90 = .ok (.iload 9, 2) := by decide +kernel
theorem dX2_clearColumn_92 : decode cX2_clearColumn 92 = .ok (.iload 4, 2) := by decide +kernel
theorem dX2_clearColumn_94 : decode cX2_clearColumn 94 = .ok (.if_icmp .ge 52, 3) := by decide +kernel
theorem dX2_clearColumn_97 : decode cX2_clearColumn 97 = .ok (.iload 8, 2) := by decide +kernel
theorem dX2_clearColumn_99 : decode cX2_clearColumn 99 = .ok (.ifCond .eq 47, 3) := by decide +kernel
theorem dX2_clearColumn_102 : decode cX2_clearColumn 102 = .ok (.aload_n 0, 1) := by decide +kernel
theorem dX2_clearColumn_103 : decode cX2_clearColumn 103 = .ok (.getfield 13, 3) := by decide +kernel
theorem dX2_clearColumn_106 : decode cX2_clearColumn 106 = .ok (.iload 7, 2) := by decide +kernel
theorem dX2_clearColumn_108 : decode cX2_clearColumn 108 = .ok (.aaload, 1) := by decide +kernel
theorem dX2_clearColumn_109 : decode cX2_clearColumn 109 = .ok (.iload 9, 2) := by decide +kernel
theorem dX2_clearColumn_111 : decode cX2_clearColumn 111 = .ok (.aload_n 0, 1) := by decide +kernel
theorem dX2_clearColumn_112 : decode cX2_clearColumn 112 = .ok (.getfield 13, 3) := by decide +kernel
theorem dX2_clearColumn_115 : decode cX2_clearColumn 115 = .ok (.iload 7, 2) := by decide +kernel
theorem dX2_clearColumn_117 : decode cX2_clearColumn 117 = .ok (.aaload, 1) := by decide +kernel
theorem dX2_clearColumn_118 : decode cX2_clearColumn 118 = .ok (.iload 9, 2) := by decide +kernel
theorem dX2_clearColumn_120 : decode cX2_clearColumn 120 = .ok (.iaload, 1) := by decide +kernel
theorem dX2_clearColumn_121 : decode cX2_clearColumn 121 = .ok (.iload 8, 2) := by decide +kernel
theorem dX2_clearColumn_123 : decode cX2_clearColumn 123 = .ok (.aload_n 0, 1) := by decide +kernel
theorem dX2_clearColumn_124 : decode cX2_clearColumn 124 = .ok (.getfield 13, 3) := by decide +kernel
theorem dX2_clearColumn_127 : decode cX2_clearColumn 127 = .ok (.iload_n 1, 1) := by decide +kernel
theorem dX2_clearColumn_128 : decode cX2_clearColumn 128 = .ok (.aaload, 1) := by decide +kernel
theorem dX2_clearColumn_129 : decode cX2_clearColumn 129 = .ok (.iload 9, 2) := by decide +kernel
theorem dX2_clearColumn_131 : decode cX2_clearColumn 131 = .ok (.iaload, 1) := by decide +kernel
theorem dX2_clearColumn_132 : decode cX2_clearColumn 132 = .ok (.imul, 1) := by decide +kernel
theorem dX2_clearColumn_133 : decode cX2_clearColumn 133 = .ok (.isub, 1) := by decide +kernel
theorem dX2_clearColumn_134 : decode cX2_clearColumn 134 = .ok (.iload 5, 2) := by decide +kernel
theorem dX2_clearColumn_136 : decode cX2_clearColumn 136 = .ok (.invokestatic 102, 3) := by decide +kernel
theorem dX2_clearColumn_139 : decode cX2_clearColumn 139 = .ok (.iastore, 1) := by decide +kernel
theorem dX2_clearColumn_140 : decode cX2_clearColumn 140 = .ok (.iinc 9 1, 3) := by decide +kernel
theorem dX2_clearColumn_143 : decode cX2_clearColumn 143 = .ok (.goto (-53), 3) := by decide +kernel
theorem dX2_clearColumn_146 : decode cX2_clearColumn 146 = .ok (.iinc 7 1, 3) := by decide +kernel
theorem dX2_clearColumn_149 : decode cX2_clearColumn 149 = .ok (.goto (-89), 3) := by decide +kernel
theorem dX2_clearColumn_152 : decode cX2_clearColumn 152 = .ok (.return_, 1) := by decide +kernel
theorem dX3_init_0 : decode cX3_init 0 = .ok (.aload_n 0, 1) := by decide +kernel
theorem dX3_init_1 : decode cX3_init 1 = .ok (.invokespecial 3, 3) := by decide +kernel
theorem dX3_init_4 : decode cX3_init 4 = .ok (.aload_n 0, 1) := by decide +kernel
theorem dX3_init_5 : decode cX3_init 5 = .ok (.iconst 3, 1) := by decide +kernel
theorem dX3_init_6 : decode cX3_init 6 = .ok (.anewarray 9, 3) := by decide +kernel
theorem dX3_init_9 : decode cX3_init 9 = .ok (.putfield 11, 3) := by decide +kernel
theorem dX3_init_12 : decode cX3_init 12 = .ok (.aload_n 0, 1) := by decide +kernel
theorem dX3_init_13 : decode cX3_init 13 = .ok (.iconst (-1), 1) := by decide +kernel
theorem dX3_init_14 : decode cX3_init 14 = .ok (.putfield 17, 3) := by decide +kernel
theorem dX3_init_17 : decode cX3_init 17 = .ok (.aload_n 0, 1) := by decide +kernel
theorem dX3_init_18 : decode cX3_init 18 = .ok (.new 9, 3) := by decide +kernel
theorem dX3_init_21 : decode cX3_init 21 = .ok (.dup, 1) := by decide +kernel
theorem dX3_init_22 : decode cX3_init 22 = .ok (.invokespecial 21, 3) := by decide +kernel
theorem dX3_init_25 : decode cX3_init 25 = .ok (.putfield 22, 3) := by decide +kernel
theorem dX3_init_28 : decode cX3_init 28 = .ok (.aload_n 0, 1) := by decide +kernel
theorem dX3_init_29 : decode cX3_init 29 = .ok (.new 9, 3) := by decide +kernel
theorem dX3_init_32 : decode cX3_init 32 = .ok (.dup, 1) := by decide +kernel
theorem dX3_init_33 : decode cX3_init 33 = .ok (.invokespecial 21, 3) := by decide +kernel
theorem dX3_init_36 : decode cX3_init 36 = .ok (.putfield 26, 3) := by decide +kernel
theorem dX3_init_39 : decode cX3_init 39 = .ok (.aload_n 0, 1) := by decide +kernel
theorem dX3_init_40 : decode cX3_init 40 = .ok (.new 9, 3) := by decide +kernel
theorem dX3_init_43 : decode cX3_init 43 = .ok (.dup, 1) := by decide +kernel
theorem dX3_init_44 : decode cX3_init 44 = .ok (.invokespecial 21, 3) := by decide +kernel
theorem dX3_init_47 : decode cX3_init 47 = .ok (.putfield 29, 3) := by decide +kernel
theorem dX3_init_50 : decode cX3_init 50 = .ok (.aload_n 0, 1) := by decide +kernel
theorem dX3_init_51 : decode cX3_init 51 = .ok (.bipush 13, 2) := by decide +kernel
theorem dX3_init_53 : decode cX3_init 53 = .ok (.newarray .int, 2) := by decide +kernel
theorem dX3_init_55 : decode cX3_init 55 = .ok (.putfield 32, 3) := by decide +kernel
theorem dX3_init_58 : decode cX3_init 58 = .ok (.iconst 0, 1) := by decide +kernel
theorem dX3_init_59 : decode cX3_init 59 = .ok (.istore_n 1, 1) := by decide +kernel
theorem dX3_init_60 : decode cX3_init 60 = .ok (.iload_n 1, 1) := by decide +kernel
theorem dX3_init_61 : decode cX3_init 61 = .ok (.aload_n 0, 1) := by decide +kernel
theorem dX3_init_62 : decode cX3_init 62 = .ok (.getfield 11, 3) := by decide +kernel
theorem dX3_init_65 : decode cX3_init 65 = .ok (.arraylength, 1) := by decide +kernel
theorem dX3_init_66 : decode cX3_init 66 = .ok (.if_icmp .ge 22, 3) := by decide +kernel
theorem dX3_init_69 : decode cX3_init 69 = .ok (.aload_n 0, 1) := by decide +kernel
theorem dX3_init_70 : decode cX3_init 70 = .ok (.getfield 11, 3) := by decide +kernel
theorem dX3_init_73 : decode cX3_init 73 = .ok (.iload_n 1, 1) := by decide +kernel
theorem dX3_init_74 : decode cX3_init 74 = .ok (.new 9, 3) := by decide +kernel
theorem dX3_init_77 : decode cX3_init 77 = .ok (.dup, 1) := by decide +kernel
theorem dX3_init_78 : decode cX3_init 78 = .ok (.invokespecial 21, 3) := by decide +kernel
theorem dX3_init_81 : decode cX3_init 81 = .ok (.aastore, 1) := by decide +kernel
theorem dX3_init_82 : decode cX3_init 82 = .ok (.iinc 1 1, 3) := by decide +kernel
theorem dX3_init_85 : decode cX3_init 85 = .ok (.goto (-25), 3) := by decide +kernel
theorem dX3_init_88 : decode cX3_init 88 = .ok (.return_, 1) := by decide +kernel
theorem dX3_bringLaws_0 : decode cX3_bringLaws 0 = .ok (.iconst 0, 1) := by decide +kernel
theorem dX3_bringLaws_1 : decode cX3_bringLaws 1 = .ok (.istore 4, 2) := by decide +kernel
theorem dX3_bringLaws_3 : decode cX3_bringLaws 3 = .ok (.aload_n 0, 1) := by decide +kernel
theorem dX3_bringLaws_4 : decode cX3_bringLaws 4 = .ok (.iconst (-1), 1) := by decide +kernel
theorem dX3_bringLaws_5 : decode cX3_bringLaws 5 = .ok (.putfield 17, 3) := by decide +kernel
theorem dX3_bringLaws_8 : decode cX3_bringLaws 8 = .ok (.aload_n 1, 1) := by decide +kernel
theorem dX3_bringLaws_9 : decode cX3_bringLaws 9 = .ok (.getfield 36, 3) := by decide +kernel
theorem dX3_bringLaws_12 : decode cX3_bringLaws 12 = .ok (.iconst 1, 1) := by decide +kernel
theorem dX3_bringLaws_13 : decode cX3_bringLaws 13 = .ok (.isub, 1) := by decide +kernel
theorem dX3_bringLaws_14 : decode cX3_bringLaws 14 = .ok (.istore 5, 2) := by decide +kernel
theorem dX3_bringLaws_16 : decode cX3_bringLaws 16 = .ok (.iload 5, 2) := by decide +kernel
theorem dX3_bringLaws_18 : decode cX3_bringLaws 18 = .ok (.ifCond .lt 33, 3) := by decide +kernel
theorem dX3_bringLaws_21 : decode cX3_bringLaws 21 = .ok (.aload_n 0, 1) := by decide +kernel
theorem dX3_bringLaws_22 : decode cX3_bringLaws 22 = .ok (.aload_n 1, 1) := by decide +kernel
theorem dX3_bringLaws_23 : decode cX3_bringLaws 23 = .ok (.iload 5, 2) := by decide +kernel
theorem dX3_bringLaws_25 : decode cX3_bringLaws 25 = .ok (.aload_n 2, 1) := by decide +kernel
theorem dX3_bringLaws_26 : decode cX3_bringLaws 26 = .ok (.aload_n 3, 1) := by decide +kernel
theorem dX3_bringLaws_27 : decode cX3_bringLaws 27 = .ok (.invokevirtual 41, 3) := by decide +kernel
theorem dX3_bringLaws_30 : decode cX3_bringLaws 30 = .ok (.ifCond .eq 9, 3) := by decide +kernel
theorem dX3_bringLaws_33 : decode cX3_bringLaws 33 = .ok (.iinc 4 1, 3) := by decide +kernel
theorem dX3_bringLaws_36 : decode cX3_bringLaws 36 = .ok (.goto 9, 3) := by decide +kernel
theorem dX3_bringLaws_39 : decode cX3_bringLaws 39 = .ok (.aload_n 0, 1) := by decide +kernel
theorem dX3_bringLaws_40 : decode cX3_bringLaws 40 = .ok (.iload 5, 2) := by decide +kernel
theorem dX3_bringLaws_42 : decode cX3_bringLaws 42 = .ok (.putfield 17, 3) := by decide +kernel
theorem dX3_bringLaws_45 : decode cX3_bringLaws 45 = .ok (.iinc 5 (-1), 3) := by decide +kernel
theorem dX3_bringLaws_48 : decode cX3_bringLaws 48 = .ok (.goto (-32), 3) := by decide +kernel
theorem dX3_bringLaws_51 : decode cX3_bringLaws 51 = .ok (.iload 4, 2) := by decide +kernel
theorem dX3_bringLaws_53 : decode cX3_bringLaws 53 = .ok (.ireturn, 1) := by decide +kernel
theorem dX3_isKept_0 : decode cX3_isKept 0 = .ok (.aload_n 0, 1) := by decide +kernel
theorem dX3_isKept_1 : decode cX3_isKept 1 = .ok (.getfield 29, 3) := by decide +kernel
theorem dX3_isKept_4 : decode cX3_isKept 4 = .ok (.aload_n 1, 1) := by decide +kernel
theorem dX3_isKept_5 : decode cX3_isKept 5 = .ok (.getfield 45, 3) := by decide +kernel
theorem dX3_isKept_8 : decode cX3_isKept 8 = .ok (.iload_n 2, 1) := by decide +kernel
theorem dX3_isKept_9 : decode cX3_isKept 9 = .ok (.iaload, 1) := by decide +kernel
theorem dX3_isKept_10 : decode cX3_isKept 10 = .ok (.invokevirtual 48, 3) := by decide +kernel
theorem dX3_isKept_13 : decode cX3_isKept 13 = .ok (.aload_n 1, 1) := by decide +kernel
theorem dX3_isKept_14 : decode cX3_isKept 14 = .ok (.getfield 52, 3) := by decide +kernel
theorem dX3_isKept_17 : decode cX3_isKept 17 = .ok (.iload_n 2, 1) := by decide +kernel
theorem dX3_isKept_18 : decode cX3_isKept 18 = .ok (.iaload, 1) := by decide +kernel
theorem dX3_isKept_19 : decode cX3_isKept 19 = .ok (.istore 5, 2) := by decide +kernel
theorem dX3_isKept_21 : decode cX3_isKept 21 = .ok (.iload 5, 2) := by decide +kernel
theorem dX3_isKept_23 : decode cX3_isKept 23 = .ok (.aload_n 1, 1) := by decide +kernel
theorem dX3_isKept_24 : decode cX3_isKept 24 = .ok (.getfield 52, 3) := by decide +kernel
theorem dX3_isKept_27 : decode cX3_isKept 27 = .ok (.iload_n 2, 1) := by decide +kernel
theorem dX3_isKept_28 : decode cX3_isKept 28 = .ok (.iconst 1, 1) := by decide +kernel
theorem dX3_isKept_29 : decode cX3_isKept 29 = .ok (.iadd, 1) := by decide +kernel
theorem dX3_isKept_30 : decode cX3_isKept 30 = .ok (.iaload, 1) := by decide +kernel
theorem dX3_isKept_31 : decode cX3_isKept 31 = .ok (.if_icmp .ge 51, 3) := by decide +kernel
theorem dX3_isKept_34 : decode cX3_isKept 34 = .ok (.aload_n 0, 1) := by decide +kernel
theorem dX3_isKept_35 : decode cX3_isKept 35 = .ok (.aload_n 1, 1) := by decide +kernel
theorem dX3_isKept_36 : decode cX3_isKept 36 = .ok (.getfield 55, 3) := by decide +kernel
theorem dX3_isKept_39 : decode cX3_isKept 39 = .ok (.iload 5, 2) := by decide +kernel
theorem dX3_isKept_41 : decode cX3_isKept 41 = .ok (.iaload, 1) := by decide +kernel
theorem dX3_isKept_42 : decode cX3_isKept 42 = .ok (.aload_n 1, 1) := by decide +kernel
theorem dX3_isKept_43 : decode cX3_isKept 43 = .ok (.getfield 45, 3) := by decide +kernel
theorem dX3_isKept_46 : decode cX3_isKept 46 = .ok (.iload_n 2, 1) := by decide +kernel
theorem dX3_isKept_47 : decode cX3_isKept 47 = .ok (.iaload, 1) := by decide +kernel
theorem dX3_isKept_48 : decode cX3_isKept 48 = .ok (.aload_n 3, 1) := by decide +kernel
theorem dX3_isKept_49 : decode cX3_isKept 49 = .ok (.aload 4, 2) := by decide +kernel
theorem dX3_isKept_51 : decode cX3_isKept 51 = .ok (.invokevirtual 58, 3) := by decide +kernel
theorem dX3_isKept_54 : decode cX3_isKept 54 = .ok (.aload_n 0, 1) := by decide +kernel
theorem dX3_isKept_55 : decode cX3_isKept 55 = .ok (.getfield 29, 3) := by decide +kernel
theorem dX3_isKept_58 : decode cX3_isKept 58 = .ok (.aload_n 0, 1) := by decide +kernel
theorem dX3_isKept_59 : decode cX3_isKept 59 = .ok (.getfield 22, 3) := by decide +kernel
theorem dX3_isKept_62 : decode cX3_isKept 62 = .ok (.aload_n 1, 1) := by decide +kernel
theorem dX3_isKept_63 : decode cX3_isKept 63 = .ok (.getfield 62, 3) := by decide +kernel
theorem dX3_isKept_66 : decode cX3_isKept 66 = .ok (.iload 5, 2) := by decide +kernel
theorem dX3_isKept_68 : decode cX3_isKept 68 = .ok (.iaload, 1) := by decide +kernel
theorem dX3_isKept_69 : decode cX3_isKept 69 = .ok (.aload_n 1, 1) := by decide +kernel
theorem dX3_isKept_70 : decode cX3_isKept 70 = .ok (.getfield 65, 3) := by decide +kernel
theorem dX3_isKept_73 : decode cX3_isKept 73 = .ok (.invokevirtual 68, 3) := by decide +kernel
theorem dX3_isKept_76 : decode cX3_isKept 76 = .ok (.iinc 5 1, 3) := by decide +kernel
theorem dX3_isKept_79 : decode cX3_isKept 79 = .ok (.goto (-58), 3) := by decide +kernel
theorem dX3_isKept_82 : decode cX3_isKept 82 = .ok (.aload_n 0, 1) := by decide +kernel
theorem dX3_isKept_83 : decode cX3_isKept 83 = .ok (.getfield 29, 3) := by decide +kernel
theorem dX3_isKept_86 : decode cX3_isKept 86 = .ok (.getfield 72, 3) := by decide +kernel
theorem dX3_isKept_89 : decode cX3_isKept 89 = .ok (.ifCond .ne 7, 3) := by decide +kernel
theorem dX3_isKept_92 : decode cX3_isKept 92 = .ok (.iconst 1, 1) := by decide +kernel
theorem dX3_isKept_93 : decode cX3_isKept 93 = .ok (.goto 4, 3) := by decide +kernel
theorem dX3_isKept_96 : decode cX3_isKept 96 = .ok (.iconst 0, 1) := by decide +kernel
theorem dX3_isKept_97 : decode cX3_isKept 97 = .ok (.ireturn, 1) := by decide +kernel
theorem dX3_bring_0 : decode cX3_bring 0 = .ok (.aload_n 3, 1) := by decide +kernel
theorem dX3_bring_1 : decode cX3_bring 1 = .ok (.getfield 75, 3) := by decide +kernel
theorem dX3_bring_4 : decode cX3_bring 4 = .ok (.getfield 65, 3) := by decide +kernel
theorem dX3_bring_7 : decode cX3_bring 7 = .ok (.istore 5, 2) := by decide +kernel
theorem dX3_bring_9 : decode cX3_bring 9 = .ok (.aload_n 0, 1) := by decide +kernel
theorem dX3_bring_10 : decode cX3_bring 10 = .ok (.getfield 22, 3) := by decide +kernel
theorem dX3_bring_13 : decode cX3_bring 13 = .ok (.iconst 1, 1) := by decide +kernel
theorem dX3_bring_14 : decode cX3_bring 14 = .ok (.invokevirtual 48, 3) := by decide +kernel
theorem dX3_bring_17 : decode cX3_bring 17 = .ok (.aload_n 0, 1) := by decide +kernel
theorem dX3_bring_18 : decode cX3_bring 18 = .ok (.getfield 22, 3) := by decide +kernel
theorem dX3_bring_21 : decode cX3_bring 21 = .ok (.iconst 0, 1) := by decide +kernel
theorem dX3_bring_22 : decode cX3_bring 22 = .ok (.iconst 1, 1) := by decide +kernel
theorem dX3_bring_23 : decode cX3_bring 23 = .ok (.iload 5, 2) := by decide +kernel
theorem dX3_bring_25 : decode cX3_bring 25 = .ok (.invokevirtual 81, 3) := by decide +kernel
theorem dX3_bring_28 : decode cX3_bring 28 = .ok (.iconst 0, 1) := by decide +kernel
theorem dX3_bring_29 : decode cX3_bring 29 = .ok (.istore 6, 2) := by decide +kernel
theorem dX3_bring_31 : decode cX3_bring 31 = .ok (.iload_n 1, 1) := by decide +kernel
theorem dX3_bring_32 : decode cX3_bring 32 = .ok (.iload_n 2, 1) := by decide +kernel
theorem dX3_bring_33 : decode cX3_bring 33 = .ok (.aload_n 0, 1) := by decide +kernel
theorem dX3_bring_34 : decode cX3_bring 34 = .ok (.getfield 32, 3) := by decide +kernel
theorem dX3_bring_37 : decode cX3_bring 37 = .ok (.invokestatic 85, 3) := by decide +kernel
theorem dX3_bring_40 : decode cX3_bring 40 = .ok (.istore 7, 2) := by decide +kernel
theorem dX3_bring_42 : decode cX3_bring 42 = .ok (.iconst 0, 1) := by decide +kernel
theorem dX3_bring_43 : decode cX3_bring 43 = .ok (.istore 8, 2) := by decide +kernel
theorem dX3_bring_45 : decode cX3_bring 45 = .ok (.iload 8, 2) := by decide +kernel
theorem dX3_bring_47 : decode cX3_bring 47 = .ok (.iload 7, 2) := by decide +kernel
theorem dX3_bring_49 : decode cX3_bring 49 = .ok (.if_icmp .ge 77, 3) := by decide +kernel
theorem dX3_bring_52 : decode cX3_bring 52 = .ok (.aload_n 0, 1) := by decide +kernel
theorem dX3_bring_53 : decode cX3_bring 53 = .ok (.getfield 32, 3) := by decide +kernel
theorem dX3_bring_56 : decode cX3_bring 56 = .ok (.iload 8, 2) := by decide +kernel
theorem dX3_bring_58 : decode cX3_bring 58 = .ok (.iaload, 1) := by decide +kernel
theorem dX3_bring_59 : decode cX3_bring 59 = .ok (.istore 9, 2) := by decide +kernel
theorem dX3_bring_61 : decode cX3_bring 61 = .ok (.iload 9, 2) := by decide +kernel
theorem dX3_bring_63 : decode cX3_bring 63 = .ok (.aload_n 0, 1) := by decide +kernel
theorem dX3_bring_64 : decode cX3_bring 64 = .ok (.getfield 11, 3) := by decide +kernel
theorem dX3_bring_67 : decode cX3_bring 67 = .ok (.arraylength, 1) := by decide +kernel
theorem dX3_bring_68 : decode cX3_bring 68 = .ok (.if_icmp .lt 9, 3) := by decide +kernel
theorem dX3_bring_71 : decode cX3_bring 71 = .ok (.iinc 6 1, 3) := by decide +kernel
theorem dX3_bring_74 : decode cX3_bring 74 = .ok (.goto 46, 3) := by decide +kernel
theorem dX3_bring_77 : decode cX3_bring 77 = .ok (.aload 4, 2) := by decide +kernel
theorem dX3_bring_79 : decode cX3_bring 79 = .ok (.aload_n 0, 1) := by decide +kernel
theorem dX3_bring_80 : decode cX3_bring 80 = .ok (.getfield 22, 3) := by decide +kernel
theorem dX3_bring_83 : decode cX3_bring 83 = .ok (.iload 6, 2) := by decide +kernel
theorem dX3_bring_85 : decode cX3_bring 85 = .ok (.aload_n 0, 1) := by decide +kernel
theorem dX3_bring_86 : decode cX3_bring 86 = .ok (.getfield 11, 3) := by decide +kernel
theorem dX3_bring_89 : decode cX3_bring 89 = .ok (.iload 9, 2) := by decide +kernel
theorem dX3_bring_91 : decode cX3_bring 91 = .ok (.aaload, 1) := by decide +kernel
theorem dX3_bring_92 : decode cX3_bring 92 = .ok (.aload_n 0, 1) := by decide +kernel
theorem dX3_bring_93 : decode cX3_bring 93 = .ok (.getfield 26, 3) := by decide +kernel
theorem dX3_bring_96 : decode cX3_bring 96 = .ok (.iload 5, 2) := by decide +kernel
theorem dX3_bring_98 : decode cX3_bring 98 = .ok (.invokevirtual 91, 3) := by decide +kernel
theorem dX3_bring_101 : decode cX3_bring 101 = .ok (.aload_n 3, 1) := by decide +kernel
theorem dX3_bring_102 : decode cX3_bring 102 = .ok (.aload_n 0, 1) := by decide +kernel
theorem dX3_bring_103 : decode cX3_bring 103 = .ok (.getfield 26, 3) := by decide +kernel
theorem dX3_bring_106 : decode cX3_bring 106 = .ok (.invokevirtual 95, 3) := by decide +kernel
theorem dX3_bring_109 : decode cX3_bring 109 = .ok (.aload_n 0, 1) := by decide +kernel
theorem dX3_bring_110 : decode cX3_bring 110 = .ok (.getfield 22, 3) := by decide +kernel
theorem dX3_bring_113 : decode cX3_bring 113 = .ok (.aload_n 0, 1) := by decide +kernel
theorem dX3_bring_114 : decode cX3_bring 114 = .ok (.getfield 26, 3) := by decide +kernel
theorem dX3_bring_117 : decode cX3_bring 117 = .ok (.invokevirtual 99, 3) := by decide +kernel
theorem dX3_bring_120 : decode cX3_bring 120 = .ok (.iinc 8 1, 3) := by decide +kernel
theorem dX3_bring_123 : decode cX3_bring 123 = .ok (.goto (-78), 3) := by decide +kernel
theorem dX3_bring_126 : decode cX3_bring 126 = .ok (.return_, 1) := by decide +kernel
theorem dX5_init_0 : decode cX5_init 0 = .ok (.aload_n 0, 1) := by decide +kernel
theorem dX5_init_1 : decode cX5_init 1 = .ok (.invokespecial 3, 3) := by decide +kernel
theorem dX5_init_4 : decode cX5_init 4 = .ok (.aload_n 0, 1) := by decide +kernel
theorem dX5_init_5 : decode cX5_init 5 = .ok (.bipush 8, 2) := by decide +kernel
theorem dX5_init_7 : decode cX5_init 7 = .ok (.bipush 8, 2) := by decide +kernel
theorem dX5_init_9 : decode cX5_init 9 = .ok (.multianewarray 9 2, 4) := by decide +kernel
theorem dX5_init_13 : decode cX5_init 13 = .ok (.putfield 11, 3) := by decide +kernel
theorem dX5_init_16 : decode cX5_init 16 = .ok (.aload_n 0, 1) := by decide +kernel
theorem dX5_init_17 : decode cX5_init 17 = .ok (.bipush 8, 2) := by decide +kernel
theorem dX5_init_19 : decode cX5_init 19 = .ok (.newarray .long, 2) := by decide +kernel
theorem dX5_init_21 : decode cX5_init 21 = .ok (.putfield 16, 3) := by decide +kernel
theorem dX5_init_24 : decode cX5_init 24 = .ok (.return_, 1) := by decide +kernel
theorem dX5_raise_0 : decode cX5_raise 0 = .ok (.iconst 1, 1) := by decide +kernel
theorem dX5_raise_1 : decode cX5_raise 1 = .ok (.istore_n 3, 1) := by decide +kernel
theorem dX5_raise_2 : decode cX5_raise 2 = .ok (.iload_n 3, 1) := by decide +kernel
theorem dX5_raise_3 : decode cX5_raise 3 = .ok (.iload_n 2, 1) := by decide +kernel
theorem dX5_raise_4 : decode cX5_raise 4 = .ok (.if_icmp .gt 90, 3) := by decide +kernel
theorem dX5_raise_7 : decode cX5_raise 7 = .ok (.aload_n 0, 1) := by decide +kernel
theorem dX5_raise_8 : decode cX5_raise 8 = .ok (.getfield 11, 3) := by decide +kernel
theorem dX5_raise_11 : decode cX5_raise 11 = .ok (.iconst 1, 1) := by decide +kernel
theorem dX5_raise_12 : decode cX5_raise 12 = .ok (.aaload, 1) := by decide +kernel
theorem dX5_raise_13 : decode cX5_raise 13 = .ok (.iload_n 3, 1) := by decide +kernel
theorem dX5_raise_14 : decode cX5_raise 14 = .ok (.aload_n 1, 1) := by decide +kernel
theorem dX5_raise_15 : decode cX5_raise 15 = .ok (.iload_n 3, 1) := by decide +kernel
theorem dX5_raise_16 : decode cX5_raise 16 = .ok (.iaload, 1) := by decide +kernel
theorem dX5_raise_17 : decode cX5_raise 17 = .ok (.i2l, 1) := by decide +kernel
theorem dX5_raise_18 : decode cX5_raise 18 = .ok (.lastore, 1) := by decide +kernel
theorem dX5_raise_19 : decode cX5_raise 19 = .ok (.iconst 2, 1) := by decide +kernel
theorem dX5_raise_20 : decode cX5_raise 20 = .ok (.istore 4, 2) := by decide +kernel
theorem dX5_raise_22 : decode cX5_raise 22 = .ok (.iload 4, 2) := by decide +kernel
theorem dX5_raise_24 : decode cX5_raise 24 = .ok (.iload_n 2, 1) := by decide +kernel
theorem dX5_raise_25 : decode cX5_raise 25 = .ok (.if_icmp .gt 63, 3) := by decide +kernel
theorem dX5_raise_28 : decode cX5_raise 28 = .ok (.lconst 0, 1) := by decide +kernel
theorem dX5_raise_29 : decode cX5_raise 29 = .ok (.lstore 5, 2) := by decide +kernel
theorem dX5_raise_31 : decode cX5_raise 31 = .ok (.iconst 1, 1) := by decide +kernel
theorem dX5_raise_32 : decode cX5_raise 32 = .ok (.istore 7, 2) := by decide +kernel
theorem dX5_raise_34 : decode cX5_raise 34 = .ok (.iload 7, 2) := by decide +kernel
theorem dX5_raise_36 : decode cX5_raise 36 = .ok (.iload_n 3, 1) := by decide +kernel
theorem dX5_raise_37 : decode cX5_raise 37 = .ok (.if_icmp .ge 34, 3) := by decide +kernel
theorem dX5_raise_40 : decode cX5_raise 40 = .ok (.lload 5, 2) := by decide +kernel
theorem dX5_raise_42 : decode cX5_raise 42 = .ok (.aload_n 1, 1) := by decide +kernel
theorem dX5_raise_43 : decode cX5_raise 43 = .ok (.iload 7, 2) := by decide +kernel
theorem dX5_raise_45 : decode cX5_raise 45 = .ok (.iaload, 1) := by decide +kernel
theorem dX5_raise_46 : decode cX5_raise 46 = .ok (.i2l, 1) := by decide +kernel
theorem dX5_raise_47 : decode cX5_raise 47 = .ok (.aload_n 0, 1) := by decide +kernel
theorem dX5_raise_48 : decode cX5_raise 48 = .ok (.getfield 11, 3) := by decide +kernel
theorem dX5_raise_51 : decode cX5_raise 51 = .ok (.iload 4, 2) := by decide +kernel
theorem dX5_raise_53 : decode cX5_raise 53 = .ok (.iconst 1, 1) := by decide +kernel
theorem dX5_raise_54 : decode cX5_raise 54 = .ok (.isub, 1) := by decide +kernel
theorem dX5_raise_55 : decode cX5_raise 55 = .ok (.aaload, 1) := by decide +kernel
theorem dX5_raise_56 : decode cX5_raise 56 = .ok (.iload_n 3, 1) := by decide +kernel
theorem dX5_raise_57 : decode cX5_raise 57 = .ok (.iload 7, 2) := by decide +kernel
theorem dX5_raise_59 : decode cX5_raise 59 = .ok (.isub, 1) := by decide +kernel
theorem dX5_raise_60 : decode cX5_raise 60 = .ok (.laload, 1) := by decide +kernel
theorem dX5_raise_61 : decode cX5_raise 61 = .ok (.lmul, 1) := by decide +kernel
theorem dX5_raise_62 : decode cX5_raise 62 = .ok (.ladd, 1) := by decide +kernel
theorem dX5_raise_63 : decode cX5_raise 63 = .ok (.lstore 5, 2) := by decide +kernel
theorem dX5_raise_65 : decode cX5_raise 65 = .ok (.iinc 7 1, 3) := by decide +kernel
theorem dX5_raise_68 : decode cX5_raise 68 = .ok (.goto (-34), 3) := by decide +kernel
theorem dX5_raise_71 : decode cX5_raise 71 = .ok (.aload_n 0, 1) := by decide +kernel
theorem dX5_raise_72 : decode cX5_raise 72 = .ok (.getfield 11, 3) := by decide +kernel
theorem dX5_raise_75 : decode cX5_raise 75 = .ok (.iload 4, 2) := by decide +kernel
theorem dX5_raise_77 : decode cX5_raise 77 = .ok (.aaload, 1) := by decide +kernel
theorem dX5_raise_78 : decode cX5_raise 78 = .ok (.iload_n 3, 1) := by decide +kernel
theorem dX5_raise_79 : decode cX5_raise 79 = .ok (.lload 5, 2) := by decide +kernel
theorem dX5_raise_81 : decode cX5_raise 81 = .ok (.lastore, 1) := by decide +kernel
theorem dX5_raise_82 : decode cX5_raise 82 = .ok (.iinc 4 1, 3) := by decide +kernel
theorem dX5_raise_85 : decode cX5_raise 85 = .ok (.goto (-63), 3) := by decide +kernel
theorem dX5_raise_88 : decode cX5_raise 88 = .ok (.iinc 3 1, 3) := by decide +kernel
theorem dX5_raise_91 : decode cX5_raise 91 = .ok (.goto (-89), 3) := by decide +kernel
theorem dX5_raise_94 : decode cX5_raise 94 = .ok (.return_, 1) := by decide +kernel
theorem dX5_invert_0 : decode cX5_invert 0 = .ok (.iconst 1, 1) := by decide +kernel
theorem dX5_invert_1 : decode cX5_invert 1 = .ok (.istore_n 2, 1) := by decide +kernel
theorem dX5_invert_2 : decode cX5_invert 2 = .ok (.iload_n 2, 1) := by decide +kernel
theorem dX5_invert_3 : decode cX5_invert 3 = .ok (.iload_n 1, 1) := by decide +kernel
theorem dX5_invert_4 : decode cX5_invert 4 = .ok (.if_icmp .gt 62, 3) := by decide +kernel
theorem dX5_invert_7 : decode cX5_invert 7 = .ok (.iload_n 2, 1) := by decide +kernel
theorem dX5_invert_8 : decode cX5_invert 8 = .ok (.iconst 1, 1) := by decide +kernel
theorem dX5_invert_9 : decode cX5_invert 9 = .ok (.if_icmp .ne 7, 3) := by decide +kernel
theorem dX5_invert_12 : decode cX5_invert 12 = .ok (.lconst 1, 1) := by decide +kernel
theorem dX5_invert_13 : decode cX5_invert 13 = .ok (.goto 4, 3) := by decide +kernel
theorem dX5_invert_16 : decode cX5_invert 16 = .ok (.lconst 0, 1) := by decide +kernel
theorem dX5_invert_17 : decode cX5_invert 17 = .ok (.lstore_n 3, 1) := by decide +kernel
theorem dX5_invert_18 : decode cX5_invert 18 = .ok (.iconst 1, 1) := by decide +kernel
theorem dX5_invert_19 : decode cX5_invert 19 = .ok (.istore 5, 2) := by decide +kernel
theorem dX5_invert_21 : decode cX5_invert 21 = .ok (.iload 5, 2) := by decide +kernel
theorem dX5_invert_23 : decode cX5_invert 23 = .ok (.iload_n 2, 1) := by decide +kernel
theorem dX5_invert_24 : decode cX5_invert 24 = .ok (.if_icmp .ge 29, 3) := by decide +kernel
theorem dX5_invert_27 : decode cX5_invert 27 = .ok (.lload_n 3, 1) := by decide +kernel
theorem dX5_invert_28 : decode cX5_invert 28 = .ok (.aload_n 0, 1) := by decide +kernel
theorem dX5_invert_29 : decode cX5_invert 29 = .ok (.getfield 16, 3) := by decide +kernel
theorem dX5_invert_32 : decode cX5_invert 32 = .ok (.iload 5, 2) := by decide +kernel
theorem dX5_invert_34 : decode cX5_invert 34 = .ok (.laload, 1) := by decide +kernel
theorem dX5_invert_35 : decode cX5_invert 35 = .ok (.aload_n 0, 1) := by decide +kernel
theorem dX5_invert_36 : decode cX5_invert 36 = .ok (.getfield 11, 3) := by decide +kernel
theorem dX5_invert_39 : decode cX5_invert 39 = .ok (.iload 5, 2) := by decide +kernel
theorem dX5_invert_41 : decode cX5_invert 41 = .ok (.aaload, 1) := by decide +kernel
theorem dX5_invert_42 : decode cX5_invert 42 = .ok (.iload_n 2, 1) := by decide +kernel
theorem dX5_invert_43 : decode cX5_invert 43 = .ok (.laload, 1) := by decide +kernel
theorem dX5_invert_44 : decode cX5_invert 44 = .ok (.lmul, 1) := by decide +kernel
theorem dX5_invert_45 : decode cX5_invert 45 = .ok (.lsub, 1) := by decide +kernel
theorem dX5_invert_46 : decode cX5_invert 46 = .ok (.lstore_n 3, 1) := by decide +kernel
theorem dX5_invert_47 : decode cX5_invert 47 = .ok (.iinc 5 1, 3) := by decide +kernel
theorem dX5_invert_50 : decode cX5_invert 50 = .ok (.goto (-29), 3) := by decide +kernel
theorem dX5_invert_53 : decode cX5_invert 53 = .ok (.aload_n 0, 1) := by decide +kernel
theorem dX5_invert_54 : decode cX5_invert 54 = .ok (.getfield 16, 3) := by decide +kernel
theorem dX5_invert_57 : decode cX5_invert 57 = .ok (.iload_n 2, 1) := by decide +kernel
theorem dX5_invert_58 : decode cX5_invert 58 = .ok (.lload_n 3, 1) := by decide +kernel
theorem dX5_invert_59 : decode cX5_invert 59 = .ok (.lastore, 1) := by decide +kernel
theorem dX5_invert_60 : decode cX5_invert 60 = .ok (.iinc 2 1, 3) := by decide +kernel
theorem dX5_invert_63 : decode cX5_invert 63 = .ok (.goto (-61), 3) := by decide +kernel
theorem dX5_invert_66 : decode cX5_invert 66 = .ok (.return_, 1) := by decide +kernel
theorem dX5_over_0 : decode cX5_over 0 = .ok (.lconst 0, 1) := by decide +kernel
theorem dX5_over_1 : decode cX5_over 1 = .ok (.lstore_n 3, 1) := by decide +kernel
theorem dX5_over_2 : decode cX5_over 2 = .ok (.iconst 1, 1) := by decide +kernel
theorem dX5_over_3 : decode cX5_over 3 = .ok (.istore 5, 2) := by decide +kernel
theorem dX5_over_5 : decode cX5_over 5 = .ok (.iload 5, 2) := by decide +kernel
theorem dX5_over_7 : decode cX5_over 7 = .ok (.iload_n 2, 1) := by decide +kernel
theorem dX5_over_8 : decode cX5_over 8 = .ok (.if_icmp .gt 27, 3) := by decide +kernel
theorem dX5_over_11 : decode cX5_over 11 = .ok (.lload_n 3, 1) := by decide +kernel
theorem dX5_over_12 : decode cX5_over 12 = .ok (.aload_n 1, 1) := by decide +kernel
theorem dX5_over_13 : decode cX5_over 13 = .ok (.iload 5, 2) := by decide +kernel
theorem dX5_over_15 : decode cX5_over 15 = .ok (.iaload, 1) := by decide +kernel
theorem dX5_over_16 : decode cX5_over 16 = .ok (.i2l, 1) := by decide +kernel
theorem dX5_over_17 : decode cX5_over 17 = .ok (.aload_n 0, 1) := by decide +kernel
theorem dX5_over_18 : decode cX5_over 18 = .ok (.getfield 11, 3) := by decide +kernel
theorem dX5_over_21 : decode cX5_over 21 = .ok (.iload 5, 2) := by decide +kernel
theorem dX5_over_23 : decode cX5_over 23 = .ok (.aaload, 1) := by decide +kernel
theorem dX5_over_24 : decode cX5_over 24 = .ok (.iload_n 2, 1) := by decide +kernel
theorem dX5_over_25 : decode cX5_over 25 = .ok (.laload, 1) := by decide +kernel
theorem dX5_over_26 : decode cX5_over 26 = .ok (.lmul, 1) := by decide +kernel
theorem dX5_over_27 : decode cX5_over 27 = .ok (.ladd, 1) := by decide +kernel
theorem dX5_over_28 : decode cX5_over 28 = .ok (.lstore_n 3, 1) := by decide +kernel
theorem dX5_over_29 : decode cX5_over 29 = .ok (.iinc 5 1, 3) := by decide +kernel
theorem dX5_over_32 : decode cX5_over 32 = .ok (.goto (-27), 3) := by decide +kernel
theorem dX5_over_35 : decode cX5_over 35 = .ok (.lload_n 3, 1) := by decide +kernel
theorem dX5_over_36 : decode cX5_over 36 = .ok (.lreturn, 1) := by decide +kernel
theorem dX7_init_0 : decode cX7_init 0 = .ok (.aload_n 0, 1) := by decide +kernel
theorem dX7_init_1 : decode cX7_init 1 = .ok (.invokespecial 3, 3) := by decide +kernel
theorem dX7_init_4 : decode cX7_init 4 = .ok (.aload_n 0, 1) := by decide +kernel
theorem dX7_init_5 : decode cX7_init 5 = .ok (.iconst 1, 1) := by decide +kernel
theorem dX7_init_6 : decode cX7_init 6 = .ok (.putfield 9, 3) := by decide +kernel
theorem dX7_init_9 : decode cX7_init 9 = .ok (.aload_n 0, 1) := by decide +kernel
theorem dX7_init_10 : decode cX7_init 10 = .ok (.sipush 729, 3) := by decide +kernel
theorem dX7_init_13 : decode cX7_init 13 = .ok (.newarray .int, 2) := by decide +kernel
theorem dX7_init_15 : decode cX7_init 15 = .ok (.putfield 15, 3) := by decide +kernel
theorem dX7_init_18 : decode cX7_init 18 = .ok (.return_, 1) := by decide +kernel
theorem dX7_clear_0 : decode cX7_clear 0 = .ok (.aload_n 0, 1) := by decide +kernel
theorem dX7_clear_1 : decode cX7_clear 1 = .ok (.iload_n 1, 1) := by decide +kernel
theorem dX7_clear_2 : decode cX7_clear 2 = .ok (.putfield 9, 3) := by decide +kernel
theorem dX7_clear_5 : decode cX7_clear 5 = .ok (.aload_n 0, 1) := by decide +kernel
theorem dX7_clear_6 : decode cX7_clear 6 = .ok (.getfield 15, 3) := by decide +kernel
theorem dX7_clear_9 : decode cX7_clear 9 = .ok (.iconst 0, 1) := by decide +kernel
theorem dX7_clear_10 : decode cX7_clear 10 = .ok (.invokestatic 19, 3) := by decide +kernel
theorem dX7_clear_13 : decode cX7_clear 13 = .ok (.return_, 1) := by decide +kernel
theorem dX7_copy_0 : decode cX7_copy 0 = .ok (.aload_n 0, 1) := by decide +kernel
theorem dX7_copy_1 : decode cX7_copy 1 = .ok (.aload_n 1, 1) := by decide +kernel
theorem dX7_copy_2 : decode cX7_copy 2 = .ok (.getfield 9, 3) := by decide +kernel
theorem dX7_copy_5 : decode cX7_copy 5 = .ok (.putfield 9, 3) := by decide +kernel
theorem dX7_copy_8 : decode cX7_copy 8 = .ok (.aload_n 1, 1) := by decide +kernel
theorem dX7_copy_9 : decode cX7_copy 9 = .ok (.getfield 15, 3) := by decide +kernel
theorem dX7_copy_12 : decode cX7_copy 12 = .ok (.iconst 0, 1) := by decide +kernel
theorem dX7_copy_13 : decode cX7_copy 13 = .ok (.aload_n 0, 1) := by decide +kernel
theorem dX7_copy_14 : decode cX7_copy 14 = .ok (.getfield 15, 3) := by decide +kernel
theorem dX7_copy_17 : decode cX7_copy 17 = .ok (.iconst 0, 1) := by decide +kernel
theorem dX7_copy_18 : decode cX7_copy 18 = .ok (.aload_n 0, 1) := by decide +kernel
theorem dX7_copy_19 : decode cX7_copy 19 = .ok (.getfield 15, 3) := by decide +kernel
theorem dX7_copy_22 : decode cX7_copy 22 = .ok (.arraylength, 1) := by decide +kernel
theorem dX7_copy_23 : decode cX7_copy 23 = .ok (.invokestatic 25, 3) := by decide +kernel
theorem dX7_copy_26 : decode cX7_copy 26 = .ok (.return_, 1) := by decide +kernel
theorem dX7_set_0 : decode cX7_set 0 = .ok (.iload_n 1, 1) := by decide +kernel
theorem dX7_set_1 : decode cX7_set 1 = .ok (.ifCond .lt 32, 3) := by decide +kernel
theorem dX7_set_4 : decode cX7_set 4 = .ok (.iload_n 1, 1) := by decide +kernel
theorem dX7_set_5 : decode cX7_set 5 = .ok (.iconst 3, 1) := by decide +kernel
theorem dX7_set_6 : decode cX7_set 6 = .ok (.if_icmp .ge 27, 3) := by decide +kernel
theorem dX7_set_9 : decode cX7_set 9 = .ok (.iload_n 2, 1) := by decide +kernel
theorem dX7_set_10 : decode cX7_set 10 = .ok (.ifCond .lt 23, 3) := by decide +kernel
theorem dX7_set_13 : decode cX7_set 13 = .ok (.iload_n 2, 1) := by decide +kernel
theorem dX7_set_14 : decode cX7_set 14 = .ok (.sipush 243, 3) := by decide +kernel
theorem dX7_set_17 : decode cX7_set 17 = .ok (.if_icmp .ge 16, 3) := by decide +kernel
theorem dX7_set_20 : decode cX7_set 20 = .ok (.aload_n 0, 1) := by decide +kernel
theorem dX7_set_21 : decode cX7_set 21 = .ok (.getfield 15, 3) := by decide +kernel
theorem dX7_set_24 : decode cX7_set 24 = .ok (.iload_n 1, 1) := by decide +kernel
theorem dX7_set_25 : decode cX7_set 25 = .ok (.sipush 243, 3) := by decide +kernel
theorem dX7_set_28 : decode cX7_set 28 = .ok (.imul, 1) := by decide +kernel
theorem dX7_set_29 : decode cX7_set 29 = .ok (.iload_n 2, 1) := by decide +kernel
theorem dX7_set_30 : decode cX7_set 30 = .ok (.iadd, 1) := by decide +kernel
theorem dX7_set_31 : decode cX7_set 31 = .ok (.iload_n 3, 1) := by decide +kernel
theorem dX7_set_32 : decode cX7_set 32 = .ok (.iastore, 1) := by decide +kernel
theorem dX7_set_33 : decode cX7_set 33 = .ok (.return_, 1) := by decide +kernel
theorem dX7_get_0 : decode cX7_get 0 = .ok (.iload_n 1, 1) := by decide +kernel
theorem dX7_get_1 : decode cX7_get 1 = .ok (.ifCond .lt 34, 3) := by decide +kernel
theorem dX7_get_4 : decode cX7_get 4 = .ok (.iload_n 1, 1) := by decide +kernel
theorem dX7_get_5 : decode cX7_get 5 = .ok (.iconst 3, 1) := by decide +kernel
theorem dX7_get_6 : decode cX7_get 6 = .ok (.if_icmp .ge 29, 3) := by decide +kernel
theorem dX7_get_9 : decode cX7_get 9 = .ok (.iload_n 2, 1) := by decide +kernel
theorem dX7_get_10 : decode cX7_get 10 = .ok (.ifCond .lt 25, 3) := by decide +kernel
theorem dX7_get_13 : decode cX7_get 13 = .ok (.iload_n 2, 1) := by decide +kernel
theorem dX7_get_14 : decode cX7_get 14 = .ok (.sipush 243, 3) := by decide +kernel
theorem dX7_get_17 : decode cX7_get 17 = .ok (.if_icmp .ge 18, 3) := by decide +kernel
theorem dX7_get_20 : decode cX7_get 20 = .ok (.aload_n 0, 1) := by decide +kernel
theorem dX7_get_21 : decode cX7_get 21 = .ok (.getfield 15, 3) := by decide +kernel
theorem dX7_get_24 : decode cX7_get 24 = .ok (.iload_n 1, 1) := by decide +kernel
theorem dX7_get_25 : decode cX7_get 25 = .ok (.sipush 243, 3) := by decide +kernel
theorem dX7_get_28 : decode cX7_get 28 = .ok (.imul, 1) := by decide +kernel
theorem dX7_get_29 : decode cX7_get 29 = .ok (.iload_n 2, 1) := by decide +kernel
theorem dX7_get_30 : decode cX7_get 30 = .ok (.iadd, 1) := by decide +kernel
theorem dX7_get_31 : decode cX7_get 31 = .ok (.iaload, 1) := by decide +kernel
theorem dX7_get_32 : decode cX7_get 32 = .ok (.goto 4, 3) := by decide +kernel
theorem dX7_get_35 : decode cX7_get 35 = .ok (.iconst 0, 1) := by decide +kernel
theorem dX7_get_36 : decode cX7_get 36 = .ok (.ireturn, 1) := by decide +kernel
