theorem dX4_init_0 : decode cX4_init 0 = .ok (.aload_n 0, 1) := by decide +kernel
theorem dX4_init_1 : decode cX4_init 1 = .ok (.invokespecial 3, 3) := by decide +kernel
theorem dX4_init_4 : decode cX4_init 4 = .ok (.aload_n 0, 1) := by decide +kernel
theorem dX4_init_5 : decode cX4_init 5 = .ok (.sipush 941, 3) := by decide +kernel
theorem dX4_init_8 : decode cX4_init 8 = .ok (.newarray .int, 2) := by decide +kernel
theorem dX4_init_10 : decode cX4_init 10 = .ok (.putfield 9, 3) := by decide +kernel
theorem dX4_init_13 : decode cX4_init 13 = .ok (.aload_n 0, 1) := by decide +kernel
theorem dX4_init_14 : decode cX4_init 14 = .ok (.sipush 941, 3) := by decide +kernel
theorem dX4_init_17 : decode cX4_init 17 = .ok (.newarray .int, 2) := by decide +kernel
theorem dX4_init_19 : decode cX4_init 19 = .ok (.putfield 15, 3) := by decide +kernel
theorem dX4_init_22 : decode cX4_init 22 = .ok (.aload_n 0, 1) := by decide +kernel
theorem dX4_init_23 : decode cX4_init 23 = .ok (.sipush 941, 3) := by decide +kernel
theorem dX4_init_26 : decode cX4_init 26 = .ok (.newarray .long, 2) := by decide +kernel
theorem dX4_init_28 : decode cX4_init 28 = .ok (.putfield 18, 3) := by decide +kernel
theorem dX4_init_31 : decode cX4_init 31 = .ok (.aload_n 0, 1) := by decide +kernel
theorem dX4_init_32 : decode cX4_init 32 = .ok (.sipush 480, 3) := by decide +kernel
theorem dX4_init_35 : decode cX4_init 35 = .ok (.newarray .int, 2) := by decide +kernel
theorem dX4_init_37 : decode cX4_init 37 = .ok (.putfield 22, 3) := by decide +kernel
theorem dX4_init_40 : decode cX4_init 40 = .ok (.aload_n 0, 1) := by decide +kernel
theorem dX4_init_41 : decode cX4_init 41 = .ok (.sipush 480, 3) := by decide +kernel
theorem dX4_init_44 : decode cX4_init 44 = .ok (.newarray .int, 2) := by decide +kernel
theorem dX4_init_46 : decode cX4_init 46 = .ok (.putfield 25, 3) := by decide +kernel
theorem dX4_init_49 : decode cX4_init 49 = .ok (.aload_n 0, 1) := by decide +kernel
theorem dX4_init_50 : decode cX4_init 50 = .ok (.new 28, 3) := by decide +kernel
theorem dX4_init_53 : decode cX4_init 53 = .ok (.dup, 1) := by decide +kernel
theorem dX4_init_54 : decode cX4_init 54 = .ok (.invokespecial 30, 3) := by decide +kernel
theorem dX4_init_57 : decode cX4_init 57 = .ok (.putfield 31, 3) := by decide +kernel
theorem dX4_init_60 : decode cX4_init 60 = .ok (.return_, 1) := by decide +kernel
theorem dX4_begin_0 : decode cX4_begin 0 = .ok (.iload_n 2, 1) := by decide +kernel
theorem dX4_begin_1 : decode cX4_begin 1 = .ok (.aload_n 1, 1) := by decide +kernel
theorem dX4_begin_2 : decode cX4_begin 2 = .ok (.arraylength, 1) := by decide +kernel
theorem dX4_begin_3 : decode cX4_begin 3 = .ok (.invokestatic 35, 3) := by decide +kernel
theorem dX4_begin_6 : decode cX4_begin 6 = .ok (.istore 4, 2) := by decide +kernel
theorem dX4_begin_8 : decode cX4_begin 8 = .ok (.iload 4, 2) := by decide +kernel
theorem dX4_begin_10 : decode cX4_begin 10 = .ok (.iload_n 3, 1) := by decide +kernel
theorem dX4_begin_11 : decode cX4_begin 11 = .ok (.invokestatic 35, 3) := by decide +kernel
theorem dX4_begin_14 : decode cX4_begin 14 = .ok (.istore 5, 2) := by decide +kernel
theorem dX4_begin_16 : decode cX4_begin 16 = .ok (.iconst 0, 1) := by decide +kernel
theorem dX4_begin_17 : decode cX4_begin 17 = .ok (.istore 6, 2) := by decide +kernel
theorem dX4_begin_19 : decode cX4_begin 19 = .ok (.aload_n 0, 1) := by decide +kernel
theorem dX4_begin_20 : decode cX4_begin 20 = .ok (.iconst 0, 1) := by decide +kernel
theorem dX4_begin_21 : decode cX4_begin 21 = .ok (.putfield 41, 3) := by decide +kernel
theorem dX4_begin_24 : decode cX4_begin 24 = .ok (.iload 6, 2) := by decide +kernel
theorem dX4_begin_26 : decode cX4_begin 26 = .ok (.iload 5, 2) := by decide +kernel
theorem dX4_begin_28 : decode cX4_begin 28 = .ok (.if_icmp .ge 96, 3) := by decide +kernel
theorem dX4_begin_31 : decode cX4_begin 31 = .ok (.iload 6, 2) := by decide +kernel
theorem dX4_begin_33 : decode cX4_begin 33 = .ok (.iconst 1, 1) := by decide +kernel
theorem dX4_begin_34 : decode cX4_begin 34 = .ok (.iadd, 1) := by decide +kernel
theorem dX4_begin_35 : decode cX4_begin 35 = .ok (.istore 7, 2) := by decide +kernel
theorem dX4_begin_37 : decode cX4_begin 37 = .ok (.aload_n 1, 1) := by decide +kernel
theorem dX4_begin_38 : decode cX4_begin 38 = .ok (.iload 6, 2) := by decide +kernel
theorem dX4_begin_40 : decode cX4_begin 40 = .ok (.baload, 1) := by decide +kernel
theorem dX4_begin_41 : decode cX4_begin 41 = .ok (.invokestatic 45, 3) := by decide +kernel
theorem dX4_begin_44 : decode cX4_begin 44 = .ok (.ifCond .ne 13, 3) := by decide +kernel
theorem dX4_begin_47 : decode cX4_begin 47 = .ok (.aload_n 1, 1) := by decide +kernel
theorem dX4_begin_48 : decode cX4_begin 48 = .ok (.iload 6, 2) := by decide +kernel
theorem dX4_begin_50 : decode cX4_begin 50 = .ok (.baload, 1) := by decide +kernel
theorem dX4_begin_51 : decode cX4_begin 51 = .ok (.invokestatic 49, 3) := by decide +kernel
theorem dX4_begin_54 : decode cX4_begin 54 = .ok (.ifCond .eq 36, 3) := by decide +kernel
theorem dX4_begin_57 : decode cX4_begin 57 = .ok (.iload 7, 2) := by decide +kernel
theorem dX4_begin_59 : decode cX4_begin 59 = .ok (.iload 4, 2) := by decide +kernel
theorem dX4_begin_61 : decode cX4_begin 61 = .ok (.if_icmp .ge 29, 3) := by decide +kernel
theorem dX4_begin_64 : decode cX4_begin 64 = .ok (.aload_n 1, 1) := by decide +kernel
theorem dX4_begin_65 : decode cX4_begin 65 = .ok (.iload 7, 2) := by decide +kernel
theorem dX4_begin_67 : decode cX4_begin 67 = .ok (.baload, 1) := by decide +kernel
theorem dX4_begin_68 : decode cX4_begin 68 = .ok (.invokestatic 45, 3) := by decide +kernel
theorem dX4_begin_71 : decode cX4_begin 71 = .ok (.ifCond .ne 13, 3) := by decide +kernel
theorem dX4_begin_74 : decode cX4_begin 74 = .ok (.aload_n 1, 1) := by decide +kernel
theorem dX4_begin_75 : decode cX4_begin 75 = .ok (.iload 7, 2) := by decide +kernel
theorem dX4_begin_77 : decode cX4_begin 77 = .ok (.baload, 1) := by decide +kernel
theorem dX4_begin_78 : decode cX4_begin 78 = .ok (.invokestatic 49, 3) := by decide +kernel
theorem dX4_begin_81 : decode cX4_begin 81 = .ok (.ifCond .eq 9, 3) := by decide +kernel
theorem dX4_begin_84 : decode cX4_begin 84 = .ok (.iinc 7 1, 3) := by decide +kernel
theorem dX4_begin_87 : decode cX4_begin 87 = .ok (.goto (-30), 3) := by decide +kernel
theorem dX4_begin_90 : decode cX4_begin 90 = .ok (.aload_n 1, 1) := by decide +kernel
theorem dX4_begin_91 : decode cX4_begin 91 = .ok (.iload 6, 2) := by decide +kernel
theorem dX4_begin_93 : decode cX4_begin 93 = .ok (.baload, 1) := by decide +kernel
theorem dX4_begin_94 : decode cX4_begin 94 = .ok (.bipush 32, 2) := by decide +kernel
theorem dX4_begin_96 : decode cX4_begin 96 = .ok (.if_icmp .eq 21, 3) := by decide +kernel
theorem dX4_begin_99 : decode cX4_begin 99 = .ok (.aload_n 1, 1) := by decide +kernel
theorem dX4_begin_100 : decode cX4_begin 100 = .ok (.iload 6, 2) := by decide +kernel
theorem dX4_begin_102 : decode cX4_begin 102 = .ok (.baload, 1) := by decide +kernel
theorem dX4_begin_103 : decode cX4_begin 103 = .ok (.bipush 10, 2) := by decide +kernel
theorem dX4_begin_105 : decode cX4_begin 105 = .ok (.if_icmp .eq 12, 3) := by decide +kernel
theorem dX4_begin_108 : decode cX4_begin 108 = .ok (.aload_n 0, 1) := by decide +kernel
theorem dX4_begin_109 : decode cX4_begin 109 = .ok (.aload_n 1, 1) := by decide +kernel
theorem dX4_begin_110 : decode cX4_begin 110 = .ok (.iload 6, 2) := by decide +kernel
theorem dX4_begin_112 : decode cX4_begin 112 = .ok (.iload 7, 2) := by decide +kernel
theorem dX4_begin_114 : decode cX4_begin 114 = .ok (.invokevirtual 52, 3) := by decide +kernel
theorem dX4_begin_117 : decode cX4_begin 117 = .ok (.iload 7, 2) := by decide +kernel
theorem dX4_begin_119 : decode cX4_begin 119 = .ok (.istore 6, 2) := by decide +kernel
theorem dX4_begin_121 : decode cX4_begin 121 = .ok (.goto (-97), 3) := by decide +kernel
theorem dX4_begin_124 : decode cX4_begin 124 = .ok (.aload_n 0, 1) := by decide +kernel
theorem dX4_begin_125 : decode cX4_begin 125 = .ok (.getfield 9, 3) := by decide +kernel
theorem dX4_begin_128 : decode cX4_begin 128 = .ok (.aload_n 0, 1) := by decide +kernel
theorem dX4_begin_129 : decode cX4_begin 129 = .ok (.getfield 41, 3) := by decide +kernel
theorem dX4_begin_132 : decode cX4_begin 132 = .ok (.iload 4, 2) := by decide +kernel
theorem dX4_begin_134 : decode cX4_begin 134 = .ok (.iload_n 3, 1) := by decide +kernel
theorem dX4_begin_135 : decode cX4_begin 135 = .ok (.if_icmp .le 7, 3) := by decide +kernel
theorem dX4_begin_138 : decode cX4_begin 138 = .ok (.iconst 1, 1) := by decide +kernel
theorem dX4_begin_139 : decode cX4_begin 139 = .ok (.goto 4, 3) := by decide +kernel
theorem dX4_begin_142 : decode cX4_begin 142 = .ok (.iconst 0, 1) := by decide +kernel
theorem dX4_begin_143 : decode cX4_begin 143 = .ok (.iastore, 1) := by decide +kernel
theorem dX4_begin_144 : decode cX4_begin 144 = .ok (.aload_n 0, 1) := by decide +kernel
theorem dX4_begin_145 : decode cX4_begin 145 = .ok (.getfield 15, 3) := by decide +kernel
theorem dX4_begin_148 : decode cX4_begin 148 = .ok (.aload_n 0, 1) := by decide +kernel
theorem dX4_begin_149 : decode cX4_begin 149 = .ok (.getfield 41, 3) := by decide +kernel
theorem dX4_begin_152 : decode cX4_begin 152 = .ok (.iload 5, 2) := by decide +kernel
theorem dX4_begin_154 : decode cX4_begin 154 = .ok (.iastore, 1) := by decide +kernel
theorem dX4_begin_155 : decode cX4_begin 155 = .ok (.aload_n 0, 1) := by decide +kernel
theorem dX4_begin_156 : decode cX4_begin 156 = .ok (.dup, 1) := by decide +kernel
theorem dX4_begin_157 : decode cX4_begin 157 = .ok (.getfield 41, 3) := by decide +kernel
theorem dX4_begin_160 : decode cX4_begin 160 = .ok (.iconst 1, 1) := by decide +kernel
theorem dX4_begin_161 : decode cX4_begin 161 = .ok (.iadd, 1) := by decide +kernel
theorem dX4_begin_162 : decode cX4_begin 162 = .ok (.putfield 41, 3) := by decide +kernel
theorem dX4_begin_165 : decode cX4_begin 165 = .ok (.aload_n 0, 1) := by decide +kernel
theorem dX4_begin_166 : decode cX4_begin 166 = .ok (.iconst 0, 1) := by decide +kernel
theorem dX4_begin_167 : decode cX4_begin 167 = .ok (.putfield 56, 3) := by decide +kernel
theorem dX4_begin_170 : decode cX4_begin 170 = .ok (.aload_n 0, 1) := by decide +kernel
theorem dX4_begin_171 : decode cX4_begin 171 = .ok (.iconst 0, 1) := by decide +kernel
theorem dX4_begin_172 : decode cX4_begin 172 = .ok (.putfield 59, 3) := by decide +kernel
theorem dX4_begin_175 : decode cX4_begin 175 = .ok (.aload_n 0, 1) := by decide +kernel
theorem dX4_begin_176 : decode cX4_begin 176 = .ok (.iconst (-1), 1) := by decide +kernel
theorem dX4_begin_177 : decode cX4_begin 177 = .ok (.putfield 62, 3) := by decide +kernel
theorem dX4_begin_180 : decode cX4_begin 180 = .ok (.aload_n 0, 1) := by decide +kernel
theorem dX4_begin_181 : decode cX4_begin 181 = .ok (.invokevirtual 65, 3) := by decide +kernel
theorem dX4_begin_184 : decode cX4_begin 184 = .ok (.return_, 1) := by decide +kernel
theorem dX4_isSmall_0 : decode cX4_isSmall 0 = .ok (.iload_n 0, 1) := by decide +kernel
theorem dX4_isSmall_1 : decode cX4_isSmall 1 = .ok (.bipush 97, 2) := by decide +kernel
theorem dX4_isSmall_3 : decode cX4_isSmall 3 = .ok (.if_icmp .lt 13, 3) := by decide +kernel
theorem dX4_isSmall_6 : decode cX4_isSmall 6 = .ok (.iload_n 0, 1) := by decide +kernel
theorem dX4_isSmall_7 : decode cX4_isSmall 7 = .ok (.bipush 122, 2) := by decide +kernel
theorem dX4_isSmall_9 : decode cX4_isSmall 9 = .ok (.if_icmp .gt 7, 3) := by decide +kernel
theorem dX4_isSmall_12 : decode cX4_isSmall 12 = .ok (.iconst 1, 1) := by decide +kernel
theorem dX4_isSmall_13 : decode cX4_isSmall 13 = .ok (.goto 4, 3) := by decide +kernel
theorem dX4_isSmall_16 : decode cX4_isSmall 16 = .ok (.iconst 0, 1) := by decide +kernel
theorem dX4_isSmall_17 : decode cX4_isSmall 17 = .ok (.ireturn, 1) := by decide +kernel
theorem dX4_isDigit_0 : decode cX4_isDigit 0 = .ok (.iload_n 0, 1) := by decide +kernel
theorem dX4_isDigit_1 : decode cX4_isDigit 1 = .ok (.bipush 48, 2) := by decide +kernel
theorem dX4_isDigit_3 : decode cX4_isDigit 3 = .ok (.if_icmp .lt 13, 3) := by decide +kernel
theorem dX4_isDigit_6 : decode cX4_isDigit 6 = .ok (.iload_n 0, 1) := by decide +kernel
theorem dX4_isDigit_7 : decode cX4_isDigit 7 = .ok (.bipush 57, 2) := by decide +kernel
theorem dX4_isDigit_9 : decode cX4_isDigit 9 = .ok (.if_icmp .gt 7, 3) := by decide +kernel
theorem dX4_isDigit_12 : decode cX4_isDigit 12 = .ok (.iconst 1, 1) := by decide +kernel
theorem dX4_isDigit_13 : decode cX4_isDigit 13 = .ok (.goto 4, 3) := by decide +kernel
theorem dX4_isDigit_16 : decode cX4_isDigit 16 = .ok (.iconst 0, 1) := by decide +kernel
theorem dX4_isDigit_17 : decode cX4_isDigit 17 = .ok (.ireturn, 1) := by decide +kernel
theorem dX4_isSign_0 : decode cX4_isSign 0 = .ok (.iload_n 0, 1) := by decide +kernel
theorem dX4_isSign_1 : decode cX4_isSign 1 = .ok (.bipush 59, 2) := by decide +kernel
theorem dX4_isSign_3 : decode cX4_isSign 3 = .ok (.if_icmp .eq 39, 3) := by decide +kernel
theorem dX4_isSign_6 : decode cX4_isSign 6 = .ok (.iload_n 0, 1) := by decide +kernel
theorem dX4_isSign_7 : decode cX4_isSign 7 = .ok (.bipush 40, 2) := by decide +kernel
theorem dX4_isSign_9 : decode cX4_isSign 9 = .ok (.if_icmp .eq 33, 3) := by decide +kernel
theorem dX4_isSign_12 : decode cX4_isSign 12 = .ok (.iload_n 0, 1) := by decide +kernel
theorem dX4_isSign_13 : decode cX4_isSign 13 = .ok (.bipush 41, 2) := by decide +kernel
theorem dX4_isSign_15 : decode cX4_isSign 15 = .ok (.if_icmp .eq 27, 3) := by decide +kernel
theorem dX4_isSign_18 : decode cX4_isSign 18 = .ok (.iload_n 0, 1) := by decide +kernel
theorem dX4_isSign_19 : decode cX4_isSign 19 = .ok (.bipush 44, 2) := by decide +kernel
theorem dX4_isSign_21 : decode cX4_isSign 21 = .ok (.if_icmp .eq 21, 3) := by decide +kernel
theorem dX4_isSign_24 : decode cX4_isSign 24 = .ok (.iload_n 0, 1) := by decide +kernel
theorem dX4_isSign_25 : decode cX4_isSign 25 = .ok (.bipush 43, 2) := by decide +kernel
theorem dX4_isSign_27 : decode cX4_isSign 27 = .ok (.if_icmp .eq 15, 3) := by decide +kernel
theorem dX4_isSign_30 : decode cX4_isSign 30 = .ok (.iload_n 0, 1) := by decide +kernel
theorem dX4_isSign_31 : decode cX4_isSign 31 = .ok (.bipush 45, 2) := by decide +kernel
theorem dX4_isSign_33 : decode cX4_isSign 33 = .ok (.if_icmp .eq 9, 3) := by decide +kernel
theorem dX4_isSign_36 : decode cX4_isSign 36 = .ok (.iload_n 0, 1) := by decide +kernel
theorem dX4_isSign_37 : decode cX4_isSign 37 = .ok (.bipush 61, 2) := by decide +kernel
theorem dX4_isSign_39 : decode cX4_isSign 39 = .ok (.if_icmp .ne 7, 3) := by decide +kernel
theorem dX4_isSign_42 : decode cX4_isSign 42 = .ok (.iconst 1, 1) := by decide +kernel
theorem dX4_isSign_43 : decode cX4_isSign 43 = .ok (.goto 4, 3) := by decide +kernel
theorem dX4_isSign_46 : decode cX4_isSign 46 = .ok (.iconst 0, 1) := by decide +kernel
theorem dX4_isSign_47 : decode cX4_isSign 47 = .ok (.ireturn, 1) := by decide +kernel
theorem dX4_addToken_0 : decode cX4_addToken 0 = .ok (.aload_n 0, 1) := by decide +kernel
theorem dX4_addToken_1 : decode cX4_addToken 1 = .ok (.getfield 41, 3) := by decide +kernel
theorem dX4_addToken_4 : decode cX4_addToken 4 = .ok (.sipush 940, 3) := by decide +kernel
theorem dX4_addToken_7 : decode cX4_addToken 7 = .ok (.if_icmp .lt 4, 3) := by decide +kernel
theorem dX4_addToken_10 : decode cX4_addToken 10 = .ok (.return_, 1) := by decide +kernel
theorem dX4_addToken_11 : decode cX4_addToken 11 = .ok (.iconst 0, 1) := by decide +kernel
theorem dX4_addToken_12 : decode cX4_addToken 12 = .ok (.istore 4, 2) := by decide +kernel
theorem dX4_addToken_14 : decode cX4_addToken 14 = .ok (.iconst 0, 1) := by decide +kernel
theorem dX4_addToken_15 : decode cX4_addToken 15 = .ok (.istore 5, 2) := by decide +kernel
theorem dX4_addToken_17 : decode cX4_addToken 17 = .ok (.lconst 0, 1) := by decide +kernel
theorem dX4_addToken_18 : decode cX4_addToken 18 = .ok (.lstore 6, 2) := by decide +kernel
theorem dX4_addToken_20 : decode cX4_addToken 20 = .ok (.iload_n 2, 1) := by decide +kernel
theorem dX4_addToken_21 : decode cX4_addToken 21 = .ok (.istore 8, 2) := by decide +kernel
theorem dX4_addToken_23 : decode cX4_addToken 23 = .ok (.iload 8, 2) := by decide +kernel
theorem dX4_addToken_25 : decode cX4_addToken 25 = .ok (.iload_n 3, 1) := by decide +kernel
theorem dX4_addToken_26 : decode cX4_addToken 26 = .ok (.if_icmp .ge 69, 3) := by decide +kernel
theorem dX4_addToken_29 : decode cX4_addToken 29 = .ok (.aload_n 1, 1) := by decide +kernel
theorem dX4_addToken_30 : decode cX4_addToken 30 = .ok (.iload 8, 2) := by decide +kernel
theorem dX4_addToken_32 : decode cX4_addToken 32 = .ok (.baload, 1) := by decide +kernel
theorem dX4_addToken_33 : decode cX4_addToken 33 = .ok (.invokestatic 45, 3) := by decide +kernel
theorem dX4_addToken_36 : decode cX4_addToken 36 = .ok (.ifCond .eq 22, 3) := by decide +kernel
theorem dX4_addToken_39 : decode cX4_addToken 39 = .ok (.iinc 4 1, 3) := by decide +kernel
theorem dX4_addToken_42 : decode cX4_addToken 42 = .ok (.lload 6, 2) := by decide +kernel
theorem dX4_addToken_44 : decode cX4_addToken 44 = .ok (.bipush 8, 2) := by decide +kernel
theorem dX4_addToken_46 : decode cX4_addToken 46 = .ok (.lshl, 1) := by decide +kernel
theorem dX4_addToken_47 : decode cX4_addToken 47 = .ok (.aload_n 1, 1) := by decide +kernel
theorem dX4_addToken_48 : decode cX4_addToken 48 = .ok (.iload 8, 2) := by decide +kernel
theorem dX4_addToken_50 : decode cX4_addToken 50 = .ok (.baload, 1) := by decide +kernel
theorem dX4_addToken_51 : decode cX4_addToken 51 = .ok (.i2l, 1) := by decide +kernel
theorem dX4_addToken_52 : decode cX4_addToken 52 = .ok (.lor, 1) := by decide +kernel
theorem dX4_addToken_53 : decode cX4_addToken 53 = .ok (.lstore 6, 2) := by decide +kernel
theorem dX4_addToken_55 : decode cX4_addToken 55 = .ok (.goto 34, 3) := by decide +kernel
theorem dX4_addToken_58 : decode cX4_addToken 58 = .ok (.aload_n 1, 1) := by decide +kernel
theorem dX4_addToken_59 : decode cX4_addToken 59 = .ok (.iload 8, 2) := by decide +kernel
theorem dX4_addToken_61 : decode cX4_addToken 61 = .ok (.baload, 1) := by decide +kernel
theorem dX4_addToken_62 : decode cX4_addToken 62 = .ok (.invokestatic 49, 3) := by decide +kernel
theorem dX4_addToken_65 : decode cX4_addToken 65 = .ok (.ifCond .eq 24, 3) := by decide +kernel
theorem dX4_addToken_68 : decode cX4_addToken 68 = .ok (.iinc 5 1, 3) := by decide +kernel
theorem dX4_addToken_71 : decode cX4_addToken 71 = .ok (.lload 6, 2) := by decide +kernel
theorem dX4_addToken_73 : decode cX4_addToken 73 = .ok (.ldc2_w 68, 3) := by decide +kernel
theorem dX4_addToken_76 : decode cX4_addToken 76 = .ok (.lmul, 1) := by decide +kernel
theorem dX4_addToken_77 : decode cX4_addToken 77 = .ok (.aload_n 1, 1) := by decide +kernel
theorem dX4_addToken_78 : decode cX4_addToken 78 = .ok (.iload 8, 2) := by decide +kernel
theorem dX4_addToken_80 : decode cX4_addToken 80 = .ok (.baload, 1) := by decide +kernel
theorem dX4_addToken_81 : decode cX4_addToken 81 = .ok (.i2l, 1) := by decide +kernel
theorem dX4_addToken_82 : decode cX4_addToken 82 = .ok (.ladd, 1) := by decide +kernel
theorem dX4_addToken_83 : decode cX4_addToken 83 = .ok (.ldc2_w 70, 3) := by decide +kernel
theorem dX4_addToken_86 : decode cX4_addToken 86 = .ok (.lsub, 1) := by decide +kernel
theorem dX4_addToken_87 : decode cX4_addToken 87 = .ok (.lstore 6, 2) := by decide +kernel
theorem dX4_addToken_89 : decode cX4_addToken 89 = .ok (.iinc 8 1, 3) := by decide +kernel
theorem dX4_addToken_92 : decode cX4_addToken 92 = .ok (.goto (-69), 3) := by decide +kernel
theorem dX4_addToken_95 : decode cX4_addToken 95 = .ok (.aload_n 0, 1) := by decide +kernel
theorem dX4_addToken_96 : decode cX4_addToken 96 = .ok (.getfield 15, 3) := by decide +kernel
theorem dX4_addToken_99 : decode cX4_addToken 99 = .ok (.aload_n 0, 1) := by decide +kernel
theorem dX4_addToken_100 : decode cX4_addToken 100 = .ok (.getfield 41, 3) := by decide +kernel
theorem dX4_addToken_103 : decode cX4_addToken 103 = .ok (.iload_n 2, 1) := by decide +kernel
theorem dX4_addToken_104 : decode cX4_addToken 104 = .ok (.iastore, 1) := by decide +kernel
theorem dX4_addToken_105 : decode cX4_addToken 105 = .ok (.aload_n 0, 1) := by decide +kernel
theorem dX4_addToken_106 : decode cX4_addToken 106 = .ok (.getfield 18, 3) := by decide +kernel
theorem dX4_addToken_109 : decode cX4_addToken 109 = .ok (.aload_n 0, 1) := by decide +kernel
theorem dX4_addToken_110 : decode cX4_addToken 110 = .ok (.getfield 41, 3) := by decide +kernel
theorem dX4_addToken_113 : decode cX4_addToken 113 = .ok (.lload 6, 2) := by decide +kernel
theorem dX4_addToken_115 : decode cX4_addToken 115 = .ok (.lastore, 1) := by decide +kernel
theorem dX4_addToken_116 : decode cX4_addToken 116 = .ok (.aload_n 0, 1) := by decide +kernel
theorem dX4_addToken_117 : decode cX4_addToken 117 = .ok (.getfield 9, 3) := by decide +kernel
theorem dX4_addToken_120 : decode cX4_addToken 120 = .ok (.aload_n 0, 1) := by decide +kernel
theorem dX4_addToken_121 : decode cX4_addToken 121 = .ok (.getfield 41, 3) := by decide +kernel
theorem dX4_addToken_124 : decode cX4_addToken 124 = .ok (.iconst 4, 1) := by decide +kernel
theorem dX4_addToken_125 : decode cX4_addToken 125 = .ok (.iastore, 1) := by decide +kernel
theorem dX4_addToken_126 : decode cX4_addToken 126 = .ok (.iload 4, 2) := by decide +kernel
theorem dX4_addToken_128 : decode cX4_addToken 128 = .ok (.iload 5, 2) := by decide +kernel
theorem dX4_addToken_130 : decode cX4_addToken 130 = .ok (.iadd, 1) := by decide +kernel
theorem dX4_addToken_131 : decode cX4_addToken 131 = .ok (.ifCond .ne 31, 3) := by decide +kernel
theorem dX4_addToken_134 : decode cX4_addToken 134 = .ok (.aload_n 0, 1) := by decide +kernel
theorem dX4_addToken_135 : decode cX4_addToken 135 = .ok (.getfield 9, 3) := by decide +kernel
theorem dX4_addToken_138 : decode cX4_addToken 138 = .ok (.aload_n 0, 1) := by decide +kernel
theorem dX4_addToken_139 : decode cX4_addToken 139 = .ok (.getfield 41, 3) := by decide +kernel
theorem dX4_addToken_142 : decode cX4_addToken 142 = .ok (.aload_n 1, 1) := by decide +kernel
theorem dX4_addToken_143 : decode cX4_addToken 143 = .ok (.iload_n 2, 1) := by decide +kernel
theorem dX4_addToken_144 : decode cX4_addToken 144 = .ok (.baload, 1) := by decide +kernel
theorem dX4_addToken_145 : decode cX4_addToken 145 = .ok (.invokestatic 72, 3) := by decide +kernel
theorem dX4_addToken_148 : decode cX4_addToken 148 = .ok (.ifCond .eq 9, 3) := by decide +kernel
theorem dX4_addToken_151 : decode cX4_addToken 151 = .ok (.aload_n 1, 1) := by decide +kernel
theorem dX4_addToken_152 : decode cX4_addToken 152 = .ok (.iload_n 2, 1) := by decide +kernel
theorem dX4_addToken_153 : decode cX4_addToken 153 = .ok (.baload, 1) := by decide +kernel
theorem dX4_addToken_154 : decode cX4_addToken 154 = .ok (.goto 4, 3) := by decide +kernel
theorem dX4_addToken_157 : decode cX4_addToken 157 = .ok (.iconst 4, 1) := by decide +kernel
theorem dX4_addToken_158 : decode cX4_addToken 158 = .ok (.iastore, 1) := by decide +kernel
theorem dX4_addToken_159 : decode cX4_addToken 159 = .ok (.goto 49, 3) := by decide +kernel
theorem dX4_addToken_162 : decode cX4_addToken 162 = .ok (.iload 5, 2) := by decide +kernel
theorem dX4_addToken_164 : decode cX4_addToken 164 = .ok (.ifCond .ne 23, 3) := by decide +kernel
theorem dX4_addToken_167 : decode cX4_addToken 167 = .ok (.iload 4, 2) := by decide +kernel
theorem dX4_addToken_169 : decode cX4_addToken 169 = .ok (.bipush 6, 2) := by decide +kernel
theorem dX4_addToken_171 : decode cX4_addToken 171 = .ok (.if_icmp .gt 16, 3) := by decide +kernel
theorem dX4_addToken_174 : decode cX4_addToken 174 = .ok (.aload_n 0, 1) := by decide +kernel
theorem dX4_addToken_175 : decode cX4_addToken 175 = .ok (.getfield 9, 3) := by decide +kernel
theorem dX4_addToken_178 : decode cX4_addToken 178 = .ok (.aload_n 0, 1) := by decide +kernel
theorem dX4_addToken_179 : decode cX4_addToken 179 = .ok (.getfield 41, 3) := by decide +kernel
theorem dX4_addToken_182 : decode cX4_addToken 182 = .ok (.iconst 2, 1) := by decide +kernel
theorem dX4_addToken_183 : decode cX4_addToken 183 = .ok (.iastore, 1) := by decide +kernel
theorem dX4_addToken_184 : decode cX4_addToken 184 = .ok (.goto 24, 3) := by decide +kernel
theorem dX4_addToken_187 : decode cX4_addToken 187 = .ok (.iload 4, 2) := by decide +kernel
theorem dX4_addToken_189 : decode cX4_addToken 189 = .ok (.ifCond .ne 19, 3) := by decide +kernel
theorem dX4_addToken_192 : decode cX4_addToken 192 = .ok (.iload 5, 2) := by decide +kernel
theorem dX4_addToken_194 : decode cX4_addToken 194 = .ok (.iconst 2, 1) := by decide +kernel
theorem dX4_addToken_195 : decode cX4_addToken 195 = .ok (.if_icmp .gt 13, 3) := by decide +kernel
theorem dX4_addToken_198 : decode cX4_addToken 198 = .ok (.aload_n 0, 1) := by decide +kernel
theorem dX4_addToken_199 : decode cX4_addToken 199 = .ok (.getfield 9, 3) := by decide +kernel
theorem dX4_addToken_202 : decode cX4_addToken 202 = .ok (.aload_n 0, 1) := by decide +kernel
theorem dX4_addToken_203 : decode cX4_addToken 203 = .ok (.getfield 41, 3) := by decide +kernel
theorem dX4_addToken_206 : decode cX4_addToken 206 = .ok (.iconst 3, 1) := by decide +kernel
theorem dX4_addToken_207 : decode cX4_addToken 207 = .ok (.iastore, 1) := by decide +kernel
theorem dX4_addToken_208 : decode cX4_addToken 208 = .ok (.aload_n 0, 1) := by decide +kernel
theorem dX4_addToken_209 : decode cX4_addToken 209 = .ok (.dup, 1) := by decide +kernel
theorem dX4_addToken_210 : decode cX4_addToken 210 = .ok (.getfield 41, 3) := by decide +kernel
theorem dX4_addToken_213 : decode cX4_addToken 213 = .ok (.iconst 1, 1) := by decide +kernel
theorem dX4_addToken_214 : decode cX4_addToken 214 = .ok (.iadd, 1) := by decide +kernel
theorem dX4_addToken_215 : decode cX4_addToken 215 = .ok (.putfield 41, 3) := by decide +kernel
theorem dX4_addToken_218 : decode cX4_addToken 218 = .ok (.return_, 1) := by decide +kernel
theorem dX4_advance_0 : decode cX4_advance 0 = .ok (.aload_n 0, 1) := by decide +kernel
theorem dX4_advance_1 : decode cX4_advance 1 = .ok (.getfield 62, 3) := by decide +kernel
theorem dX4_advance_4 : decode cX4_advance 4 = .ok (.iconst 1, 1) := by decide +kernel
theorem dX4_advance_5 : decode cX4_advance 5 = .ok (.iadd, 1) := by decide +kernel
theorem dX4_advance_6 : decode cX4_advance 6 = .ok (.aload_n 0, 1) := by decide +kernel
theorem dX4_advance_7 : decode cX4_advance 7 = .ok (.getfield 41, 3) := by decide +kernel
theorem dX4_advance_10 : decode cX4_advance 10 = .ok (.if_icmp .ge 13, 3) := by decide +kernel
theorem dX4_advance_13 : decode cX4_advance 13 = .ok (.aload_n 0, 1) := by decide +kernel
theorem dX4_advance_14 : decode cX4_advance 14 = .ok (.dup, 1) := by decide +kernel
theorem dX4_advance_15 : decode cX4_advance 15 = .ok (.getfield 62, 3) := by decide +kernel
theorem dX4_advance_18 : decode cX4_advance 18 = .ok (.iconst 1, 1) := by decide +kernel
theorem dX4_advance_19 : decode cX4_advance 19 = .ok (.iadd, 1) := by decide +kernel
theorem dX4_advance_20 : decode cX4_advance 20 = .ok (.putfield 62, 3) := by decide +kernel
theorem dX4_advance_23 : decode cX4_advance 23 = .ok (.aload_n 0, 1) := by decide +kernel
theorem dX4_advance_24 : decode cX4_advance 24 = .ok (.aload_n 0, 1) := by decide +kernel
theorem dX4_advance_25 : decode cX4_advance 25 = .ok (.getfield 9, 3) := by decide +kernel
theorem dX4_advance_28 : decode cX4_advance 28 = .ok (.aload_n 0, 1) := by decide +kernel
theorem dX4_advance_29 : decode cX4_advance 29 = .ok (.getfield 62, 3) := by decide +kernel
theorem dX4_advance_32 : decode cX4_advance 32 = .ok (.iaload, 1) := by decide +kernel
theorem dX4_advance_33 : decode cX4_advance 33 = .ok (.putfield 75, 3) := by decide +kernel
theorem dX4_advance_36 : decode cX4_advance 36 = .ok (.aload_n 0, 1) := by decide +kernel
theorem dX4_advance_37 : decode cX4_advance 37 = .ok (.aload_n 0, 1) := by decide +kernel
theorem dX4_advance_38 : decode cX4_advance 38 = .ok (.getfield 15, 3) := by decide +kernel
theorem dX4_advance_41 : decode cX4_advance 41 = .ok (.aload_n 0, 1) := by decide +kernel
theorem dX4_advance_42 : decode cX4_advance 42 = .ok (.getfield 62, 3) := by decide +kernel
theorem dX4_advance_45 : decode cX4_advance 45 = .ok (.iaload, 1) := by decide +kernel
theorem dX4_advance_46 : decode cX4_advance 46 = .ok (.putfield 78, 3) := by decide +kernel
theorem dX4_advance_49 : decode cX4_advance 49 = .ok (.aload_n 0, 1) := by decide +kernel
theorem dX4_advance_50 : decode cX4_advance 50 = .ok (.aload_n 0, 1) := by decide +kernel
theorem dX4_advance_51 : decode cX4_advance 51 = .ok (.getfield 18, 3) := by decide +kernel
theorem dX4_advance_54 : decode cX4_advance 54 = .ok (.aload_n 0, 1) := by decide +kernel
theorem dX4_advance_55 : decode cX4_advance 55 = .ok (.getfield 62, 3) := by decide +kernel
theorem dX4_advance_58 : decode cX4_advance 58 = .ok (.laload, 1) := by decide +kernel
theorem dX4_advance_59 : decode cX4_advance 59 = .ok (.putfield 81, 3) := by decide +kernel
theorem dX4_advance_62 : decode cX4_advance 62 = .ok (.return_, 1) := by decide +kernel
theorem dX4_fail_0 : decode cX4_fail 0 = .ok (.aload_n 0, 1) := by decide +kernel
theorem dX4_fail_1 : decode cX4_fail 1 = .ok (.iload_n 1, 1) := by decide +kernel
theorem dX4_fail_2 : decode cX4_fail 2 = .ok (.putfield 56, 3) := by decide +kernel
theorem dX4_fail_5 : decode cX4_fail 5 = .ok (.aload_n 0, 1) := by decide +kernel
theorem dX4_fail_6 : decode cX4_fail 6 = .ok (.iload_n 2, 1) := by decide +kernel
theorem dX4_fail_7 : decode cX4_fail 7 = .ok (.putfield 59, 3) := by decide +kernel
theorem dX4_fail_10 : decode cX4_fail 10 = .ok (.iconst 0, 1) := by decide +kernel
theorem dX4_fail_11 : decode cX4_fail 11 = .ok (.ireturn, 1) := by decide +kernel
theorem dX4_isWord_0 : decode cX4_isWord 0 = .ok (.aload_n 0, 1) := by decide +kernel
theorem dX4_isWord_1 : decode cX4_isWord 1 = .ok (.getfield 75, 3) := by decide +kernel
theorem dX4_isWord_4 : decode cX4_isWord 4 = .ok (.iconst 2, 1) := by decide +kernel
theorem dX4_isWord_5 : decode cX4_isWord 5 = .ok (.if_icmp .ne 16, 3) := by decide +kernel
theorem dX4_isWord_8 : decode cX4_isWord 8 = .ok (.aload_n 0, 1) := by decide +kernel
theorem dX4_isWord_9 : decode cX4_isWord 9 = .ok (.getfield 81, 3) := by decide +kernel
theorem dX4_isWord_12 : decode cX4_isWord 12 = .ok (.lload_n 1, 1) := by decide +kernel
theorem dX4_isWord_13 : decode cX4_isWord 13 = .ok (.lcmp, 1) := by decide +kernel
theorem dX4_isWord_14 : decode cX4_isWord 14 = .ok (.ifCond .ne 7, 3) := by decide +kernel
theorem dX4_isWord_17 : decode cX4_isWord 17 = .ok (.iconst 1, 1) := by decide +kernel
theorem dX4_isWord_18 : decode cX4_isWord 18 = .ok (.goto 4, 3) := by decide +kernel
theorem dX4_isWord_21 : decode cX4_isWord 21 = .ok (.iconst 0, 1) := by decide +kernel
theorem dX4_isWord_22 : decode cX4_isWord 22 = .ok (.ireturn, 1) := by decide +kernel
theorem dX4_isName_0 : decode cX4_isName 0 = .ok (.aload_n 0, 1) := by decide +kernel
theorem dX4_isName_1 : decode cX4_isName 1 = .ok (.getfield 75, 3) := by decide +kernel
theorem dX4_isName_4 : decode cX4_isName 4 = .ok (.iconst 2, 1) := by decide +kernel
theorem dX4_isName_5 : decode cX4_isName 5 = .ok (.if_icmp .ne 51, 3) := by decide +kernel
theorem dX4_isName_8 : decode cX4_isName 8 = .ok (.aload_n 0, 1) := by decide +kernel
theorem dX4_isName_9 : decode cX4_isName 9 = .ok (.getfield 81, 3) := by decide +kernel
theorem dX4_isName_12 : decode cX4_isName 12 = .ok (.ldc2_w 85, 3) := by decide +kernel
theorem dX4_isName_15 : decode cX4_isName 15 = .ok (.lcmp, 1) := by decide +kernel
theorem dX4_isName_16 : decode cX4_isName 16 = .ok (.ifCond .eq 40, 3) := by decide +kernel
theorem dX4_isName_19 : decode cX4_isName 19 = .ok (.aload_n 0, 1) := by decide +kernel
theorem dX4_isName_20 : decode cX4_isName 20 = .ok (.getfield 81, 3) := by decide +kernel
theorem dX4_isName_23 : decode cX4_isName 23 = .ok (.ldc2_w 87, 3) := by decide +kernel
theorem dX4_isName_26 : decode cX4_isName 26 = .ok (.lcmp, 1) := by decide +kernel
theorem dX4_isName_27 : decode cX4_isName 27 = .ok (.ifCond .eq 29, 3) := by decide +kernel
theorem dX4_isName_30 : decode cX4_isName 30 = .ok (.aload_n 0, 1) := by decide +kernel
theorem dX4_isName_31 : decode cX4_isName 31 = .ok (.getfield 81, 3) := by decide +kernel
theorem dX4_isName_34 : decode cX4_isName 34 = .ok (.ldc2_w 89, 3) := by decide +kernel
theorem dX4_isName_37 : decode cX4_isName 37 = .ok (.lcmp, 1) := by decide +kernel
theorem dX4_isName_38 : decode cX4_isName 38 = .ok (.ifCond .eq 18, 3) := by decide +kernel
theorem dX4_isName_41 : decode cX4_isName 41 = .ok (.aload_n 0, 1) := by decide +kernel
theorem dX4_isName_42 : decode cX4_isName 42 = .ok (.getfield 81, 3) := by decide +kernel
theorem dX4_isName_45 : decode cX4_isName 45 = .ok (.ldc2_w 91, 3) := by decide +kernel
theorem dX4_isName_48 : decode cX4_isName 48 = .ok (.lcmp, 1) := by decide +kernel
theorem dX4_isName_49 : decode cX4_isName 49 = .ok (.ifCond .eq 7, 3) := by decide +kernel
theorem dX4_isName_52 : decode cX4_isName 52 = .ok (.iconst 1, 1) := by decide +kernel
theorem dX4_isName_53 : decode cX4_isName 53 = .ok (.goto 4, 3) := by decide +kernel
theorem dX4_isName_56 : decode cX4_isName 56 = .ok (.iconst 0, 1) := by decide +kernel
theorem dX4_isName_57 : decode cX4_isName 57 = .ok (.ireturn, 1) := by decide +kernel
theorem dX4_skip_0 : decode cX4_skip 0 = .ok (.aload_n 0, 1) := by decide +kernel
theorem dX4_skip_1 : decode cX4_skip 1 = .ok (.getfield 75, 3) := by decide +kernel
theorem dX4_skip_4 : decode cX4_skip 4 = .ok (.iload_n 1, 1) := by decide +kernel
theorem dX4_skip_5 : decode cX4_skip 5 = .ok (.if_icmp .eq 13, 3) := by decide +kernel
theorem dX4_skip_8 : decode cX4_skip 8 = .ok (.aload_n 0, 1) := by decide +kernel
theorem dX4_skip_9 : decode cX4_skip 9 = .ok (.iconst 1, 1) := by decide +kernel
theorem dX4_skip_10 : decode cX4_skip 10 = .ok (.aload_n 0, 1) := by decide +kernel
theorem dX4_skip_11 : decode cX4_skip 11 = .ok (.getfield 78, 3) := by decide +kernel
theorem dX4_skip_14 : decode cX4_skip 14 = .ok (.invokevirtual 93, 3) := by decide +kernel
theorem dX4_skip_17 : decode cX4_skip 17 = .ok (.ireturn, 1) := by decide +kernel
theorem dX4_skip_18 : decode cX4_skip 18 = .ok (.aload_n 0, 1) := by decide +kernel
theorem dX4_skip_19 : decode cX4_skip 19 = .ok (.invokevirtual 65, 3) := by decide +kernel
theorem dX4_skip_22 : decode cX4_skip 22 = .ok (.iconst 1, 1) := by decide +kernel
theorem dX4_skip_23 : decode cX4_skip 23 = .ok (.ireturn, 1) := by decide +kernel
theorem dX4_readWorld_0 : decode cX4_readWorld 0 = .ok (.aload_n 1, 1) := by decide +kernel
theorem dX4_readWorld_1 : decode cX4_readWorld 1 = .ok (.invokevirtual 97, 3) := by decide +kernel
theorem dX4_readWorld_4 : decode cX4_readWorld 4 = .ok (.aload_n 0, 1) := by decide +kernel
theorem dX4_readWorld_5 : decode cX4_readWorld 5 = .ok (.iconst 0, 1) := by decide +kernel
theorem dX4_readWorld_6 : decode cX4_readWorld 6 = .ok (.putfield 102, 3) := by decide +kernel
theorem dX4_readWorld_9 : decode cX4_readWorld 9 = .ok (.iconst 0, 1) := by decide +kernel
theorem dX4_readWorld_10 : decode cX4_readWorld 10 = .ok (.istore_n 2, 1) := by decide +kernel
theorem dX4_readWorld_11 : decode cX4_readWorld 11 = .ok (.iload_n 2, 1) := by decide +kernel
theorem dX4_readWorld_12 : decode cX4_readWorld 12 = .ok (.aload_n 0, 1) := by decide +kernel
theorem dX4_readWorld_13 : decode cX4_readWorld 13 = .ok (.getfield 41, 3) := by decide +kernel
theorem dX4_readWorld_16 : decode cX4_readWorld 16 = .ok (.if_icmp .ge 98, 3) := by decide +kernel
theorem dX4_readWorld_19 : decode cX4_readWorld 19 = .ok (.aload_n 0, 1) := by decide +kernel
theorem dX4_readWorld_20 : decode cX4_readWorld 20 = .ok (.getfield 75, 3) := by decide +kernel
theorem dX4_readWorld_23 : decode cX4_readWorld 23 = .ok (.ifCond .eq 91, 3) := by decide +kernel
theorem dX4_readWorld_26 : decode cX4_readWorld 26 = .ok (.aload_n 0, 1) := by decide +kernel
theorem dX4_readWorld_27 : decode cX4_readWorld 27 = .ok (.ldc2_w 87, 3) := by decide +kernel
theorem dX4_readWorld_30 : decode cX4_readWorld 30 = .ok (.invokevirtual 106, 3) := by decide +kernel
theorem dX4_readWorld_33 : decode cX4_readWorld 33 = .ok (.ifCond .eq 12, 3) := by decide +kernel
theorem dX4_readWorld_36 : decode cX4_readWorld 36 = .ok (.aload_n 0, 1) := by decide +kernel
theorem dX4_readWorld_37 : decode cX4_readWorld 37 = .ok (.aload_n 1, 1) := by decide +kernel
theorem dX4_readWorld_38 : decode cX4_readWorld 38 = .ok (.invokevirtual 110, 3) := by decide +kernel
theorem dX4_readWorld_41 : decode cX4_readWorld 41 = .ok (.istore_n 3, 1) := by decide +kernel
theorem dX4_readWorld_42 : decode cX4_readWorld 42 = .ok (.goto 51, 3) := by decide +kernel
theorem dX4_readWorld_45 : decode cX4_readWorld 45 = .ok (.aload_n 0, 1) := by decide +kernel
theorem dX4_readWorld_46 : decode cX4_readWorld 46 = .ok (.ldc2_w 89, 3) := by decide +kernel
theorem dX4_readWorld_49 : decode cX4_readWorld 49 = .ok (.invokevirtual 106, 3) := by decide +kernel
theorem dX4_readWorld_52 : decode cX4_readWorld 52 = .ok (.ifCond .eq 12, 3) := by decide +kernel
theorem dX4_readWorld_55 : decode cX4_readWorld 55 = .ok (.aload_n 0, 1) := by decide +kernel
theorem dX4_readWorld_56 : decode cX4_readWorld 56 = .ok (.aload_n 1, 1) := by decide +kernel
theorem dX4_readWorld_57 : decode cX4_readWorld 57 = .ok (.invokevirtual 114, 3) := by decide +kernel
theorem dX4_readWorld_60 : decode cX4_readWorld 60 = .ok (.istore_n 3, 1) := by decide +kernel
theorem dX4_readWorld_61 : decode cX4_readWorld 61 = .ok (.goto 32, 3) := by decide +kernel
theorem dX4_readWorld_64 : decode cX4_readWorld 64 = .ok (.aload_n 0, 1) := by decide +kernel
theorem dX4_readWorld_65 : decode cX4_readWorld 65 = .ok (.ldc2_w 91, 3) := by decide +kernel
theorem dX4_readWorld_68 : decode cX4_readWorld 68 = .ok (.invokevirtual 106, 3) := by decide +kernel
theorem dX4_readWorld_71 : decode cX4_readWorld 71 = .ok (.ifCond .eq 12, 3) := by decide +kernel
theorem dX4_readWorld_74 : decode cX4_readWorld 74 = .ok (.aload_n 0, 1) := by decide +kernel
theorem dX4_readWorld_75 : decode cX4_readWorld 75 = .ok (.aload_n 1, 1) := by decide +kernel
theorem dX4_readWorld_76 : decode cX4_readWorld 76 = .ok (.invokevirtual 117, 3) := by decide +kernel
theorem dX4_readWorld_79 : decode cX4_readWorld 79 = .ok (.istore_n 3, 1) := by decide +kernel
theorem dX4_readWorld_80 : decode cX4_readWorld 80 = .ok (.goto 13, 3) := by decide +kernel
theorem dX4_readWorld_83 : decode cX4_readWorld 83 = .ok (.aload_n 0, 1) := by decide +kernel
theorem dX4_readWorld_84 : decode cX4_readWorld 84 = .ok (.iconst 1, 1) := by decide +kernel
theorem dX4_readWorld_85 : decode cX4_readWorld 85 = .ok (.aload_n 0, 1) := by decide +kernel
theorem dX4_readWorld_86 : decode cX4_readWorld 86 = .ok (.getfield 78, 3) := by decide +kernel
theorem dX4_readWorld_89 : decode cX4_readWorld 89 = .ok (.invokevirtual 93, 3) := by decide +kernel
theorem dX4_readWorld_92 : decode cX4_readWorld 92 = .ok (.istore_n 3, 1) := by decide +kernel
theorem dX4_readWorld_93 : decode cX4_readWorld 93 = .ok (.iload_n 3, 1) := by decide +kernel
theorem dX4_readWorld_94 : decode cX4_readWorld 94 = .ok (.ifCond .eq 12, 3) := by decide +kernel
theorem dX4_readWorld_97 : decode cX4_readWorld 97 = .ok (.aload_n 0, 1) := by decide +kernel
theorem dX4_readWorld_98 : decode cX4_readWorld 98 = .ok (.bipush 59, 2) := by decide +kernel
theorem dX4_readWorld_100 : decode cX4_readWorld 100 = .ok (.invokevirtual 120, 3) := by decide +kernel
theorem dX4_readWorld_103 : decode cX4_readWorld 103 = .ok (.ifCond .ne 5, 3) := by decide +kernel
theorem dX4_readWorld_106 : decode cX4_readWorld 106 = .ok (.iconst (-1), 1) := by decide +kernel
theorem dX4_readWorld_107 : decode cX4_readWorld 107 = .ok (.ireturn, 1) := by decide +kernel
theorem dX4_readWorld_108 : decode cX4_readWorld 108 = .ok (.iinc 2 1, 3) := by decide +kernel
theorem dX4_readWorld_111 : decode cX4_readWorld 111 = .ok (.goto (-100), 3) := by decide +kernel
theorem dX4_readWorld_114 : decode cX4_readWorld 114 = .ok (.iload_n 2, 1) := by decide +kernel
theorem dX4_readWorld_115 : decode cX4_readWorld 115 = .ok (.ireturn, 1) := by decide +kernel
theorem dX4_readPrime_0 : decode cX4_readPrime 0 = .ok (.aload_n 0, 1) := by decide +kernel
theorem dX4_readPrime_1 : decode cX4_readPrime 1 = .ok (.getfield 102, 3) := by decide +kernel
theorem dX4_readPrime_4 : decode cX4_readPrime 4 = .ok (.ifCond .ne 10, 3) := by decide +kernel
theorem dX4_readPrime_7 : decode cX4_readPrime 7 = .ok (.aload_n 1, 1) := by decide +kernel
theorem dX4_readPrime_8 : decode cX4_readPrime 8 = .ok (.getfield 124, 3) := by decide +kernel
theorem dX4_readPrime_11 : decode cX4_readPrime 11 = .ok (.ifCond .le 13, 3) := by decide +kernel
theorem dX4_readPrime_14 : decode cX4_readPrime 14 = .ok (.aload_n 0, 1) := by decide +kernel
theorem dX4_readPrime_15 : decode cX4_readPrime 15 = .ok (.iconst 3, 1) := by decide +kernel
theorem dX4_readPrime_16 : decode cX4_readPrime 16 = .ok (.aload_n 0, 1) := by decide +kernel
theorem dX4_readPrime_17 : decode cX4_readPrime 17 = .ok (.getfield 78, 3) := by decide +kernel
theorem dX4_readPrime_20 : decode cX4_readPrime 20 = .ok (.invokevirtual 93, 3) := by decide +kernel
theorem dX4_readPrime_23 : decode cX4_readPrime 23 = .ok (.ireturn, 1) := by decide +kernel
theorem dX4_readPrime_24 : decode cX4_readPrime 24 = .ok (.aload_n 0, 1) := by decide +kernel
theorem dX4_readPrime_25 : decode cX4_readPrime 25 = .ok (.invokevirtual 65, 3) := by decide +kernel
theorem dX4_readPrime_28 : decode cX4_readPrime 28 = .ok (.aload_n 0, 1) := by decide +kernel
theorem dX4_readPrime_29 : decode cX4_readPrime 29 = .ok (.getfield 75, 3) := by decide +kernel
theorem dX4_readPrime_32 : decode cX4_readPrime 32 = .ok (.iconst 3, 1) := by decide +kernel
theorem dX4_readPrime_33 : decode cX4_readPrime 33 = .ok (.if_icmp .eq 13, 3) := by decide +kernel
theorem dX4_readPrime_36 : decode cX4_readPrime 36 = .ok (.aload_n 0, 1) := by decide +kernel
theorem dX4_readPrime_37 : decode cX4_readPrime 37 = .ok (.iconst 1, 1) := by decide +kernel
theorem dX4_readPrime_38 : decode cX4_readPrime 38 = .ok (.aload_n 0, 1) := by decide +kernel
theorem dX4_readPrime_39 : decode cX4_readPrime 39 = .ok (.getfield 78, 3) := by decide +kernel
theorem dX4_readPrime_42 : decode cX4_readPrime 42 = .ok (.invokevirtual 93, 3) := by decide +kernel
theorem dX4_readPrime_45 : decode cX4_readPrime 45 = .ok (.ireturn, 1) := by decide +kernel
theorem dX4_readPrime_46 : decode cX4_readPrime 46 = .ok (.aload_n 0, 1) := by decide +kernel
theorem dX4_readPrime_47 : decode cX4_readPrime 47 = .ok (.getfield 81, 3) := by decide +kernel
theorem dX4_readPrime_50 : decode cX4_readPrime 50 = .ok (.l2i, 1) := by decide +kernel
theorem dX4_readPrime_51 : decode cX4_readPrime 51 = .ok (.invokestatic 127, 3) := by decide +kernel
theorem dX4_readPrime_54 : decode cX4_readPrime 54 = .ok (.ifCond .ne 13, 3) := by decide +kernel
theorem dX4_readPrime_57 : decode cX4_readPrime 57 = .ok (.aload_n 0, 1) := by decide +kernel
theorem dX4_readPrime_58 : decode cX4_readPrime 58 = .ok (.iconst 2, 1) := by decide +kernel
theorem dX4_readPrime_59 : decode cX4_readPrime 59 = .ok (.aload_n 0, 1) := by decide +kernel
theorem dX4_readPrime_60 : decode cX4_readPrime 60 = .ok (.getfield 78, 3) := by decide +kernel
theorem dX4_readPrime_63 : decode cX4_readPrime 63 = .ok (.invokevirtual 93, 3) := by decide +kernel
theorem dX4_readPrime_66 : decode cX4_readPrime 66 = .ok (.ireturn, 1) := by decide +kernel
theorem dX4_readPrime_67 : decode cX4_readPrime 67 = .ok (.aload_n 1, 1) := by decide +kernel
theorem dX4_readPrime_68 : decode cX4_readPrime 68 = .ok (.aload_n 0, 1) := by decide +kernel
theorem dX4_readPrime_69 : decode cX4_readPrime 69 = .ok (.getfield 81, 3) := by decide +kernel
theorem dX4_readPrime_72 : decode cX4_readPrime 72 = .ok (.l2i, 1) := by decide +kernel
theorem dX4_readPrime_73 : decode cX4_readPrime 73 = .ok (.putfield 130, 3) := by decide +kernel
theorem dX4_readPrime_76 : decode cX4_readPrime 76 = .ok (.aload_n 0, 1) := by decide +kernel
theorem dX4_readPrime_77 : decode cX4_readPrime 77 = .ok (.iconst 1, 1) := by decide +kernel
theorem dX4_readPrime_78 : decode cX4_readPrime 78 = .ok (.putfield 102, 3) := by decide +kernel
theorem dX4_readPrime_81 : decode cX4_readPrime 81 = .ok (.aload_n 0, 1) := by decide +kernel
theorem dX4_readPrime_82 : decode cX4_readPrime 82 = .ok (.invokevirtual 65, 3) := by decide +kernel
theorem dX4_readPrime_85 : decode cX4_readPrime 85 = .ok (.iconst 1, 1) := by decide +kernel
theorem dX4_readPrime_86 : decode cX4_readPrime 86 = .ok (.ireturn, 1) := by decide +kernel
theorem dX4_isPrime_0 : decode cX4_isPrime 0 = .ok (.iconst 2, 1) := by decide +kernel
theorem dX4_isPrime_1 : decode cX4_isPrime 1 = .ok (.istore_n 1, 1) := by decide +kernel
theorem dX4_isPrime_2 : decode cX4_isPrime 2 = .ok (.iload_n 1, 1) := by decide +kernel
theorem dX4_isPrime_3 : decode cX4_isPrime 3 = .ok (.iload_n 0, 1) := by decide +kernel
theorem dX4_isPrime_4 : decode cX4_isPrime 4 = .ok (.if_icmp .ge 17, 3) := by decide +kernel
theorem dX4_isPrime_7 : decode cX4_isPrime 7 = .ok (.iload_n 0, 1) := by decide +kernel
theorem dX4_isPrime_8 : decode cX4_isPrime 8 = .ok (.iload_n 1, 1) := by decide +kernel
theorem dX4_isPrime_9 : decode cX4_isPrime 9 = .ok (.irem, 1) := by decide +kernel
theorem dX4_isPrime_10 : decode cX4_isPrime 10 = .ok (.ifCond .ne 5, 3) := by decide +kernel
theorem dX4_isPrime_13 : decode cX4_isPrime 13 = .ok (.iconst 0, 1) := by decide +kernel
theorem dX4_isPrime_14 : decode cX4_isPrime 14 = .ok (.ireturn, 1) := by decide +kernel
theorem dX4_isPrime_15 : decode cX4_isPrime 15 = .ok (.iinc 1 1, 3) := by decide +kernel
theorem dX4_isPrime_18 : decode cX4_isPrime 18 = .ok (.goto (-16), 3) := by decide +kernel
theorem dX4_isPrime_21 : decode cX4_isPrime 21 = .ok (.iload_n 0, 1) := by decide +kernel
theorem dX4_isPrime_22 : decode cX4_isPrime 22 = .ok (.iconst 2, 1) := by decide +kernel
theorem dX4_isPrime_23 : decode cX4_isPrime 23 = .ok (.if_icmp .lt 13, 3) := by decide +kernel
theorem dX4_isPrime_26 : decode cX4_isPrime 26 = .ok (.iload_n 0, 1) := by decide +kernel
theorem dX4_isPrime_27 : decode cX4_isPrime 27 = .ok (.bipush 97, 2) := by decide +kernel
theorem dX4_isPrime_29 : decode cX4_isPrime 29 = .ok (.if_icmp .gt 7, 3) := by decide +kernel
theorem dX4_isPrime_32 : decode cX4_isPrime 32 = .ok (.iconst 1, 1) := by decide +kernel
theorem dX4_isPrime_33 : decode cX4_isPrime 33 = .ok (.goto 4, 3) := by decide +kernel
theorem dX4_isPrime_36 : decode cX4_isPrime 36 = .ok (.iconst 0, 1) := by decide +kernel
theorem dX4_isPrime_37 : decode cX4_isPrime 37 = .ok (.ireturn, 1) := by decide +kernel
theorem dX4_readAct_0 : decode cX4_readAct 0 = .ok (.aload_n 1, 1) := by decide +kernel
theorem dX4_readAct_1 : decode cX4_readAct 1 = .ok (.getfield 124, 3) := by decide +kernel
theorem dX4_readAct_4 : decode cX4_readAct 4 = .ok (.ifCond .le 13, 3) := by decide +kernel
theorem dX4_readAct_7 : decode cX4_readAct 7 = .ok (.aload_n 0, 1) := by decide +kernel
theorem dX4_readAct_8 : decode cX4_readAct 8 = .ok (.iconst 3, 1) := by decide +kernel
theorem dX4_readAct_9 : decode cX4_readAct 9 = .ok (.aload_n 0, 1) := by decide +kernel
theorem dX4_readAct_10 : decode cX4_readAct 10 = .ok (.getfield 78, 3) := by decide +kernel
theorem dX4_readAct_13 : decode cX4_readAct 13 = .ok (.invokevirtual 93, 3) := by decide +kernel
theorem dX4_readAct_16 : decode cX4_readAct 16 = .ok (.ireturn, 1) := by decide +kernel
theorem dX4_readAct_17 : decode cX4_readAct 17 = .ok (.aload_n 1, 1) := by decide +kernel
theorem dX4_readAct_18 : decode cX4_readAct 18 = .ok (.getfield 133, 3) := by decide +kernel
theorem dX4_readAct_21 : decode cX4_readAct 21 = .ok (.iconst 3, 1) := by decide +kernel
theorem dX4_readAct_22 : decode cX4_readAct 22 = .ok (.if_icmp .lt 13, 3) := by decide +kernel
theorem dX4_readAct_25 : decode cX4_readAct 25 = .ok (.aload_n 0, 1) := by decide +kernel
theorem dX4_readAct_26 : decode cX4_readAct 26 = .ok (.iconst 4, 1) := by decide +kernel
theorem dX4_readAct_27 : decode cX4_readAct 27 = .ok (.aload_n 0, 1) := by decide +kernel
theorem dX4_readAct_28 : decode cX4_readAct 28 = .ok (.getfield 78, 3) := by decide +kernel
theorem dX4_readAct_31 : decode cX4_readAct 31 = .ok (.invokevirtual 93, 3) := by decide +kernel
theorem dX4_readAct_34 : decode cX4_readAct 34 = .ok (.ireturn, 1) := by decide +kernel
theorem dX4_readAct_35 : decode cX4_readAct 35 = .ok (.aload_n 0, 1) := by decide +kernel
theorem dX4_readAct_36 : decode cX4_readAct 36 = .ok (.invokevirtual 65, 3) := by decide +kernel
theorem dX4_readAct_39 : decode cX4_readAct 39 = .ok (.aload_n 0, 1) := by decide +kernel
theorem dX4_readAct_40 : decode cX4_readAct 40 = .ok (.invokevirtual 136, 3) := by decide +kernel
theorem dX4_readAct_43 : decode cX4_readAct 43 = .ok (.ifCond .ne 13, 3) := by decide +kernel
theorem dX4_readAct_46 : decode cX4_readAct 46 = .ok (.aload_n 0, 1) := by decide +kernel
theorem dX4_readAct_47 : decode cX4_readAct 47 = .ok (.iconst 1, 1) := by decide +kernel
theorem dX4_readAct_48 : decode cX4_readAct 48 = .ok (.aload_n 0, 1) := by decide +kernel
theorem dX4_readAct_49 : decode cX4_readAct 49 = .ok (.getfield 78, 3) := by decide +kernel
theorem dX4_readAct_52 : decode cX4_readAct 52 = .ok (.invokevirtual 93, 3) := by decide +kernel
theorem dX4_readAct_55 : decode cX4_readAct 55 = .ok (.ireturn, 1) := by decide +kernel
theorem dX4_readAct_56 : decode cX4_readAct 56 = .ok (.aload_n 1, 1) := by decide +kernel
theorem dX4_readAct_57 : decode cX4_readAct 57 = .ok (.aload_n 0, 1) := by decide +kernel
theorem dX4_readAct_58 : decode cX4_readAct 58 = .ok (.getfield 81, 3) := by decide +kernel
theorem dX4_readAct_61 : decode cX4_readAct 61 = .ok (.invokevirtual 140, 3) := by decide +kernel
theorem dX4_readAct_64 : decode cX4_readAct 64 = .ok (.ifCond .lt 13, 3) := by decide +kernel
theorem dX4_readAct_67 : decode cX4_readAct 67 = .ok (.aload_n 0, 1) := by decide +kernel
theorem dX4_readAct_68 : decode cX4_readAct 68 = .ok (.iconst 3, 1) := by decide +kernel
theorem dX4_readAct_69 : decode cX4_readAct 69 = .ok (.aload_n 0, 1) := by decide +kernel
theorem dX4_readAct_70 : decode cX4_readAct 70 = .ok (.getfield 78, 3) := by decide +kernel
theorem dX4_readAct_73 : decode cX4_readAct 73 = .ok (.invokevirtual 93, 3) := by decide +kernel
theorem dX4_readAct_76 : decode cX4_readAct 76 = .ok (.ireturn, 1) := by decide +kernel
theorem dX4_readAct_77 : decode cX4_readAct 77 = .ok (.aload_n 0, 1) := by decide +kernel
theorem dX4_readAct_78 : decode cX4_readAct 78 = .ok (.getfield 81, 3) := by decide +kernel
theorem dX4_readAct_81 : decode cX4_readAct 81 = .ok (.lstore_n 2, 1) := by decide +kernel
theorem dX4_readAct_82 : decode cX4_readAct 82 = .ok (.aload_n 0, 1) := by decide +kernel
theorem dX4_readAct_83 : decode cX4_readAct 83 = .ok (.invokevirtual 65, 3) := by decide +kernel
theorem dX4_readAct_86 : decode cX4_readAct 86 = .ok (.aload_n 0, 1) := by decide +kernel
theorem dX4_readAct_87 : decode cX4_readAct 87 = .ok (.getfield 75, 3) := by decide +kernel
theorem dX4_readAct_90 : decode cX4_readAct 90 = .ok (.iconst 3, 1) := by decide +kernel
theorem dX4_readAct_91 : decode cX4_readAct 91 = .ok (.if_icmp .eq 13, 3) := by decide +kernel
theorem dX4_readAct_94 : decode cX4_readAct 94 = .ok (.aload_n 0, 1) := by decide +kernel
theorem dX4_readAct_95 : decode cX4_readAct 95 = .ok (.iconst 1, 1) := by decide +kernel
theorem dX4_readAct_96 : decode cX4_readAct 96 = .ok (.aload_n 0, 1) := by decide +kernel
theorem dX4_readAct_97 : decode cX4_readAct 97 = .ok (.getfield 78, 3) := by decide +kernel
theorem dX4_readAct_100 : decode cX4_readAct 100 = .ok (.invokevirtual 93, 3) := by decide +kernel
theorem dX4_readAct_103 : decode cX4_readAct 103 = .ok (.ireturn, 1) := by decide +kernel
theorem dX4_readAct_104 : decode cX4_readAct 104 = .ok (.aload_n 0, 1) := by decide +kernel
theorem dX4_readAct_105 : decode cX4_readAct 105 = .ok (.getfield 81, 3) := by decide +kernel
theorem dX4_readAct_108 : decode cX4_readAct 108 = .ok (.ldc2_w 144, 3) := by decide +kernel
theorem dX4_readAct_111 : decode cX4_readAct 111 = .ok (.lcmp, 1) := by decide +kernel
theorem dX4_readAct_112 : decode cX4_readAct 112 = .ok (.ifCond .lt 14, 3) := by decide +kernel
theorem dX4_readAct_115 : decode cX4_readAct 115 = .ok (.aload_n 0, 1) := by decide +kernel
theorem dX4_readAct_116 : decode cX4_readAct 116 = .ok (.getfield 81, 3) := by decide +kernel
theorem dX4_readAct_119 : decode cX4_readAct 119 = .ok (.ldc2_w 146, 3) := by decide +kernel
theorem dX4_readAct_122 : decode cX4_readAct 122 = .ok (.lcmp, 1) := by decide +kernel
theorem dX4_readAct_123 : decode cX4_readAct 123 = .ok (.ifCond .le 13, 3) := by decide +kernel
theorem dX4_readAct_126 : decode cX4_readAct 126 = .ok (.aload_n 0, 1) := by decide +kernel
theorem dX4_readAct_127 : decode cX4_readAct 127 = .ok (.iconst 2, 1) := by decide +kernel
theorem dX4_readAct_128 : decode cX4_readAct 128 = .ok (.aload_n 0, 1) := by decide +kernel
theorem dX4_readAct_129 : decode cX4_readAct 129 = .ok (.getfield 78, 3) := by decide +kernel
theorem dX4_readAct_132 : decode cX4_readAct 132 = .ok (.invokevirtual 93, 3) := by decide +kernel
theorem dX4_readAct_135 : decode cX4_readAct 135 = .ok (.ireturn, 1) := by decide +kernel
theorem dX4_readAct_136 : decode cX4_readAct 136 = .ok (.aload_n 1, 1) := by decide +kernel
theorem dX4_readAct_137 : decode cX4_readAct 137 = .ok (.lload_n 2, 1) := by decide +kernel
theorem dX4_readAct_138 : decode cX4_readAct 138 = .ok (.aload_n 0, 1) := by decide +kernel
theorem dX4_readAct_139 : decode cX4_readAct 139 = .ok (.getfield 81, 3) := by decide +kernel
theorem dX4_readAct_142 : decode cX4_readAct 142 = .ok (.l2i, 1) := by decide +kernel
theorem dX4_readAct_143 : decode cX4_readAct 143 = .ok (.invokevirtual 148, 3) := by decide +kernel
theorem dX4_readAct_146 : decode cX4_readAct 146 = .ok (.aload_n 0, 1) := by decide +kernel
theorem dX4_readAct_147 : decode cX4_readAct 147 = .ok (.invokevirtual 65, 3) := by decide +kernel
theorem dX4_readAct_150 : decode cX4_readAct 150 = .ok (.iconst 1, 1) := by decide +kernel
theorem dX4_readAct_151 : decode cX4_readAct 151 = .ok (.ireturn, 1) := by decide +kernel
theorem dX4_readLaw_0 : decode cX4_readLaw 0 = .ok (.aload_n 1, 1) := by decide +kernel
theorem dX4_readLaw_1 : decode cX4_readLaw 1 = .ok (.getfield 124, 3) := by decide +kernel
theorem dX4_readLaw_4 : decode cX4_readLaw 4 = .ok (.bipush 18, 2) := by decide +kernel
theorem dX4_readLaw_6 : decode cX4_readLaw 6 = .ok (.if_icmp .lt 13, 3) := by decide +kernel
theorem dX4_readLaw_9 : decode cX4_readLaw 9 = .ok (.aload_n 0, 1) := by decide +kernel
theorem dX4_readLaw_10 : decode cX4_readLaw 10 = .ok (.iconst 4, 1) := by decide +kernel
theorem dX4_readLaw_11 : decode cX4_readLaw 11 = .ok (.aload_n 0, 1) := by decide +kernel
theorem dX4_readLaw_12 : decode cX4_readLaw 12 = .ok (.getfield 78, 3) := by decide +kernel
theorem dX4_readLaw_15 : decode cX4_readLaw 15 = .ok (.invokevirtual 93, 3) := by decide +kernel
theorem dX4_readLaw_18 : decode cX4_readLaw 18 = .ok (.ireturn, 1) := by decide +kernel
theorem dX4_readLaw_19 : decode cX4_readLaw 19 = .ok (.aload_n 0, 1) := by decide +kernel
theorem dX4_readLaw_20 : decode cX4_readLaw 20 = .ok (.invokevirtual 65, 3) := by decide +kernel
theorem dX4_readLaw_23 : decode cX4_readLaw 23 = .ok (.aload_n 0, 1) := by decide +kernel
theorem dX4_readLaw_24 : decode cX4_readLaw 24 = .ok (.aload_n 1, 1) := by decide +kernel
theorem dX4_readLaw_25 : decode cX4_readLaw 25 = .ok (.aload_n 0, 1) := by decide +kernel
theorem dX4_readLaw_26 : decode cX4_readLaw 26 = .ok (.getfield 31, 3) := by decide +kernel
theorem dX4_readLaw_29 : decode cX4_readLaw 29 = .ok (.iconst 0, 1) := by decide +kernel
theorem dX4_readLaw_30 : decode cX4_readLaw 30 = .ok (.iconst 2, 1) := by decide +kernel
theorem dX4_readLaw_31 : decode cX4_readLaw 31 = .ok (.invokevirtual 152, 3) := by decide +kernel
theorem dX4_readLaw_34 : decode cX4_readLaw 34 = .ok (.ifCond .ne 5, 3) := by decide +kernel
theorem dX4_readLaw_37 : decode cX4_readLaw 37 = .ok (.iconst 0, 1) := by decide +kernel
theorem dX4_readLaw_38 : decode cX4_readLaw 38 = .ok (.ireturn, 1) := by decide +kernel
theorem dX4_readLaw_39 : decode cX4_readLaw 39 = .ok (.aload_n 1, 1) := by decide +kernel
theorem dX4_readLaw_40 : decode cX4_readLaw 40 = .ok (.aload_n 0, 1) := by decide +kernel
theorem dX4_readLaw_41 : decode cX4_readLaw 41 = .ok (.getfield 31, 3) := by decide +kernel
theorem dX4_readLaw_44 : decode cX4_readLaw 44 = .ok (.invokevirtual 156, 3) := by decide +kernel
theorem dX4_readLaw_47 : decode cX4_readLaw 47 = .ok (.iconst 1, 1) := by decide +kernel
theorem dX4_readLaw_48 : decode cX4_readLaw 48 = .ok (.ireturn, 1) := by decide +kernel
theorem dX4_readSumAlone_0 : decode cX4_readSumAlone 0 = .ok (.aload_n 0, 1) := by decide +kernel
theorem dX4_readSumAlone_1 : decode cX4_readSumAlone 1 = .ok (.aload_n 1, 1) := by decide +kernel
theorem dX4_readSumAlone_2 : decode cX4_readSumAlone 2 = .ok (.aload_n 0, 1) := by decide +kernel
theorem dX4_readSumAlone_3 : decode cX4_readSumAlone 3 = .ok (.getfield 31, 3) := by decide +kernel
theorem dX4_readSumAlone_6 : decode cX4_readSumAlone 6 = .ok (.iconst 0, 1) := by decide +kernel
theorem dX4_readSumAlone_7 : decode cX4_readSumAlone 7 = .ok (.iconst 1, 1) := by decide +kernel
theorem dX4_readSumAlone_8 : decode cX4_readSumAlone 8 = .ok (.invokevirtual 152, 3) := by decide +kernel
theorem dX4_readSumAlone_11 : decode cX4_readSumAlone 11 = .ok (.ifCond .ne 5, 3) := by decide +kernel
theorem dX4_readSumAlone_14 : decode cX4_readSumAlone 14 = .ok (.iconst 0, 1) := by decide +kernel
theorem dX4_readSumAlone_15 : decode cX4_readSumAlone 15 = .ok (.ireturn, 1) := by decide +kernel
theorem dX4_readSumAlone_16 : decode cX4_readSumAlone 16 = .ok (.aload_n 0, 1) := by decide +kernel
theorem dX4_readSumAlone_17 : decode cX4_readSumAlone 17 = .ok (.getfield 75, 3) := by decide +kernel
theorem dX4_readSumAlone_20 : decode cX4_readSumAlone 20 = .ok (.ifCond .eq 15, 3) := by decide +kernel
theorem dX4_readSumAlone_23 : decode cX4_readSumAlone 23 = .ok (.aload_n 0, 1) := by decide +kernel
theorem dX4_readSumAlone_24 : decode cX4_readSumAlone 24 = .ok (.iconst 1, 1) := by decide +kernel
theorem dX4_readSumAlone_25 : decode cX4_readSumAlone 25 = .ok (.aload_n 0, 1) := by decide +kernel
theorem dX4_readSumAlone_26 : decode cX4_readSumAlone 26 = .ok (.getfield 78, 3) := by decide +kernel
theorem dX4_readSumAlone_29 : decode cX4_readSumAlone 29 = .ok (.invokevirtual 93, 3) := by decide +kernel
theorem dX4_readSumAlone_32 : decode cX4_readSumAlone 32 = .ok (.ifCond .eq 7, 3) := by decide +kernel
theorem dX4_readSumAlone_35 : decode cX4_readSumAlone 35 = .ok (.iconst 1, 1) := by decide +kernel
theorem dX4_readSumAlone_36 : decode cX4_readSumAlone 36 = .ok (.goto 4, 3) := by decide +kernel
theorem dX4_readSumAlone_39 : decode cX4_readSumAlone 39 = .ok (.iconst 0, 1) := by decide +kernel
theorem dX4_readSumAlone_40 : decode cX4_readSumAlone 40 = .ok (.ireturn, 1) := by decide +kernel
theorem dX4_readTerms_0 : decode cX4_readTerms 0 = .ok (.aload_n 0, 1) := by decide +kernel
theorem dX4_readTerms_1 : decode cX4_readTerms 1 = .ok (.getfield 75, 3) := by decide +kernel
theorem dX4_readTerms_4 : decode cX4_readTerms 4 = .ok (.bipush 45, 2) := by decide +kernel
theorem dX4_readTerms_6 : decode cX4_readTerms 6 = .ok (.if_icmp .ne 7, 3) := by decide +kernel
theorem dX4_readTerms_9 : decode cX4_readTerms 9 = .ok (.iconst 1, 1) := by decide +kernel
theorem dX4_readTerms_10 : decode cX4_readTerms 10 = .ok (.goto 4, 3) := by decide +kernel
theorem dX4_readTerms_13 : decode cX4_readTerms 13 = .ok (.iconst 0, 1) := by decide +kernel
theorem dX4_readTerms_14 : decode cX4_readTerms 14 = .ok (.istore 5, 2) := by decide +kernel
theorem dX4_readTerms_16 : decode cX4_readTerms 16 = .ok (.iload 5, 2) := by decide +kernel
theorem dX4_readTerms_18 : decode cX4_readTerms 18 = .ok (.ifCond .eq 7, 3) := by decide +kernel
theorem dX4_readTerms_21 : decode cX4_readTerms 21 = .ok (.aload_n 0, 1) := by decide +kernel
theorem dX4_readTerms_22 : decode cX4_readTerms 22 = .ok (.invokevirtual 65, 3) := by decide +kernel
theorem dX4_readTerms_25 : decode cX4_readTerms 25 = .ok (.iconst 0, 1) := by decide +kernel
theorem dX4_readTerms_26 : decode cX4_readTerms 26 = .ok (.istore 6, 2) := by decide +kernel
theorem dX4_readTerms_28 : decode cX4_readTerms 28 = .ok (.iload 6, 2) := by decide +kernel
theorem dX4_readTerms_30 : decode cX4_readTerms 30 = .ok (.aload_n 0, 1) := by decide +kernel
theorem dX4_readTerms_31 : decode cX4_readTerms 31 = .ok (.getfield 41, 3) := by decide +kernel
theorem dX4_readTerms_34 : decode cX4_readTerms 34 = .ok (.if_icmp .ge 173, 3) := by decide +kernel
theorem dX4_readTerms_37 : decode cX4_readTerms 37 = .ok (.iconst 1, 1) := by decide +kernel
theorem dX4_readTerms_38 : decode cX4_readTerms 38 = .ok (.istore 7, 2) := by decide +kernel
theorem dX4_readTerms_40 : decode cX4_readTerms 40 = .ok (.aload_n 0, 1) := by decide +kernel
theorem dX4_readTerms_41 : decode cX4_readTerms 41 = .ok (.getfield 75, 3) := by decide +kernel
theorem dX4_readTerms_44 : decode cX4_readTerms 44 = .ok (.iconst 3, 1) := by decide +kernel
theorem dX4_readTerms_45 : decode cX4_readTerms 45 = .ok (.if_icmp .ne 14, 3) := by decide +kernel
theorem dX4_readTerms_48 : decode cX4_readTerms 48 = .ok (.aload_n 0, 1) := by decide +kernel
theorem dX4_readTerms_49 : decode cX4_readTerms 49 = .ok (.getfield 81, 3) := by decide +kernel
theorem dX4_readTerms_52 : decode cX4_readTerms 52 = .ok (.l2i, 1) := by decide +kernel
theorem dX4_readTerms_53 : decode cX4_readTerms 53 = .ok (.istore 7, 2) := by decide +kernel
theorem dX4_readTerms_55 : decode cX4_readTerms 55 = .ok (.aload_n 0, 1) := by decide +kernel
theorem dX4_readTerms_56 : decode cX4_readTerms 56 = .ok (.invokevirtual 65, 3) := by decide +kernel
theorem dX4_readTerms_59 : decode cX4_readTerms 59 = .ok (.aload_n 0, 1) := by decide +kernel
theorem dX4_readTerms_60 : decode cX4_readTerms 60 = .ok (.getfield 78, 3) := by decide +kernel
theorem dX4_readTerms_63 : decode cX4_readTerms 63 = .ok (.istore 8, 2) := by decide +kernel
theorem dX4_readTerms_65 : decode cX4_readTerms 65 = .ok (.aload_n 0, 1) := by decide +kernel
theorem dX4_readTerms_66 : decode cX4_readTerms 66 = .ok (.aload_n 1, 1) := by decide +kernel
theorem dX4_readTerms_67 : decode cX4_readTerms 67 = .ok (.invokevirtual 160, 3) := by decide +kernel
theorem dX4_readTerms_70 : decode cX4_readTerms 70 = .ok (.ifCond .ne 5, 3) := by decide +kernel
theorem dX4_readTerms_73 : decode cX4_readTerms 73 = .ok (.iconst 0, 1) := by decide +kernel
theorem dX4_readTerms_74 : decode cX4_readTerms 74 = .ok (.ireturn, 1) := by decide +kernel
theorem dX4_readTerms_75 : decode cX4_readTerms 75 = .ok (.iload 6, 2) := by decide +kernel
theorem dX4_readTerms_77 : decode cX4_readTerms 77 = .ok (.ifCond .ne 19, 3) := by decide +kernel
theorem dX4_readTerms_80 : decode cX4_readTerms 80 = .ok (.aload_n 2, 1) := by decide +kernel
theorem dX4_readTerms_81 : decode cX4_readTerms 81 = .ok (.iload_n 3, 1) := by decide +kernel
theorem dX4_readTerms_82 : decode cX4_readTerms 82 = .ok (.ifCond .ne 10, 3) := by decide +kernel
theorem dX4_readTerms_85 : decode cX4_readTerms 85 = .ok (.aload_n 0, 1) := by decide +kernel
theorem dX4_readTerms_86 : decode cX4_readTerms 86 = .ok (.getfield 163, 3) := by decide +kernel
theorem dX4_readTerms_89 : decode cX4_readTerms 89 = .ok (.goto 4, 3) := by decide +kernel
theorem dX4_readTerms_92 : decode cX4_readTerms 92 = .ok (.iload_n 3, 1) := by decide +kernel
theorem dX4_readTerms_93 : decode cX4_readTerms 93 = .ok (.invokevirtual 166, 3) := by decide +kernel
theorem dX4_readTerms_96 : decode cX4_readTerms 96 = .ok (.aload_n 0, 1) := by decide +kernel
theorem dX4_readTerms_97 : decode cX4_readTerms 97 = .ok (.getfield 163, 3) := by decide +kernel
theorem dX4_readTerms_100 : decode cX4_readTerms 100 = .ok (.aload_n 2, 1) := by decide +kernel
theorem dX4_readTerms_101 : decode cX4_readTerms 101 = .ok (.getfield 169, 3) := by decide +kernel
theorem dX4_readTerms_104 : decode cX4_readTerms 104 = .ok (.if_icmp .ne 12, 3) := by decide +kernel
theorem dX4_readTerms_107 : decode cX4_readTerms 107 = .ok (.aload_n 0, 1) := by decide +kernel
theorem dX4_readTerms_108 : decode cX4_readTerms 108 = .ok (.getfield 163, 3) := by decide +kernel
theorem dX4_readTerms_111 : decode cX4_readTerms 111 = .ok (.iload 4, 2) := by decide +kernel
theorem dX4_readTerms_113 : decode cX4_readTerms 113 = .ok (.if_icmp .ge 11, 3) := by decide +kernel
theorem dX4_readTerms_116 : decode cX4_readTerms 116 = .ok (.aload_n 0, 1) := by decide +kernel
theorem dX4_readTerms_117 : decode cX4_readTerms 117 = .ok (.iconst 3, 1) := by decide +kernel
theorem dX4_readTerms_118 : decode cX4_readTerms 118 = .ok (.iload 8, 2) := by decide +kernel
theorem dX4_readTerms_120 : decode cX4_readTerms 120 = .ok (.invokevirtual 93, 3) := by decide +kernel
theorem dX4_readTerms_123 : decode cX4_readTerms 123 = .ok (.ireturn, 1) := by decide +kernel
theorem dX4_readTerms_124 : decode cX4_readTerms 124 = .ok (.aload_n 0, 1) := by decide +kernel
theorem dX4_readTerms_125 : decode cX4_readTerms 125 = .ok (.getfield 25, 3) := by decide +kernel
theorem dX4_readTerms_128 : decode cX4_readTerms 128 = .ok (.iconst 0, 1) := by decide +kernel
theorem dX4_readTerms_129 : decode cX4_readTerms 129 = .ok (.aload_n 0, 1) := by decide +kernel
theorem dX4_readTerms_130 : decode cX4_readTerms 130 = .ok (.getfield 172, 3) := by decide +kernel
theorem dX4_readTerms_133 : decode cX4_readTerms 133 = .ok (.invokestatic 175, 3) := by decide +kernel
theorem dX4_readTerms_136 : decode cX4_readTerms 136 = .ok (.istore 9, 2) := by decide +kernel
theorem dX4_readTerms_138 : decode cX4_readTerms 138 = .ok (.aload_n 2, 1) := by decide +kernel
theorem dX4_readTerms_139 : decode cX4_readTerms 139 = .ok (.iload 9, 2) := by decide +kernel
theorem dX4_readTerms_141 : decode cX4_readTerms 141 = .ok (.iload 5, 2) := by decide +kernel
theorem dX4_readTerms_143 : decode cX4_readTerms 143 = .ok (.ifCond .eq 9, 3) := by decide +kernel
theorem dX4_readTerms_146 : decode cX4_readTerms 146 = .ok (.iload 7, 2) := by decide +kernel
theorem dX4_readTerms_148 : decode cX4_readTerms 148 = .ok (.ineg, 1) := by decide +kernel
theorem dX4_readTerms_149 : decode cX4_readTerms 149 = .ok (.goto 5, 3) := by decide +kernel
theorem dX4_readTerms_152 : decode cX4_readTerms 152 = .ok (.iload 7, 2) := by decide +kernel
theorem dX4_readTerms_154 : decode cX4_readTerms 154 = .ok (.aload_n 1, 1) := by decide +kernel
theorem dX4_readTerms_155 : decode cX4_readTerms 155 = .ok (.getfield 130, 3) := by decide +kernel
theorem dX4_readTerms_158 : decode cX4_readTerms 158 = .ok (.invokevirtual 181, 3) := by decide +kernel
theorem dX4_readTerms_161 : decode cX4_readTerms 161 = .ok (.aload_n 0, 1) := by decide +kernel
theorem dX4_readTerms_162 : decode cX4_readTerms 162 = .ok (.getfield 75, 3) := by decide +kernel
theorem dX4_readTerms_165 : decode cX4_readTerms 165 = .ok (.bipush 43, 2) := by decide +kernel
theorem dX4_readTerms_167 : decode cX4_readTerms 167 = .ok (.if_icmp .eq 14, 3) := by decide +kernel
theorem dX4_readTerms_170 : decode cX4_readTerms 170 = .ok (.aload_n 0, 1) := by decide +kernel
theorem dX4_readTerms_171 : decode cX4_readTerms 171 = .ok (.getfield 75, 3) := by decide +kernel
theorem dX4_readTerms_174 : decode cX4_readTerms 174 = .ok (.bipush 45, 2) := by decide +kernel
theorem dX4_readTerms_176 : decode cX4_readTerms 176 = .ok (.if_icmp .eq 5, 3) := by decide +kernel
theorem dX4_readTerms_179 : decode cX4_readTerms 179 = .ok (.iconst 1, 1) := by decide +kernel
theorem dX4_readTerms_180 : decode cX4_readTerms 180 = .ok (.ireturn, 1) := by decide +kernel
theorem dX4_readTerms_181 : decode cX4_readTerms 181 = .ok (.aload_n 0, 1) := by decide +kernel
theorem dX4_readTerms_182 : decode cX4_readTerms 182 = .ok (.getfield 75, 3) := by decide +kernel
theorem dX4_readTerms_185 : decode cX4_readTerms 185 = .ok (.bipush 45, 2) := by decide +kernel
theorem dX4_readTerms_187 : decode cX4_readTerms 187 = .ok (.if_icmp .ne 7, 3) := by decide +kernel
theorem dX4_readTerms_190 : decode cX4_readTerms 190 = .ok (.iconst 1, 1) := by decide +kernel
theorem dX4_readTerms_191 : decode cX4_readTerms 191 = .ok (.goto 4, 3) := by decide +kernel
theorem dX4_readTerms_194 : decode cX4_readTerms 194 = .ok (.iconst 0, 1) := by decide +kernel
theorem dX4_readTerms_195 : decode cX4_readTerms 195 = .ok (.istore 5, 2) := by decide +kernel
theorem dX4_readTerms_197 : decode cX4_readTerms 197 = .ok (.aload_n 0, 1) := by decide +kernel
theorem dX4_readTerms_198 : decode cX4_readTerms 198 = .ok (.invokevirtual 65, 3) := by decide +kernel
theorem dX4_readTerms_201 : decode cX4_readTerms 201 = .ok (.iinc 6 1, 3) := by decide +kernel
theorem dX4_readTerms_204 : decode cX4_readTerms 204 = .ok (.goto (-176), 3) := by decide +kernel
theorem dX4_readTerms_207 : decode cX4_readTerms 207 = .ok (.aload_n 0, 1) := by decide +kernel
theorem dX4_readTerms_208 : decode cX4_readTerms 208 = .ok (.iconst 1, 1) := by decide +kernel
theorem dX4_readTerms_209 : decode cX4_readTerms 209 = .ok (.aload_n 0, 1) := by decide +kernel
theorem dX4_readTerms_210 : decode cX4_readTerms 210 = .ok (.getfield 78, 3) := by decide +kernel
theorem dX4_readTerms_213 : decode cX4_readTerms 213 = .ok (.invokevirtual 93, 3) := by decide +kernel
theorem dX4_readTerms_216 : decode cX4_readTerms 216 = .ok (.ireturn, 1) := by decide +kernel
theorem dX4_readTree_0 : decode cX4_readTree 0 = .ok (.aload_n 0, 1) := by decide +kernel
theorem dX4_readTree_1 : decode cX4_readTree 1 = .ok (.iconst 0, 1) := by decide +kernel
theorem dX4_readTree_2 : decode cX4_readTree 2 = .ok (.putfield 172, 3) := by decide +kernel
theorem dX4_readTree_5 : decode cX4_readTree 5 = .ok (.aload_n 0, 1) := by decide +kernel
theorem dX4_readTree_6 : decode cX4_readTree 6 = .ok (.iconst 0, 1) := by decide +kernel
theorem dX4_readTree_7 : decode cX4_readTree 7 = .ok (.putfield 163, 3) := by decide +kernel
theorem dX4_readTree_10 : decode cX4_readTree 10 = .ok (.iconst 0, 1) := by decide +kernel
theorem dX4_readTree_11 : decode cX4_readTree 11 = .ok (.istore_n 2, 1) := by decide +kernel
theorem dX4_readTree_12 : decode cX4_readTree 12 = .ok (.iconst 0, 1) := by decide +kernel
theorem dX4_readTree_13 : decode cX4_readTree 13 = .ok (.istore_n 3, 1) := by decide +kernel
theorem dX4_readTree_14 : decode cX4_readTree 14 = .ok (.iload_n 3, 1) := by decide +kernel
theorem dX4_readTree_15 : decode cX4_readTree 15 = .ok (.sipush 480, 3) := by decide +kernel
theorem dX4_readTree_18 : decode cX4_readTree 18 = .ok (.if_icmp .ge 136, 3) := by decide +kernel
theorem dX4_readTree_21 : decode cX4_readTree 21 = .ok (.aload_n 0, 1) := by decide +kernel
theorem dX4_readTree_22 : decode cX4_readTree 22 = .ok (.ldc2_w 85, 3) := by decide +kernel
theorem dX4_readTree_25 : decode cX4_readTree 25 = .ok (.invokevirtual 106, 3) := by decide +kernel
theorem dX4_readTree_28 : decode cX4_readTree 28 = .ok (.ifCond .ne 53, 3) := by decide +kernel
theorem dX4_readTree_31 : decode cX4_readTree 31 = .ok (.aload_n 0, 1) := by decide +kernel
theorem dX4_readTree_32 : decode cX4_readTree 32 = .ok (.aload_n 1, 1) := by decide +kernel
theorem dX4_readTree_33 : decode cX4_readTree 33 = .ok (.invokevirtual 185, 3) := by decide +kernel
theorem dX4_readTree_36 : decode cX4_readTree 36 = .ok (.istore 4, 2) := by decide +kernel
theorem dX4_readTree_38 : decode cX4_readTree 38 = .ok (.iload 4, 2) := by decide +kernel
theorem dX4_readTree_40 : decode cX4_readTree 40 = .ok (.ifCond .lt 12, 3) := by decide +kernel
theorem dX4_readTree_43 : decode cX4_readTree 43 = .ok (.aload_n 0, 1) := by decide +kernel
theorem dX4_readTree_44 : decode cX4_readTree 44 = .ok (.bipush 40, 2) := by decide +kernel
theorem dX4_readTree_46 : decode cX4_readTree 46 = .ok (.invokevirtual 120, 3) := by decide +kernel
theorem dX4_readTree_49 : decode cX4_readTree 49 = .ok (.ifCond .ne 5, 3) := by decide +kernel
theorem dX4_readTree_52 : decode cX4_readTree 52 = .ok (.iconst 0, 1) := by decide +kernel
theorem dX4_readTree_53 : decode cX4_readTree 53 = .ok (.ireturn, 1) := by decide +kernel
theorem dX4_readTree_54 : decode cX4_readTree 54 = .ok (.aload_n 0, 1) := by decide +kernel
theorem dX4_readTree_55 : decode cX4_readTree 55 = .ok (.getfield 25, 3) := by decide +kernel
theorem dX4_readTree_58 : decode cX4_readTree 58 = .ok (.iload_n 3, 1) := by decide +kernel
theorem dX4_readTree_59 : decode cX4_readTree 59 = .ok (.iload 4, 2) := by decide +kernel
theorem dX4_readTree_61 : decode cX4_readTree 61 = .ok (.iastore, 1) := by decide +kernel
theorem dX4_readTree_62 : decode cX4_readTree 62 = .ok (.aload_n 0, 1) := by decide +kernel
theorem dX4_readTree_63 : decode cX4_readTree 63 = .ok (.getfield 22, 3) := by decide +kernel
theorem dX4_readTree_66 : decode cX4_readTree 66 = .ok (.iload_n 2, 1) := by decide +kernel
theorem dX4_readTree_67 : decode cX4_readTree 67 = .ok (.aload_n 1, 1) := by decide +kernel
theorem dX4_readTree_68 : decode cX4_readTree 68 = .ok (.getfield 189, 3) := by decide +kernel
theorem dX4_readTree_71 : decode cX4_readTree 71 = .ok (.iload 4, 2) := by decide +kernel
theorem dX4_readTree_73 : decode cX4_readTree 73 = .ok (.iaload, 1) := by decide +kernel
theorem dX4_readTree_74 : decode cX4_readTree 74 = .ok (.iastore, 1) := by decide +kernel
theorem dX4_readTree_75 : decode cX4_readTree 75 = .ok (.iinc 2 1, 3) := by decide +kernel
theorem dX4_readTree_78 : decode cX4_readTree 78 = .ok (.goto 70, 3) := by decide +kernel
theorem dX4_readTree_81 : decode cX4_readTree 81 = .ok (.aload_n 0, 1) := by decide +kernel
theorem dX4_readTree_82 : decode cX4_readTree 82 = .ok (.getfield 163, 3) := by decide +kernel
theorem dX4_readTree_85 : decode cX4_readTree 85 = .ok (.bipush 7, 2) := by decide +kernel
theorem dX4_readTree_87 : decode cX4_readTree 87 = .ok (.if_icmp .lt 13, 3) := by decide +kernel
theorem dX4_readTree_90 : decode cX4_readTree 90 = .ok (.aload_n 0, 1) := by decide +kernel
theorem dX4_readTree_91 : decode cX4_readTree 91 = .ok (.iconst 4, 1) := by decide +kernel
theorem dX4_readTree_92 : decode cX4_readTree 92 = .ok (.aload_n 0, 1) := by decide +kernel
theorem dX4_readTree_93 : decode cX4_readTree 93 = .ok (.getfield 78, 3) := by decide +kernel
theorem dX4_readTree_96 : decode cX4_readTree 96 = .ok (.invokevirtual 93, 3) := by decide +kernel
theorem dX4_readTree_99 : decode cX4_readTree 99 = .ok (.ireturn, 1) := by decide +kernel
theorem dX4_readTree_100 : decode cX4_readTree 100 = .ok (.aload_n 0, 1) := by decide +kernel
theorem dX4_readTree_101 : decode cX4_readTree 101 = .ok (.dup, 1) := by decide +kernel
theorem dX4_readTree_102 : decode cX4_readTree 102 = .ok (.getfield 163, 3) := by decide +kernel
theorem dX4_readTree_105 : decode cX4_readTree 105 = .ok (.iconst 1, 1) := by decide +kernel
theorem dX4_readTree_106 : decode cX4_readTree 106 = .ok (.iadd, 1) := by decide +kernel
theorem dX4_readTree_107 : decode cX4_readTree 107 = .ok (.putfield 163, 3) := by decide +kernel
theorem dX4_readTree_110 : decode cX4_readTree 110 = .ok (.aload_n 0, 1) := by decide +kernel
theorem dX4_readTree_111 : decode cX4_readTree 111 = .ok (.getfield 25, 3) := by decide +kernel
theorem dX4_readTree_114 : decode cX4_readTree 114 = .ok (.iload_n 3, 1) := by decide +kernel
theorem dX4_readTree_115 : decode cX4_readTree 115 = .ok (.iconst 3, 1) := by decide +kernel
theorem dX4_readTree_116 : decode cX4_readTree 116 = .ok (.iastore, 1) := by decide +kernel
theorem dX4_readTree_117 : decode cX4_readTree 117 = .ok (.aload_n 0, 1) := by decide +kernel
theorem dX4_readTree_118 : decode cX4_readTree 118 = .ok (.invokevirtual 65, 3) := by decide +kernel
theorem dX4_readTree_121 : decode cX4_readTree 121 = .ok (.aload_n 0, 1) := by decide +kernel
theorem dX4_readTree_122 : decode cX4_readTree 122 = .ok (.iload_n 2, 1) := by decide +kernel
theorem dX4_readTree_123 : decode cX4_readTree 123 = .ok (.invokevirtual 192, 3) := by decide +kernel
theorem dX4_readTree_126 : decode cX4_readTree 126 = .ok (.istore_n 2, 1) := by decide +kernel
theorem dX4_readTree_127 : decode cX4_readTree 127 = .ok (.iload_n 2, 1) := by decide +kernel
theorem dX4_readTree_128 : decode cX4_readTree 128 = .ok (.ifCond .gt 20, 3) := by decide +kernel
theorem dX4_readTree_131 : decode cX4_readTree 131 = .ok (.aload_n 0, 1) := by decide +kernel
theorem dX4_readTree_132 : decode cX4_readTree 132 = .ok (.iload_n 3, 1) := by decide +kernel
theorem dX4_readTree_133 : decode cX4_readTree 133 = .ok (.iconst 1, 1) := by decide +kernel
theorem dX4_readTree_134 : decode cX4_readTree 134 = .ok (.iadd, 1) := by decide +kernel
theorem dX4_readTree_135 : decode cX4_readTree 135 = .ok (.putfield 172, 3) := by decide +kernel
theorem dX4_readTree_138 : decode cX4_readTree 138 = .ok (.iload_n 2, 1) := by decide +kernel
theorem dX4_readTree_139 : decode cX4_readTree 139 = .ok (.ifCond .ne 7, 3) := by decide +kernel
theorem dX4_readTree_142 : decode cX4_readTree 142 = .ok (.iconst 1, 1) := by decide +kernel
theorem dX4_readTree_143 : decode cX4_readTree 143 = .ok (.goto 4, 3) := by decide +kernel
theorem dX4_readTree_146 : decode cX4_readTree 146 = .ok (.iconst 0, 1) := by decide +kernel
theorem dX4_readTree_147 : decode cX4_readTree 147 = .ok (.ireturn, 1) := by decide +kernel
theorem dX4_readTree_148 : decode cX4_readTree 148 = .ok (.iinc 3 1, 3) := by decide +kernel
theorem dX4_readTree_151 : decode cX4_readTree 151 = .ok (.goto (-137), 3) := by decide +kernel
theorem dX4_readTree_154 : decode cX4_readTree 154 = .ok (.aload_n 0, 1) := by decide +kernel
theorem dX4_readTree_155 : decode cX4_readTree 155 = .ok (.iconst 1, 1) := by decide +kernel
theorem dX4_readTree_156 : decode cX4_readTree 156 = .ok (.aload_n 0, 1) := by decide +kernel
theorem dX4_readTree_157 : decode cX4_readTree 157 = .ok (.getfield 78, 3) := by decide +kernel
theorem dX4_readTree_160 : decode cX4_readTree 160 = .ok (.invokevirtual 93, 3) := by decide +kernel
theorem dX4_readTree_163 : decode cX4_readTree 163 = .ok (.ireturn, 1) := by decide +kernel
theorem dX4_readActName_0 : decode cX4_readActName 0 = .ok (.aload_n 0, 1) := by decide +kernel
theorem dX4_readActName_1 : decode cX4_readActName 1 = .ok (.invokevirtual 136, 3) := by decide +kernel
theorem dX4_readActName_4 : decode cX4_readActName 4 = .ok (.ifCond .ne 15, 3) := by decide +kernel
theorem dX4_readActName_7 : decode cX4_readActName 7 = .ok (.aload_n 0, 1) := by decide +kernel
theorem dX4_readActName_8 : decode cX4_readActName 8 = .ok (.iconst 1, 1) := by decide +kernel
theorem dX4_readActName_9 : decode cX4_readActName 9 = .ok (.aload_n 0, 1) := by decide +kernel
theorem dX4_readActName_10 : decode cX4_readActName 10 = .ok (.getfield 78, 3) := by decide +kernel
theorem dX4_readActName_13 : decode cX4_readActName 13 = .ok (.invokevirtual 93, 3) := by decide +kernel
theorem dX4_readActName_16 : decode cX4_readActName 16 = .ok (.pop, 1) := by decide +kernel
theorem dX4_readActName_17 : decode cX4_readActName 17 = .ok (.iconst (-1), 1) := by decide +kernel
theorem dX4_readActName_18 : decode cX4_readActName 18 = .ok (.ireturn, 1) := by decide +kernel
theorem dX4_readActName_19 : decode cX4_readActName 19 = .ok (.aload_n 1, 1) := by decide +kernel
theorem dX4_readActName_20 : decode cX4_readActName 20 = .ok (.aload_n 0, 1) := by decide +kernel
theorem dX4_readActName_21 : decode cX4_readActName 21 = .ok (.getfield 81, 3) := by decide +kernel
theorem dX4_readActName_24 : decode cX4_readActName 24 = .ok (.invokevirtual 140, 3) := by decide +kernel
theorem dX4_readActName_27 : decode cX4_readActName 27 = .ok (.istore_n 2, 1) := by decide +kernel
theorem dX4_readActName_28 : decode cX4_readActName 28 = .ok (.iload_n 2, 1) := by decide +kernel
theorem dX4_readActName_29 : decode cX4_readActName 29 = .ok (.ifCond .ge 15, 3) := by decide +kernel
theorem dX4_readActName_32 : decode cX4_readActName 32 = .ok (.aload_n 0, 1) := by decide +kernel
theorem dX4_readActName_33 : decode cX4_readActName 33 = .ok (.iconst 3, 1) := by decide +kernel
theorem dX4_readActName_34 : decode cX4_readActName 34 = .ok (.aload_n 0, 1) := by decide +kernel
theorem dX4_readActName_35 : decode cX4_readActName 35 = .ok (.getfield 78, 3) := by decide +kernel
theorem dX4_readActName_38 : decode cX4_readActName 38 = .ok (.invokevirtual 93, 3) := by decide +kernel
theorem dX4_readActName_41 : decode cX4_readActName 41 = .ok (.pop, 1) := by decide +kernel
theorem dX4_readActName_42 : decode cX4_readActName 42 = .ok (.iconst (-1), 1) := by decide +kernel
theorem dX4_readActName_43 : decode cX4_readActName 43 = .ok (.ireturn, 1) := by decide +kernel
theorem dX4_readActName_44 : decode cX4_readActName 44 = .ok (.aload_n 0, 1) := by decide +kernel
theorem dX4_readActName_45 : decode cX4_readActName 45 = .ok (.invokevirtual 65, 3) := by decide +kernel
theorem dX4_readActName_48 : decode cX4_readActName 48 = .ok (.iload_n 2, 1) := by decide +kernel
theorem dX4_readActName_49 : decode cX4_readActName 49 = .ok (.ireturn, 1) := by decide +kernel
theorem dX4_closeActs_0 : decode cX4_closeActs 0 = .ok (.iload_n 1, 1) := by decide +kernel
theorem dX4_closeActs_1 : decode cX4_closeActs 1 = .ok (.istore_n 2, 1) := by decide +kernel
theorem dX4_closeActs_2 : decode cX4_closeActs 2 = .ok (.iload_n 2, 1) := by decide +kernel
theorem dX4_closeActs_3 : decode cX4_closeActs 3 = .ok (.ifCond .le 58, 3) := by decide +kernel
theorem dX4_closeActs_6 : decode cX4_closeActs 6 = .ok (.aload_n 0, 1) := by decide +kernel
theorem dX4_closeActs_7 : decode cX4_closeActs 7 = .ok (.getfield 22, 3) := by decide +kernel
theorem dX4_closeActs_10 : decode cX4_closeActs 10 = .ok (.iload_n 2, 1) := by decide +kernel
theorem dX4_closeActs_11 : decode cX4_closeActs 11 = .ok (.iconst 1, 1) := by decide +kernel
theorem dX4_closeActs_12 : decode cX4_closeActs 12 = .ok (.isub, 1) := by decide +kernel
theorem dX4_closeActs_13 : decode cX4_closeActs 13 = .ok (.dup2, 1) := by decide +kernel
theorem dX4_closeActs_14 : decode cX4_closeActs 14 = .ok (.iaload, 1) := by decide +kernel
theorem dX4_closeActs_15 : decode cX4_closeActs 15 = .ok (.iconst 1, 1) := by decide +kernel
theorem dX4_closeActs_16 : decode cX4_closeActs 16 = .ok (.isub, 1) := by decide +kernel
theorem dX4_closeActs_17 : decode cX4_closeActs 17 = .ok (.iastore, 1) := by decide +kernel
theorem dX4_closeActs_18 : decode cX4_closeActs 18 = .ok (.aload_n 0, 1) := by decide +kernel
theorem dX4_closeActs_19 : decode cX4_closeActs 19 = .ok (.getfield 22, 3) := by decide +kernel
theorem dX4_closeActs_22 : decode cX4_closeActs 22 = .ok (.iload_n 2, 1) := by decide +kernel
theorem dX4_closeActs_23 : decode cX4_closeActs 23 = .ok (.iconst 1, 1) := by decide +kernel
theorem dX4_closeActs_24 : decode cX4_closeActs 24 = .ok (.isub, 1) := by decide +kernel
theorem dX4_closeActs_25 : decode cX4_closeActs 25 = .ok (.iaload, 1) := by decide +kernel
theorem dX4_closeActs_26 : decode cX4_closeActs 26 = .ok (.ifCond .le 18, 3) := by decide +kernel
theorem dX4_closeActs_29 : decode cX4_closeActs 29 = .ok (.aload_n 0, 1) := by decide +kernel
theorem dX4_closeActs_30 : decode cX4_closeActs 30 = .ok (.bipush 44, 2) := by decide +kernel
theorem dX4_closeActs_32 : decode cX4_closeActs 32 = .ok (.invokevirtual 120, 3) := by decide +kernel
theorem dX4_closeActs_35 : decode cX4_closeActs 35 = .ok (.ifCond .eq 7, 3) := by decide +kernel
theorem dX4_closeActs_38 : decode cX4_closeActs 38 = .ok (.iload_n 2, 1) := by decide +kernel
theorem dX4_closeActs_39 : decode cX4_closeActs 39 = .ok (.goto 4, 3) := by decide +kernel
theorem dX4_closeActs_42 : decode cX4_closeActs 42 = .ok (.iconst (-1), 1) := by decide +kernel
theorem dX4_closeActs_43 : decode cX4_closeActs 43 = .ok (.ireturn, 1) := by decide +kernel
theorem dX4_closeActs_44 : decode cX4_closeActs 44 = .ok (.aload_n 0, 1) := by decide +kernel
theorem dX4_closeActs_45 : decode cX4_closeActs 45 = .ok (.bipush 41, 2) := by decide +kernel
theorem dX4_closeActs_47 : decode cX4_closeActs 47 = .ok (.invokevirtual 120, 3) := by decide +kernel
theorem dX4_closeActs_50 : decode cX4_closeActs 50 = .ok (.ifCond .ne 5, 3) := by decide +kernel
theorem dX4_closeActs_53 : decode cX4_closeActs 53 = .ok (.iconst (-1), 1) := by decide +kernel
theorem dX4_closeActs_54 : decode cX4_closeActs 54 = .ok (.ireturn, 1) := by decide +kernel
theorem dX4_closeActs_55 : decode cX4_closeActs 55 = .ok (.iinc 2 (-1), 3) := by decide +kernel
theorem dX4_closeActs_58 : decode cX4_closeActs 58 = .ok (.goto (-56), 3) := by decide +kernel
theorem dX4_closeActs_61 : decode cX4_closeActs 61 = .ok (.iconst 0, 1) := by decide +kernel
theorem dX4_closeActs_62 : decode cX4_closeActs 62 = .ok (.ireturn, 1) := by decide +kernel
theorem dX4_readMap_0 : decode cX4_readMap 0 = .ok (.iconst 0, 1) := by decide +kernel
theorem dX4_readMap_1 : decode cX4_readMap 1 = .ok (.istore 4, 2) := by decide +kernel
theorem dX4_readMap_3 : decode cX4_readMap 3 = .ok (.iload 4, 2) := by decide +kernel
theorem dX4_readMap_5 : decode cX4_readMap 5 = .ok (.aload_n 3, 1) := by decide +kernel
theorem dX4_readMap_6 : decode cX4_readMap 6 = .ok (.arraylength, 1) := by decide +kernel
theorem dX4_readMap_7 : decode cX4_readMap 7 = .ok (.if_icmp .ge 17, 3) := by decide +kernel
theorem dX4_readMap_10 : decode cX4_readMap 10 = .ok (.aload_n 3, 1) := by decide +kernel
theorem dX4_readMap_11 : decode cX4_readMap 11 = .ok (.iload 4, 2) := by decide +kernel
theorem dX4_readMap_13 : decode cX4_readMap 13 = .ok (.aaload, 1) := by decide +kernel
theorem dX4_readMap_14 : decode cX4_readMap 14 = .ok (.iconst 0, 1) := by decide +kernel
theorem dX4_readMap_15 : decode cX4_readMap 15 = .ok (.invokevirtual 166, 3) := by decide +kernel
theorem dX4_readMap_18 : decode cX4_readMap 18 = .ok (.iinc 4 1, 3) := by decide +kernel
theorem dX4_readMap_21 : decode cX4_readMap 21 = .ok (.goto (-18), 3) := by decide +kernel
theorem dX4_readMap_24 : decode cX4_readMap 24 = .ok (.iconst 0, 1) := by decide +kernel
theorem dX4_readMap_25 : decode cX4_readMap 25 = .ok (.istore 4, 2) := by decide +kernel
theorem dX4_readMap_27 : decode cX4_readMap 27 = .ok (.iload 4, 2) := by decide +kernel
theorem dX4_readMap_29 : decode cX4_readMap 29 = .ok (.aload_n 0, 1) := by decide +kernel
theorem dX4_readMap_30 : decode cX4_readMap 30 = .ok (.getfield 41, 3) := by decide +kernel
theorem dX4_readMap_33 : decode cX4_readMap 33 = .ok (.if_icmp .ge 108, 3) := by decide +kernel
theorem dX4_readMap_36 : decode cX4_readMap 36 = .ok (.aload_n 0, 1) := by decide +kernel
theorem dX4_readMap_37 : decode cX4_readMap 37 = .ok (.getfield 75, 3) := by decide +kernel
theorem dX4_readMap_40 : decode cX4_readMap 40 = .ok (.ifCond .ne 10, 3) := by decide +kernel
theorem dX4_readMap_43 : decode cX4_readMap 43 = .ok (.aload_n 0, 1) := by decide +kernel
theorem dX4_readMap_44 : decode cX4_readMap 44 = .ok (.aload_n 1, 1) := by decide +kernel
theorem dX4_readMap_45 : decode cX4_readMap 45 = .ok (.aload_n 3, 1) := by decide +kernel
theorem dX4_readMap_46 : decode cX4_readMap 46 = .ok (.invokevirtual 196, 3) := by decide +kernel
theorem dX4_readMap_49 : decode cX4_readMap 49 = .ok (.ireturn, 1) := by decide +kernel
theorem dX4_readMap_50 : decode cX4_readMap 50 = .ok (.aload_n 0, 1) := by decide +kernel
theorem dX4_readMap_51 : decode cX4_readMap 51 = .ok (.getfield 78, 3) := by decide +kernel
theorem dX4_readMap_54 : decode cX4_readMap 54 = .ok (.istore 5, 2) := by decide +kernel
theorem dX4_readMap_56 : decode cX4_readMap 56 = .ok (.aload_n 0, 1) := by decide +kernel
theorem dX4_readMap_57 : decode cX4_readMap 57 = .ok (.aload_n 1, 1) := by decide +kernel
theorem dX4_readMap_58 : decode cX4_readMap 58 = .ok (.invokevirtual 185, 3) := by decide +kernel
theorem dX4_readMap_61 : decode cX4_readMap 61 = .ok (.istore 6, 2) := by decide +kernel
theorem dX4_readMap_63 : decode cX4_readMap 63 = .ok (.iload 6, 2) := by decide +kernel
theorem dX4_readMap_65 : decode cX4_readMap 65 = .ok (.ifCond .lt 10, 3) := by decide +kernel
theorem dX4_readMap_68 : decode cX4_readMap 68 = .ok (.iload 6, 2) := by decide +kernel
theorem dX4_readMap_70 : decode cX4_readMap 70 = .ok (.aload_n 3, 1) := by decide +kernel
theorem dX4_readMap_71 : decode cX4_readMap 71 = .ok (.arraylength, 1) := by decide +kernel
theorem dX4_readMap_72 : decode cX4_readMap 72 = .ok (.if_icmp .lt 5, 3) := by decide +kernel
theorem dX4_readMap_75 : decode cX4_readMap 75 = .ok (.iconst 0, 1) := by decide +kernel
theorem dX4_readMap_76 : decode cX4_readMap 76 = .ok (.ireturn, 1) := by decide +kernel
theorem dX4_readMap_77 : decode cX4_readMap 77 = .ok (.aload_n 3, 1) := by decide +kernel
theorem dX4_readMap_78 : decode cX4_readMap 78 = .ok (.iload 6, 2) := by decide +kernel
theorem dX4_readMap_80 : decode cX4_readMap 80 = .ok (.aaload, 1) := by decide +kernel
theorem dX4_readMap_81 : decode cX4_readMap 81 = .ok (.getfield 169, 3) := by decide +kernel
theorem dX4_readMap_84 : decode cX4_readMap 84 = .ok (.ifCond .le 11, 3) := by decide +kernel
theorem dX4_readMap_87 : decode cX4_readMap 87 = .ok (.aload_n 0, 1) := by decide +kernel
theorem dX4_readMap_88 : decode cX4_readMap 88 = .ok (.iconst 3, 1) := by decide +kernel
theorem dX4_readMap_89 : decode cX4_readMap 89 = .ok (.iload 5, 2) := by decide +kernel
theorem dX4_readMap_91 : decode cX4_readMap 91 = .ok (.invokevirtual 93, 3) := by decide +kernel
theorem dX4_readMap_94 : decode cX4_readMap 94 = .ok (.ireturn, 1) := by decide +kernel
theorem dX4_readMap_95 : decode cX4_readMap 95 = .ok (.aload_n 0, 1) := by decide +kernel
theorem dX4_readMap_96 : decode cX4_readMap 96 = .ok (.bipush 61, 2) := by decide +kernel
theorem dX4_readMap_98 : decode cX4_readMap 98 = .ok (.invokevirtual 120, 3) := by decide +kernel
theorem dX4_readMap_101 : decode cX4_readMap 101 = .ok (.ifCond .eq 32, 3) := by decide +kernel
theorem dX4_readMap_104 : decode cX4_readMap 104 = .ok (.aload_n 0, 1) := by decide +kernel
theorem dX4_readMap_105 : decode cX4_readMap 105 = .ok (.aload_n 2, 1) := by decide +kernel
theorem dX4_readMap_106 : decode cX4_readMap 106 = .ok (.aload_n 3, 1) := by decide +kernel
theorem dX4_readMap_107 : decode cX4_readMap 107 = .ok (.iload 6, 2) := by decide +kernel
theorem dX4_readMap_109 : decode cX4_readMap 109 = .ok (.aaload, 1) := by decide +kernel
theorem dX4_readMap_110 : decode cX4_readMap 110 = .ok (.aload_n 1, 1) := by decide +kernel
theorem dX4_readMap_111 : decode cX4_readMap 111 = .ok (.getfield 189, 3) := by decide +kernel
theorem dX4_readMap_114 : decode cX4_readMap 114 = .ok (.iload 6, 2) := by decide +kernel
theorem dX4_readMap_116 : decode cX4_readMap 116 = .ok (.iaload, 1) := by decide +kernel
theorem dX4_readMap_117 : decode cX4_readMap 117 = .ok (.iconst 1, 1) := by decide +kernel
theorem dX4_readMap_118 : decode cX4_readMap 118 = .ok (.invokevirtual 152, 3) := by decide +kernel
theorem dX4_readMap_121 : decode cX4_readMap 121 = .ok (.ifCond .eq 12, 3) := by decide +kernel
theorem dX4_readMap_124 : decode cX4_readMap 124 = .ok (.aload_n 0, 1) := by decide +kernel
theorem dX4_readMap_125 : decode cX4_readMap 125 = .ok (.bipush 59, 2) := by decide +kernel
theorem dX4_readMap_127 : decode cX4_readMap 127 = .ok (.invokevirtual 120, 3) := by decide +kernel
theorem dX4_readMap_130 : decode cX4_readMap 130 = .ok (.ifCond .ne 5, 3) := by decide +kernel
theorem dX4_readMap_133 : decode cX4_readMap 133 = .ok (.iconst 0, 1) := by decide +kernel
theorem dX4_readMap_134 : decode cX4_readMap 134 = .ok (.ireturn, 1) := by decide +kernel
theorem dX4_readMap_135 : decode cX4_readMap 135 = .ok (.iinc 4 1, 3) := by decide +kernel
theorem dX4_readMap_138 : decode cX4_readMap 138 = .ok (.goto (-111), 3) := by decide +kernel
theorem dX4_readMap_141 : decode cX4_readMap 141 = .ok (.aload_n 0, 1) := by decide +kernel
theorem dX4_readMap_142 : decode cX4_readMap 142 = .ok (.iconst 1, 1) := by decide +kernel
theorem dX4_readMap_143 : decode cX4_readMap 143 = .ok (.aload_n 0, 1) := by decide +kernel
theorem dX4_readMap_144 : decode cX4_readMap 144 = .ok (.getfield 78, 3) := by decide +kernel
theorem dX4_readMap_147 : decode cX4_readMap 147 = .ok (.invokevirtual 93, 3) := by decide +kernel
theorem dX4_readMap_150 : decode cX4_readMap 150 = .ok (.ireturn, 1) := by decide +kernel
theorem dX4_areAllTold_0 : decode cX4_areAllTold 0 = .ok (.iconst 0, 1) := by decide +kernel
theorem dX4_areAllTold_1 : decode cX4_areAllTold 1 = .ok (.istore_n 3, 1) := by decide +kernel
theorem dX4_areAllTold_2 : decode cX4_areAllTold 2 = .ok (.iload_n 3, 1) := by decide +kernel
theorem dX4_areAllTold_3 : decode cX4_areAllTold 3 = .ok (.aload_n 1, 1) := by decide +kernel
theorem dX4_areAllTold_4 : decode cX4_areAllTold 4 = .ok (.getfield 133, 3) := by decide +kernel
theorem dX4_areAllTold_7 : decode cX4_areAllTold 7 = .ok (.if_icmp .ge 34, 3) := by decide +kernel
theorem dX4_areAllTold_10 : decode cX4_areAllTold 10 = .ok (.iload_n 3, 1) := by decide +kernel
theorem dX4_areAllTold_11 : decode cX4_areAllTold 11 = .ok (.aload_n 2, 1) := by decide +kernel
theorem dX4_areAllTold_12 : decode cX4_areAllTold 12 = .ok (.arraylength, 1) := by decide +kernel
theorem dX4_areAllTold_13 : decode cX4_areAllTold 13 = .ok (.if_icmp .ge 28, 3) := by decide +kernel
theorem dX4_areAllTold_16 : decode cX4_areAllTold 16 = .ok (.aload_n 2, 1) := by decide +kernel
theorem dX4_areAllTold_17 : decode cX4_areAllTold 17 = .ok (.iload_n 3, 1) := by decide +kernel
theorem dX4_areAllTold_18 : decode cX4_areAllTold 18 = .ok (.aaload, 1) := by decide +kernel
theorem dX4_areAllTold_19 : decode cX4_areAllTold 19 = .ok (.getfield 169, 3) := by decide +kernel
theorem dX4_areAllTold_22 : decode cX4_areAllTold 22 = .ok (.ifCond .ne 13, 3) := by decide +kernel
theorem dX4_areAllTold_25 : decode cX4_areAllTold 25 = .ok (.aload_n 0, 1) := by decide +kernel
theorem dX4_areAllTold_26 : decode cX4_areAllTold 26 = .ok (.iconst 3, 1) := by decide +kernel
theorem dX4_areAllTold_27 : decode cX4_areAllTold 27 = .ok (.aload_n 0, 1) := by decide +kernel
theorem dX4_areAllTold_28 : decode cX4_areAllTold 28 = .ok (.getfield 78, 3) := by decide +kernel
theorem dX4_areAllTold_31 : decode cX4_areAllTold 31 = .ok (.invokevirtual 93, 3) := by decide +kernel
theorem dX4_areAllTold_34 : decode cX4_areAllTold 34 = .ok (.ireturn, 1) := by decide +kernel
theorem dX4_areAllTold_35 : decode cX4_areAllTold 35 = .ok (.iinc 3 1, 3) := by decide +kernel
theorem dX4_areAllTold_38 : decode cX4_areAllTold 38 = .ok (.goto (-36), 3) := by decide +kernel
theorem dX4_areAllTold_41 : decode cX4_areAllTold 41 = .ok (.iconst 1, 1) := by decide +kernel
theorem dX4_areAllTold_42 : decode cX4_areAllTold 42 = .ok (.ireturn, 1) := by decide +kernel
theorem dX6_init_0 : decode cX6_init 0 = .ok (.aload_n 0, 1) := by decide +kernel
theorem dX6_init_1 : decode cX6_init 1 = .ok (.invokespecial 3, 3) := by decide +kernel
theorem dX6_init_4 : decode cX6_init 4 = .ok (.aload_n 0, 1) := by decide +kernel
theorem dX6_init_5 : decode cX6_init 5 = .ok (.bipush 13, 2) := by decide +kernel
theorem dX6_init_7 : decode cX6_init 7 = .ok (.newarray .int, 2) := by decide +kernel
theorem dX6_init_9 : decode cX6_init 9 = .ok (.putfield 9, 3) := by decide +kernel
theorem dX6_init_12 : decode cX6_init 12 = .ok (.aload_n 0, 1) := by decide +kernel
theorem dX6_init_13 : decode cX6_init 13 = .ok (.bipush 13, 2) := by decide +kernel
theorem dX6_init_15 : decode cX6_init 15 = .ok (.newarray .int, 2) := by decide +kernel
theorem dX6_init_17 : decode cX6_init 17 = .ok (.putfield 15, 3) := by decide +kernel
theorem dX6_init_20 : decode cX6_init 20 = .ok (.aload_n 0, 1) := by decide +kernel
theorem dX6_init_21 : decode cX6_init 21 = .ok (.bipush 13, 2) := by decide +kernel
theorem dX6_init_23 : decode cX6_init 23 = .ok (.newarray .int, 2) := by decide +kernel
theorem dX6_init_25 : decode cX6_init 25 = .ok (.putfield 18, 3) := by decide +kernel
theorem dX6_init_28 : decode cX6_init 28 = .ok (.aload_n 0, 1) := by decide +kernel
theorem dX6_init_29 : decode cX6_init 29 = .ok (.sipush 300, 3) := by decide +kernel
theorem dX6_init_32 : decode cX6_init 32 = .ok (.newarray .int, 2) := by decide +kernel
theorem dX6_init_34 : decode cX6_init 34 = .ok (.putfield 21, 3) := by decide +kernel
theorem dX6_init_37 : decode cX6_init 37 = .ok (.return_, 1) := by decide +kernel
theorem dX6_keyOfAct_0 : decode cX6_keyOfAct 0 = .ok (.ldc 24, 2) := by decide +kernel
theorem dX6_keyOfAct_2 : decode cX6_keyOfAct 2 = .ok (.iload_n 0, 1) := by decide +kernel
theorem dX6_keyOfAct_3 : decode cX6_keyOfAct 3 = .ok (.bipush 25, 2) := by decide +kernel
theorem dX6_keyOfAct_5 : decode cX6_keyOfAct 5 = .ok (.ishl, 1) := by decide +kernel
theorem dX6_keyOfAct_6 : decode cX6_keyOfAct 6 = .ok (.ior, 1) := by decide +kernel
theorem dX6_keyOfAct_7 : decode cX6_keyOfAct 7 = .ok (.ireturn, 1) := by decide +kernel
theorem dX6_open_0 : decode cX6_open 0 = .ok (.bipush 30, 2) := by decide +kernel
theorem dX6_open_2 : decode cX6_open 2 = .ok (.istore_n 3, 1) := by decide +kernel
theorem dX6_open_3 : decode cX6_open 3 = .ok (.iconst 0, 1) := by decide +kernel
theorem dX6_open_4 : decode cX6_open 4 = .ok (.istore 4, 2) := by decide +kernel
theorem dX6_open_6 : decode cX6_open 6 = .ok (.iconst 0, 1) := by decide +kernel
theorem dX6_open_7 : decode cX6_open 7 = .ok (.istore 5, 2) := by decide +kernel
theorem dX6_open_9 : decode cX6_open 9 = .ok (.iload 5, 2) := by decide +kernel
theorem dX6_open_11 : decode cX6_open 11 = .ok (.iload_n 1, 1) := by decide +kernel
theorem dX6_open_12 : decode cX6_open 12 = .ok (.if_icmp .ge 85, 3) := by decide +kernel
theorem dX6_open_15 : decode cX6_open 15 = .ok (.iinc 3 (-3), 3) := by decide +kernel
theorem dX6_open_18 : decode cX6_open 18 = .ok (.iload_n 3, 1) := by decide +kernel
theorem dX6_open_19 : decode cX6_open 19 = .ok (.ifCond .ge 7, 3) := by decide +kernel
theorem dX6_open_22 : decode cX6_open 22 = .ok (.iconst 0, 1) := by decide +kernel
theorem dX6_open_23 : decode cX6_open 23 = .ok (.goto 9, 3) := by decide +kernel
theorem dX6_open_26 : decode cX6_open 26 = .ok (.iload_n 0, 1) := by decide +kernel
theorem dX6_open_27 : decode cX6_open 27 = .ok (.iload_n 3, 1) := by decide +kernel
theorem dX6_open_28 : decode cX6_open 28 = .ok (.iushr, 1) := by decide +kernel
theorem dX6_open_29 : decode cX6_open 29 = .ok (.bipush 7, 2) := by decide +kernel
theorem dX6_open_31 : decode cX6_open 31 = .ok (.iand, 1) := by decide +kernel
theorem dX6_open_32 : decode cX6_open 32 = .ok (.istore 6, 2) := by decide +kernel
theorem dX6_open_34 : decode cX6_open 34 = .ok (.iconst 0, 1) := by decide +kernel
theorem dX6_open_35 : decode cX6_open 35 = .ok (.istore 7, 2) := by decide +kernel
theorem dX6_open_37 : decode cX6_open 37 = .ok (.iload 7, 2) := by decide +kernel
theorem dX6_open_39 : decode cX6_open 39 = .ok (.iload 6, 2) := by decide +kernel
theorem dX6_open_41 : decode cX6_open 41 = .ok (.if_icmp .ge 35, 3) := by decide +kernel
theorem dX6_open_44 : decode cX6_open 44 = .ok (.iinc 3 (-2), 3) := by decide +kernel
theorem dX6_open_47 : decode cX6_open 47 = .ok (.iload_n 3, 1) := by decide +kernel
theorem dX6_open_48 : decode cX6_open 48 = .ok (.ifCond .lt 22, 3) := by decide +kernel
theorem dX6_open_51 : decode cX6_open 51 = .ok (.iload 4, 2) := by decide +kernel
theorem dX6_open_53 : decode cX6_open 53 = .ok (.aload_n 2, 1) := by decide +kernel
theorem dX6_open_54 : decode cX6_open 54 = .ok (.arraylength, 1) := by decide +kernel
theorem dX6_open_55 : decode cX6_open 55 = .ok (.if_icmp .ge 15, 3) := by decide +kernel
theorem dX6_open_58 : decode cX6_open 58 = .ok (.aload_n 2, 1) := by decide +kernel
theorem dX6_open_59 : decode cX6_open 59 = .ok (.iload 4, 2) := by decide +kernel
theorem dX6_open_61 : decode cX6_open 61 = .ok (.iload_n 0, 1) := by decide +kernel
theorem dX6_open_62 : decode cX6_open 62 = .ok (.iload_n 3, 1) := by decide +kernel
theorem dX6_open_63 : decode cX6_open 63 = .ok (.iushr, 1) := by decide +kernel
theorem dX6_open_64 : decode cX6_open 64 = .ok (.iconst 3, 1) := by decide +kernel
theorem dX6_open_65 : decode cX6_open 65 = .ok (.iand, 1) := by decide +kernel
theorem dX6_open_66 : decode cX6_open 66 = .ok (.iastore, 1) := by decide +kernel
theorem dX6_open_67 : decode cX6_open 67 = .ok (.iinc 4 1, 3) := by decide +kernel
theorem dX6_open_70 : decode cX6_open 70 = .ok (.iinc 7 1, 3) := by decide +kernel
theorem dX6_open_73 : decode cX6_open 73 = .ok (.goto (-36), 3) := by decide +kernel
theorem dX6_open_76 : decode cX6_open 76 = .ok (.iload 4, 2) := by decide +kernel
theorem dX6_open_78 : decode cX6_open 78 = .ok (.aload_n 2, 1) := by decide +kernel
theorem dX6_open_79 : decode cX6_open 79 = .ok (.arraylength, 1) := by decide +kernel
theorem dX6_open_80 : decode cX6_open 80 = .ok (.if_icmp .ge 11, 3) := by decide +kernel
theorem dX6_open_83 : decode cX6_open 83 = .ok (.aload_n 2, 1) := by decide +kernel
theorem dX6_open_84 : decode cX6_open 84 = .ok (.iload 4, 2) := by decide +kernel
theorem dX6_open_86 : decode cX6_open 86 = .ok (.iconst 3, 1) := by decide +kernel
theorem dX6_open_87 : decode cX6_open 87 = .ok (.iastore, 1) := by decide +kernel
theorem dX6_open_88 : decode cX6_open 88 = .ok (.iinc 4 1, 3) := by decide +kernel
theorem dX6_open_91 : decode cX6_open 91 = .ok (.iinc 5 1, 3) := by decide +kernel
theorem dX6_open_94 : decode cX6_open 94 = .ok (.goto (-85), 3) := by decide +kernel
theorem dX6_open_97 : decode cX6_open 97 = .ok (.iload 4, 2) := by decide +kernel
theorem dX6_open_99 : decode cX6_open 99 = .ok (.ireturn, 1) := by decide +kernel
theorem dX6_code_0 : decode cX6_code 0 = .ok (.iconst 0, 1) := by decide +kernel
theorem dX6_code_1 : decode cX6_code 1 = .ok (.istore_n 3, 1) := by decide +kernel
theorem dX6_code_2 : decode cX6_code 2 = .ok (.bipush 30, 2) := by decide +kernel
theorem dX6_code_4 : decode cX6_code 4 = .ok (.istore 4, 2) := by decide +kernel
theorem dX6_code_6 : decode cX6_code 6 = .ok (.iload_n 1, 1) := by decide +kernel
theorem dX6_code_7 : decode cX6_code 7 = .ok (.istore 5, 2) := by decide +kernel
theorem dX6_code_9 : decode cX6_code 9 = .ok (.iload_n 1, 1) := by decide +kernel
theorem dX6_code_10 : decode cX6_code 10 = .ok (.istore 6, 2) := by decide +kernel
theorem dX6_code_12 : decode cX6_code 12 = .ok (.iload 6, 2) := by decide +kernel
theorem dX6_code_14 : decode cX6_code 14 = .ok (.ifCond .lt 98, 3) := by decide +kernel
theorem dX6_code_17 : decode cX6_code 17 = .ok (.iload 6, 2) := by decide +kernel
theorem dX6_code_19 : decode cX6_code 19 = .ok (.iload_n 2, 1) := by decide +kernel
theorem dX6_code_20 : decode cX6_code 20 = .ok (.if_icmp .ge 92, 3) := by decide +kernel
theorem dX6_code_23 : decode cX6_code 23 = .ok (.iload 6, 2) := by decide +kernel
theorem dX6_code_25 : decode cX6_code 25 = .ok (.aload_n 0, 1) := by decide +kernel
theorem dX6_code_26 : decode cX6_code 26 = .ok (.arraylength, 1) := by decide +kernel
theorem dX6_code_27 : decode cX6_code 27 = .ok (.if_icmp .ge 85, 3) := by decide +kernel
theorem dX6_code_30 : decode cX6_code 30 = .ok (.aload_n 0, 1) := by decide +kernel
theorem dX6_code_31 : decode cX6_code 31 = .ok (.iload 6, 2) := by decide +kernel
theorem dX6_code_33 : decode cX6_code 33 = .ok (.iaload, 1) := by decide +kernel
theorem dX6_code_34 : decode cX6_code 34 = .ok (.iconst 3, 1) := by decide +kernel
theorem dX6_code_35 : decode cX6_code 35 = .ok (.if_icmp .ne 71, 3) := by decide +kernel
theorem dX6_code_38 : decode cX6_code 38 = .ok (.iinc 4 (-3), 3) := by decide +kernel
theorem dX6_code_41 : decode cX6_code 41 = .ok (.iload_n 3, 1) := by decide +kernel
theorem dX6_code_42 : decode cX6_code 42 = .ok (.iload 4, 2) := by decide +kernel
theorem dX6_code_44 : decode cX6_code 44 = .ok (.ifCond .ge 7, 3) := by decide +kernel
theorem dX6_code_47 : decode cX6_code 47 = .ok (.iconst 0, 1) := by decide +kernel
theorem dX6_code_48 : decode cX6_code 48 = .ok (.goto 11, 3) := by decide +kernel
theorem dX6_code_51 : decode cX6_code 51 = .ok (.iload 6, 2) := by decide +kernel
theorem dX6_code_53 : decode cX6_code 53 = .ok (.iload 5, 2) := by decide +kernel
theorem dX6_code_55 : decode cX6_code 55 = .ok (.isub, 1) := by decide +kernel
theorem dX6_code_56 : decode cX6_code 56 = .ok (.iload 4, 2) := by decide +kernel
theorem dX6_code_58 : decode cX6_code 58 = .ok (.ishl, 1) := by decide +kernel
theorem dX6_code_59 : decode cX6_code 59 = .ok (.ior, 1) := by decide +kernel
theorem dX6_code_60 : decode cX6_code 60 = .ok (.istore_n 3, 1) := by decide +kernel
theorem dX6_code_61 : decode cX6_code 61 = .ok (.iload 5, 2) := by decide +kernel
theorem dX6_code_63 : decode cX6_code 63 = .ok (.istore 7, 2) := by decide +kernel
theorem dX6_code_65 : decode cX6_code 65 = .ok (.iload 7, 2) := by decide +kernel
theorem dX6_code_67 : decode cX6_code 67 = .ok (.iload 6, 2) := by decide +kernel
theorem dX6_code_69 : decode cX6_code 69 = .ok (.if_icmp .ge 31, 3) := by decide +kernel
theorem dX6_code_72 : decode cX6_code 72 = .ok (.iinc 4 (-2), 3) := by decide +kernel
theorem dX6_code_75 : decode cX6_code 75 = .ok (.iload_n 3, 1) := by decide +kernel
theorem dX6_code_76 : decode cX6_code 76 = .ok (.iload 4, 2) := by decide +kernel
theorem dX6_code_78 : decode cX6_code 78 = .ok (.ifCond .ge 7, 3) := by decide +kernel
theorem dX6_code_81 : decode cX6_code 81 = .ok (.iconst 0, 1) := by decide +kernel
theorem dX6_code_82 : decode cX6_code 82 = .ok (.goto 10, 3) := by decide +kernel
theorem dX6_code_85 : decode cX6_code 85 = .ok (.aload_n 0, 1) := by decide +kernel
theorem dX6_code_86 : decode cX6_code 86 = .ok (.iload 7, 2) := by decide +kernel
theorem dX6_code_88 : decode cX6_code 88 = .ok (.iaload, 1) := by decide +kernel
theorem dX6_code_89 : decode cX6_code 89 = .ok (.iload 4, 2) := by decide +kernel
theorem dX6_code_91 : decode cX6_code 91 = .ok (.ishl, 1) := by decide +kernel
theorem dX6_code_92 : decode cX6_code 92 = .ok (.ior, 1) := by decide +kernel
theorem dX6_code_93 : decode cX6_code 93 = .ok (.istore_n 3, 1) := by decide +kernel
theorem dX6_code_94 : decode cX6_code 94 = .ok (.iinc 7 1, 3) := by decide +kernel
theorem dX6_code_97 : decode cX6_code 97 = .ok (.goto (-32), 3) := by decide +kernel
theorem dX6_code_100 : decode cX6_code 100 = .ok (.iload 6, 2) := by decide +kernel
theorem dX6_code_102 : decode cX6_code 102 = .ok (.iconst 1, 1) := by decide +kernel
theorem dX6_code_103 : decode cX6_code 103 = .ok (.iadd, 1) := by decide +kernel
theorem dX6_code_104 : decode cX6_code 104 = .ok (.istore 5, 2) := by decide +kernel
theorem dX6_code_106 : decode cX6_code 106 = .ok (.iinc 6 1, 3) := by decide +kernel
theorem dX6_code_109 : decode cX6_code 109 = .ok (.goto (-97), 3) := by decide +kernel
theorem dX6_code_112 : decode cX6_code 112 = .ok (.iload_n 3, 1) := by decide +kernel
theorem dX6_code_113 : decode cX6_code 113 = .ok (.ireturn, 1) := by decide +kernel
theorem dX6_endOf_0 : decode cX6_endOf 0 = .ok (.iconst 1, 1) := by decide +kernel
theorem dX6_endOf_1 : decode cX6_endOf 1 = .ok (.istore 4, 2) := by decide +kernel
theorem dX6_endOf_3 : decode cX6_endOf 3 = .ok (.iload_n 1, 1) := by decide +kernel
theorem dX6_endOf_4 : decode cX6_endOf 4 = .ok (.istore 5, 2) := by decide +kernel
theorem dX6_endOf_6 : decode cX6_endOf 6 = .ok (.iload 4, 2) := by decide +kernel
theorem dX6_endOf_8 : decode cX6_endOf 8 = .ok (.ifCond .le 60, 3) := by decide +kernel
theorem dX6_endOf_11 : decode cX6_endOf 11 = .ok (.iload 5, 2) := by decide +kernel
theorem dX6_endOf_13 : decode cX6_endOf 13 = .ok (.ifCond .lt 55, 3) := by decide +kernel
theorem dX6_endOf_16 : decode cX6_endOf 16 = .ok (.iload 5, 2) := by decide +kernel
theorem dX6_endOf_18 : decode cX6_endOf 18 = .ok (.iload_n 2, 1) := by decide +kernel
theorem dX6_endOf_19 : decode cX6_endOf 19 = .ok (.if_icmp .ge 49, 3) := by decide +kernel
theorem dX6_endOf_22 : decode cX6_endOf 22 = .ok (.iload 5, 2) := by decide +kernel
theorem dX6_endOf_24 : decode cX6_endOf 24 = .ok (.aload_n 0, 1) := by decide +kernel
theorem dX6_endOf_25 : decode cX6_endOf 25 = .ok (.arraylength, 1) := by decide +kernel
theorem dX6_endOf_26 : decode cX6_endOf 26 = .ok (.if_icmp .ge 42, 3) := by decide +kernel
theorem dX6_endOf_29 : decode cX6_endOf 29 = .ok (.aload_n 0, 1) := by decide +kernel
theorem dX6_endOf_30 : decode cX6_endOf 30 = .ok (.iload 5, 2) := by decide +kernel
theorem dX6_endOf_32 : decode cX6_endOf 32 = .ok (.iaload, 1) := by decide +kernel
theorem dX6_endOf_33 : decode cX6_endOf 33 = .ok (.istore 6, 2) := by decide +kernel
theorem dX6_endOf_35 : decode cX6_endOf 35 = .ok (.iload 4, 2) := by decide +kernel
theorem dX6_endOf_37 : decode cX6_endOf 37 = .ok (.iload 6, 2) := by decide +kernel
theorem dX6_endOf_39 : decode cX6_endOf 39 = .ok (.ifCond .lt 19, 3) := by decide +kernel
theorem dX6_endOf_42 : decode cX6_endOf 42 = .ok (.iload 6, 2) := by decide +kernel
theorem dX6_endOf_44 : decode cX6_endOf 44 = .ok (.aload_n 3, 1) := by decide +kernel
theorem dX6_endOf_45 : decode cX6_endOf 45 = .ok (.arraylength, 1) := by decide +kernel
theorem dX6_endOf_46 : decode cX6_endOf 46 = .ok (.if_icmp .ge 12, 3) := by decide +kernel
theorem dX6_endOf_49 : decode cX6_endOf 49 = .ok (.aload_n 3, 1) := by decide +kernel
theorem dX6_endOf_50 : decode cX6_endOf 50 = .ok (.iload 6, 2) := by decide +kernel
theorem dX6_endOf_52 : decode cX6_endOf 52 = .ok (.iaload, 1) := by decide +kernel
theorem dX6_endOf_53 : decode cX6_endOf 53 = .ok (.iconst 1, 1) := by decide +kernel
theorem dX6_endOf_54 : decode cX6_endOf 54 = .ok (.isub, 1) := by decide +kernel
theorem dX6_endOf_55 : decode cX6_endOf 55 = .ok (.goto 4, 3) := by decide +kernel
theorem dX6_endOf_58 : decode cX6_endOf 58 = .ok (.iconst (-1), 1) := by decide +kernel
theorem dX6_endOf_59 : decode cX6_endOf 59 = .ok (.iadd, 1) := by decide +kernel
theorem dX6_endOf_60 : decode cX6_endOf 60 = .ok (.istore 4, 2) := by decide +kernel
theorem dX6_endOf_62 : decode cX6_endOf 62 = .ok (.iinc 5 1, 3) := by decide +kernel
theorem dX6_endOf_65 : decode cX6_endOf 65 = .ok (.goto (-59), 3) := by decide +kernel
theorem dX6_endOf_68 : decode cX6_endOf 68 = .ok (.iload 5, 2) := by decide +kernel
theorem dX6_endOf_70 : decode cX6_endOf 70 = .ok (.ireturn, 1) := by decide +kernel
theorem dX6_leavesIn_0 : decode cX6_leavesIn 0 = .ok (.iconst 0, 1) := by decide +kernel
theorem dX6_leavesIn_1 : decode cX6_leavesIn 1 = .ok (.istore_n 3, 1) := by decide +kernel
theorem dX6_leavesIn_2 : decode cX6_leavesIn 2 = .ok (.iload_n 1, 1) := by decide +kernel
theorem dX6_leavesIn_3 : decode cX6_leavesIn 3 = .ok (.istore 4, 2) := by decide +kernel
theorem dX6_leavesIn_5 : decode cX6_leavesIn 5 = .ok (.iload 4, 2) := by decide +kernel
theorem dX6_leavesIn_7 : decode cX6_leavesIn 7 = .ok (.ifCond .lt 33, 3) := by decide +kernel
theorem dX6_leavesIn_10 : decode cX6_leavesIn 10 = .ok (.iload 4, 2) := by decide +kernel
theorem dX6_leavesIn_12 : decode cX6_leavesIn 12 = .ok (.iload_n 2, 1) := by decide +kernel
theorem dX6_leavesIn_13 : decode cX6_leavesIn 13 = .ok (.if_icmp .ge 27, 3) := by decide +kernel
theorem dX6_leavesIn_16 : decode cX6_leavesIn 16 = .ok (.iload 4, 2) := by decide +kernel
theorem dX6_leavesIn_18 : decode cX6_leavesIn 18 = .ok (.aload_n 0, 1) := by decide +kernel
theorem dX6_leavesIn_19 : decode cX6_leavesIn 19 = .ok (.arraylength, 1) := by decide +kernel
theorem dX6_leavesIn_20 : decode cX6_leavesIn 20 = .ok (.if_icmp .ge 20, 3) := by decide +kernel
theorem dX6_leavesIn_23 : decode cX6_leavesIn 23 = .ok (.aload_n 0, 1) := by decide +kernel
theorem dX6_leavesIn_24 : decode cX6_leavesIn 24 = .ok (.iload 4, 2) := by decide +kernel
theorem dX6_leavesIn_26 : decode cX6_leavesIn 26 = .ok (.iaload, 1) := by decide +kernel
theorem dX6_leavesIn_27 : decode cX6_leavesIn 27 = .ok (.iconst 3, 1) := by decide +kernel
theorem dX6_leavesIn_28 : decode cX6_leavesIn 28 = .ok (.if_icmp .ne 6, 3) := by decide +kernel
theorem dX6_leavesIn_31 : decode cX6_leavesIn 31 = .ok (.iinc 3 1, 3) := by decide +kernel
theorem dX6_leavesIn_34 : decode cX6_leavesIn 34 = .ok (.iinc 4 1, 3) := by decide +kernel
theorem dX6_leavesIn_37 : decode cX6_leavesIn 37 = .ok (.goto (-32), 3) := by decide +kernel
theorem dX6_leavesIn_40 : decode cX6_leavesIn 40 = .ok (.iload_n 3, 1) := by decide +kernel
theorem dX6_leavesIn_41 : decode cX6_leavesIn 41 = .ok (.ireturn, 1) := by decide +kernel
theorem dX6_replaced_0 : decode cX6_replaced 0 = .ok (.iload 4, 2) := by decide +kernel
theorem dX6_replaced_2 : decode cX6_replaced 2 = .ok (.iload 5, 2) := by decide +kernel
theorem dX6_replaced_4 : decode cX6_replaced 4 = .ok (.aload_n 0, 1) := by decide +kernel
theorem dX6_replaced_5 : decode cX6_replaced 5 = .ok (.getfield 15, 3) := by decide +kernel
theorem dX6_replaced_8 : decode cX6_replaced 8 = .ok (.invokestatic 25, 3) := by decide +kernel
theorem dX6_replaced_11 : decode cX6_replaced 11 = .ok (.istore 6, 2) := by decide +kernel
theorem dX6_replaced_13 : decode cX6_replaced 13 = .ok (.aload_n 0, 1) := by decide +kernel
theorem dX6_replaced_14 : decode cX6_replaced 14 = .ok (.getfield 18, 3) := by decide +kernel
theorem dX6_replaced_17 : decode cX6_replaced 17 = .ok (.iconst 0, 1) := by decide +kernel
theorem dX6_replaced_18 : decode cX6_replaced 18 = .ok (.aload_n 0, 1) := by decide +kernel
theorem dX6_replaced_19 : decode cX6_replaced 19 = .ok (.iload_n 1, 1) := by decide +kernel
theorem dX6_replaced_20 : decode cX6_replaced 20 = .ok (.iload_n 2, 1) := by decide +kernel
theorem dX6_replaced_21 : decode cX6_replaced 21 = .ok (.iload_n 3, 1) := by decide +kernel
theorem dX6_replaced_22 : decode cX6_replaced 22 = .ok (.iload 6, 2) := by decide +kernel
theorem dX6_replaced_24 : decode cX6_replaced 24 = .ok (.invokevirtual 29, 3) := by decide +kernel
theorem dX6_replaced_27 : decode cX6_replaced 27 = .ok (.invokestatic 33, 3) := by decide +kernel
theorem dX6_replaced_30 : decode cX6_replaced 30 = .ok (.ireturn, 1) := by decide +kernel
theorem dX6_grafted_0 : decode cX6_grafted 0 = .ok (.iload_n 1, 1) := by decide +kernel
theorem dX6_grafted_1 : decode cX6_grafted 1 = .ok (.iload_n 2, 1) := by decide +kernel
theorem dX6_grafted_2 : decode cX6_grafted 2 = .ok (.aload_n 0, 1) := by decide +kernel
theorem dX6_grafted_3 : decode cX6_grafted 3 = .ok (.getfield 9, 3) := by decide +kernel
theorem dX6_grafted_6 : decode cX6_grafted 6 = .ok (.invokestatic 25, 3) := by decide +kernel
theorem dX6_grafted_9 : decode cX6_grafted 9 = .ok (.istore 6, 2) := by decide +kernel
theorem dX6_grafted_11 : decode cX6_grafted 11 = .ok (.iload 4, 2) := by decide +kernel
theorem dX6_grafted_13 : decode cX6_grafted 13 = .ok (.iload 5, 2) := by decide +kernel
theorem dX6_grafted_15 : decode cX6_grafted 15 = .ok (.aload_n 0, 1) := by decide +kernel
theorem dX6_grafted_16 : decode cX6_grafted 16 = .ok (.getfield 15, 3) := by decide +kernel
theorem dX6_grafted_19 : decode cX6_grafted 19 = .ok (.invokestatic 25, 3) := by decide +kernel
theorem dX6_grafted_22 : decode cX6_grafted 22 = .ok (.istore 7, 2) := by decide +kernel
theorem dX6_grafted_24 : decode cX6_grafted 24 = .ok (.aload_n 0, 1) := by decide +kernel
theorem dX6_grafted_25 : decode cX6_grafted 25 = .ok (.iload_n 3, 1) := by decide +kernel
theorem dX6_grafted_26 : decode cX6_grafted 26 = .ok (.iload 6, 2) := by decide +kernel
theorem dX6_grafted_28 : decode cX6_grafted 28 = .ok (.invokevirtual 37, 3) := by decide +kernel
theorem dX6_grafted_31 : decode cX6_grafted 31 = .ok (.istore 8, 2) := by decide +kernel
theorem dX6_grafted_33 : decode cX6_grafted 33 = .ok (.aload_n 0, 1) := by decide +kernel
theorem dX6_grafted_34 : decode cX6_grafted 34 = .ok (.getfield 18, 3) := by decide +kernel
theorem dX6_grafted_37 : decode cX6_grafted 37 = .ok (.iconst 0, 1) := by decide +kernel
theorem dX6_grafted_38 : decode cX6_grafted 38 = .ok (.aload_n 0, 1) := by decide +kernel
theorem dX6_grafted_39 : decode cX6_grafted 39 = .ok (.iload 6, 2) := by decide +kernel
theorem dX6_grafted_41 : decode cX6_grafted 41 = .ok (.iload 8, 2) := by decide +kernel
theorem dX6_grafted_43 : decode cX6_grafted 43 = .ok (.iload 8, 2) := by decide +kernel
theorem dX6_grafted_45 : decode cX6_grafted 45 = .ok (.iconst 1, 1) := by decide +kernel
theorem dX6_grafted_46 : decode cX6_grafted 46 = .ok (.iadd, 1) := by decide +kernel
theorem dX6_grafted_47 : decode cX6_grafted 47 = .ok (.iload 7, 2) := by decide +kernel
theorem dX6_grafted_49 : decode cX6_grafted 49 = .ok (.invokevirtual 29, 3) := by decide +kernel
theorem dX6_grafted_52 : decode cX6_grafted 52 = .ok (.invokestatic 33, 3) := by decide +kernel
theorem dX6_grafted_55 : decode cX6_grafted 55 = .ok (.ireturn, 1) := by decide +kernel
theorem dX6_splice_0 : decode cX6_splice 0 = .ok (.iconst 0, 1) := by decide +kernel
theorem dX6_splice_1 : decode cX6_splice 1 = .ok (.istore 5, 2) := by decide +kernel
theorem dX6_splice_3 : decode cX6_splice 3 = .ok (.iconst 0, 1) := by decide +kernel
theorem dX6_splice_4 : decode cX6_splice 4 = .ok (.istore 6, 2) := by decide +kernel
theorem dX6_splice_6 : decode cX6_splice 6 = .ok (.iload 6, 2) := by decide +kernel
theorem dX6_splice_8 : decode cX6_splice 8 = .ok (.iload_n 2, 1) := by decide +kernel
theorem dX6_splice_9 : decode cX6_splice 9 = .ok (.if_icmp .ge 46, 3) := by decide +kernel
theorem dX6_splice_12 : decode cX6_splice 12 = .ok (.iload 6, 2) := by decide +kernel
theorem dX6_splice_14 : decode cX6_splice 14 = .ok (.aload_n 0, 1) := by decide +kernel
theorem dX6_splice_15 : decode cX6_splice 15 = .ok (.getfield 9, 3) := by decide +kernel
theorem dX6_splice_18 : decode cX6_splice 18 = .ok (.arraylength, 1) := by decide +kernel
theorem dX6_splice_19 : decode cX6_splice 19 = .ok (.if_icmp .ge 36, 3) := by decide +kernel
theorem dX6_splice_22 : decode cX6_splice 22 = .ok (.iload 5, 2) := by decide +kernel
theorem dX6_splice_24 : decode cX6_splice 24 = .ok (.aload_n 0, 1) := by decide +kernel
theorem dX6_splice_25 : decode cX6_splice 25 = .ok (.getfield 18, 3) := by decide +kernel
theorem dX6_splice_28 : decode cX6_splice 28 = .ok (.arraylength, 1) := by decide +kernel
theorem dX6_splice_29 : decode cX6_splice 29 = .ok (.if_icmp .ge 26, 3) := by decide +kernel
theorem dX6_splice_32 : decode cX6_splice 32 = .ok (.aload_n 0, 1) := by decide +kernel
theorem dX6_splice_33 : decode cX6_splice 33 = .ok (.getfield 18, 3) := by decide +kernel
theorem dX6_splice_36 : decode cX6_splice 36 = .ok (.iload 5, 2) := by decide +kernel
theorem dX6_splice_38 : decode cX6_splice 38 = .ok (.aload_n 0, 1) := by decide +kernel
theorem dX6_splice_39 : decode cX6_splice 39 = .ok (.getfield 9, 3) := by decide +kernel
theorem dX6_splice_42 : decode cX6_splice 42 = .ok (.iload 6, 2) := by decide +kernel
theorem dX6_splice_44 : decode cX6_splice 44 = .ok (.iaload, 1) := by decide +kernel
theorem dX6_splice_45 : decode cX6_splice 45 = .ok (.iastore, 1) := by decide +kernel
theorem dX6_splice_46 : decode cX6_splice 46 = .ok (.iinc 5 1, 3) := by decide +kernel
theorem dX6_splice_49 : decode cX6_splice 49 = .ok (.iinc 6 1, 3) := by decide +kernel
theorem dX6_splice_52 : decode cX6_splice 52 = .ok (.goto (-46), 3) := by decide +kernel
theorem dX6_splice_55 : decode cX6_splice 55 = .ok (.iconst 0, 1) := by decide +kernel
theorem dX6_splice_56 : decode cX6_splice 56 = .ok (.istore 6, 2) := by decide +kernel
theorem dX6_splice_58 : decode cX6_splice 58 = .ok (.iload 6, 2) := by decide +kernel
theorem dX6_splice_60 : decode cX6_splice 60 = .ok (.iload 4, 2) := by decide +kernel
theorem dX6_splice_62 : decode cX6_splice 62 = .ok (.if_icmp .ge 46, 3) := by decide +kernel
theorem dX6_splice_65 : decode cX6_splice 65 = .ok (.iload 6, 2) := by decide +kernel
theorem dX6_splice_67 : decode cX6_splice 67 = .ok (.aload_n 0, 1) := by decide +kernel
theorem dX6_splice_68 : decode cX6_splice 68 = .ok (.getfield 15, 3) := by decide +kernel
theorem dX6_splice_71 : decode cX6_splice 71 = .ok (.arraylength, 1) := by decide +kernel
theorem dX6_splice_72 : decode cX6_splice 72 = .ok (.if_icmp .ge 36, 3) := by decide +kernel
theorem dX6_splice_75 : decode cX6_splice 75 = .ok (.iload 5, 2) := by decide +kernel
theorem dX6_splice_77 : decode cX6_splice 77 = .ok (.aload_n 0, 1) := by decide +kernel
theorem dX6_splice_78 : decode cX6_splice 78 = .ok (.getfield 18, 3) := by decide +kernel
theorem dX6_splice_81 : decode cX6_splice 81 = .ok (.arraylength, 1) := by decide +kernel
theorem dX6_splice_82 : decode cX6_splice 82 = .ok (.if_icmp .ge 26, 3) := by decide +kernel
theorem dX6_splice_85 : decode cX6_splice 85 = .ok (.aload_n 0, 1) := by decide +kernel
theorem dX6_splice_86 : decode cX6_splice 86 = .ok (.getfield 18, 3) := by decide +kernel
theorem dX6_splice_89 : decode cX6_splice 89 = .ok (.iload 5, 2) := by decide +kernel
theorem dX6_splice_91 : decode cX6_splice 91 = .ok (.aload_n 0, 1) := by decide +kernel
theorem dX6_splice_92 : decode cX6_splice 92 = .ok (.getfield 15, 3) := by decide +kernel
theorem dX6_splice_95 : decode cX6_splice 95 = .ok (.iload 6, 2) := by decide +kernel
theorem dX6_splice_97 : decode cX6_splice 97 = .ok (.iaload, 1) := by decide +kernel
theorem dX6_splice_98 : decode cX6_splice 98 = .ok (.iastore, 1) := by decide +kernel
theorem dX6_splice_99 : decode cX6_splice 99 = .ok (.iinc 5 1, 3) := by decide +kernel
theorem dX6_splice_102 : decode cX6_splice 102 = .ok (.iinc 6 1, 3) := by decide +kernel
theorem dX6_splice_105 : decode cX6_splice 105 = .ok (.goto (-47), 3) := by decide +kernel
theorem dX6_splice_108 : decode cX6_splice 108 = .ok (.iload_n 3, 1) := by decide +kernel
theorem dX6_splice_109 : decode cX6_splice 109 = .ok (.istore 6, 2) := by decide +kernel
theorem dX6_splice_111 : decode cX6_splice 111 = .ok (.iload 6, 2) := by decide +kernel
theorem dX6_splice_113 : decode cX6_splice 113 = .ok (.ifCond .lt 52, 3) := by decide +kernel
theorem dX6_splice_116 : decode cX6_splice 116 = .ok (.iload 6, 2) := by decide +kernel
theorem dX6_splice_118 : decode cX6_splice 118 = .ok (.iload_n 1, 1) := by decide +kernel
theorem dX6_splice_119 : decode cX6_splice 119 = .ok (.if_icmp .ge 46, 3) := by decide +kernel
theorem dX6_splice_122 : decode cX6_splice 122 = .ok (.iload 6, 2) := by decide +kernel
theorem dX6_splice_124 : decode cX6_splice 124 = .ok (.aload_n 0, 1) := by decide +kernel
theorem dX6_splice_125 : decode cX6_splice 125 = .ok (.getfield 9, 3) := by decide +kernel
theorem dX6_splice_128 : decode cX6_splice 128 = .ok (.arraylength, 1) := by decide +kernel
theorem dX6_splice_129 : decode cX6_splice 129 = .ok (.if_icmp .ge 36, 3) := by decide +kernel
theorem dX6_splice_132 : decode cX6_splice 132 = .ok (.iload 5, 2) := by decide +kernel
theorem dX6_splice_134 : decode cX6_splice 134 = .ok (.aload_n 0, 1) := by decide +kernel
theorem dX6_splice_135 : decode cX6_splice 135 = .ok (.getfield 18, 3) := by decide +kernel
theorem dX6_splice_138 : decode cX6_splice 138 = .ok (.arraylength, 1) := by decide +kernel
theorem dX6_splice_139 : decode cX6_splice 139 = .ok (.if_icmp .ge 26, 3) := by decide +kernel
theorem dX6_splice_142 : decode cX6_splice 142 = .ok (.aload_n 0, 1) := by decide +kernel
theorem dX6_splice_143 : decode cX6_splice 143 = .ok (.getfield 18, 3) := by decide +kernel
theorem dX6_splice_146 : decode cX6_splice 146 = .ok (.iload 5, 2) := by decide +kernel
theorem dX6_splice_148 : decode cX6_splice 148 = .ok (.aload_n 0, 1) := by decide +kernel
theorem dX6_splice_149 : decode cX6_splice 149 = .ok (.getfield 9, 3) := by decide +kernel
theorem dX6_splice_152 : decode cX6_splice 152 = .ok (.iload 6, 2) := by decide +kernel
theorem dX6_splice_154 : decode cX6_splice 154 = .ok (.iaload, 1) := by decide +kernel
theorem dX6_splice_155 : decode cX6_splice 155 = .ok (.iastore, 1) := by decide +kernel
theorem dX6_splice_156 : decode cX6_splice 156 = .ok (.iinc 5 1, 3) := by decide +kernel
theorem dX6_splice_159 : decode cX6_splice 159 = .ok (.iinc 6 1, 3) := by decide +kernel
theorem dX6_splice_162 : decode cX6_splice 162 = .ok (.goto (-51), 3) := by decide +kernel
theorem dX6_splice_165 : decode cX6_splice 165 = .ok (.iload 5, 2) := by decide +kernel
theorem dX6_splice_167 : decode cX6_splice 167 = .ok (.ireturn, 1) := by decide +kernel
theorem dX6_placeOfLeaf_0 : decode cX6_placeOfLeaf 0 = .ok (.iconst 0, 1) := by decide +kernel
theorem dX6_placeOfLeaf_1 : decode cX6_placeOfLeaf 1 = .ok (.istore_n 3, 1) := by decide +kernel
theorem dX6_placeOfLeaf_2 : decode cX6_placeOfLeaf 2 = .ok (.iconst 0, 1) := by decide +kernel
theorem dX6_placeOfLeaf_3 : decode cX6_placeOfLeaf 3 = .ok (.istore 4, 2) := by decide +kernel
theorem dX6_placeOfLeaf_5 : decode cX6_placeOfLeaf 5 = .ok (.iload 4, 2) := by decide +kernel
theorem dX6_placeOfLeaf_7 : decode cX6_placeOfLeaf 7 = .ok (.iload_n 2, 1) := by decide +kernel
theorem dX6_placeOfLeaf_8 : decode cX6_placeOfLeaf 8 = .ok (.if_icmp .ge 41, 3) := by decide +kernel
theorem dX6_placeOfLeaf_11 : decode cX6_placeOfLeaf 11 = .ok (.iload 4, 2) := by decide +kernel
theorem dX6_placeOfLeaf_13 : decode cX6_placeOfLeaf 13 = .ok (.aload_n 0, 1) := by decide +kernel
theorem dX6_placeOfLeaf_14 : decode cX6_placeOfLeaf 14 = .ok (.getfield 9, 3) := by decide +kernel
theorem dX6_placeOfLeaf_17 : decode cX6_placeOfLeaf 17 = .ok (.arraylength, 1) := by decide +kernel
theorem dX6_placeOfLeaf_18 : decode cX6_placeOfLeaf 18 = .ok (.if_icmp .ge 31, 3) := by decide +kernel
theorem dX6_placeOfLeaf_21 : decode cX6_placeOfLeaf 21 = .ok (.aload_n 0, 1) := by decide +kernel
theorem dX6_placeOfLeaf_22 : decode cX6_placeOfLeaf 22 = .ok (.getfield 9, 3) := by decide +kernel
theorem dX6_placeOfLeaf_25 : decode cX6_placeOfLeaf 25 = .ok (.iload 4, 2) := by decide +kernel
theorem dX6_placeOfLeaf_27 : decode cX6_placeOfLeaf 27 = .ok (.iaload, 1) := by decide +kernel
theorem dX6_placeOfLeaf_28 : decode cX6_placeOfLeaf 28 = .ok (.iconst 3, 1) := by decide +kernel
theorem dX6_placeOfLeaf_29 : decode cX6_placeOfLeaf 29 = .ok (.if_icmp .ne 14, 3) := by decide +kernel
theorem dX6_placeOfLeaf_32 : decode cX6_placeOfLeaf 32 = .ok (.iload_n 3, 1) := by decide +kernel
theorem dX6_placeOfLeaf_33 : decode cX6_placeOfLeaf 33 = .ok (.iload_n 1, 1) := by decide +kernel
theorem dX6_placeOfLeaf_34 : decode cX6_placeOfLeaf 34 = .ok (.if_icmp .ne 6, 3) := by decide +kernel
theorem dX6_placeOfLeaf_37 : decode cX6_placeOfLeaf 37 = .ok (.iload 4, 2) := by decide +kernel
theorem dX6_placeOfLeaf_39 : decode cX6_placeOfLeaf 39 = .ok (.ireturn, 1) := by decide +kernel
theorem dX6_placeOfLeaf_40 : decode cX6_placeOfLeaf 40 = .ok (.iinc 3 1, 3) := by decide +kernel
theorem dX6_placeOfLeaf_43 : decode cX6_placeOfLeaf 43 = .ok (.iinc 4 1, 3) := by decide +kernel
theorem dX6_placeOfLeaf_46 : decode cX6_placeOfLeaf 46 = .ok (.goto (-41), 3) := by decide +kernel
theorem dX6_placeOfLeaf_49 : decode cX6_placeOfLeaf 49 = .ok (.iload_n 2, 1) := by decide +kernel
theorem dX6_placeOfLeaf_50 : decode cX6_placeOfLeaf 50 = .ok (.ireturn, 1) := by decide +kernel
theorem dX6_join_0 : decode cX6_join 0 = .ok (.aload 4, 2) := by decide +kernel
theorem dX6_join_2 : decode cX6_join 2 = .ok (.aload_n 1, 1) := by decide +kernel
theorem dX6_join_3 : decode cX6_join 3 = .ok (.getfield 41, 3) := by decide +kernel
theorem dX6_join_6 : decode cX6_join 6 = .ok (.aload_n 3, 1) := by decide +kernel
theorem dX6_join_7 : decode cX6_join 7 = .ok (.getfield 41, 3) := by decide +kernel
theorem dX6_join_10 : decode cX6_join 10 = .ok (.iadd, 1) := by decide +kernel
theorem dX6_join_11 : decode cX6_join 11 = .ok (.iconst 1, 1) := by decide +kernel
theorem dX6_join_12 : decode cX6_join 12 = .ok (.isub, 1) := by decide +kernel
theorem dX6_join_13 : decode cX6_join 13 = .ok (.invokevirtual 47, 3) := by decide +kernel
theorem dX6_join_16 : decode cX6_join 16 = .ok (.iconst 0, 1) := by decide +kernel
theorem dX6_join_17 : decode cX6_join 17 = .ok (.istore 6, 2) := by decide +kernel
theorem dX6_join_19 : decode cX6_join 19 = .ok (.iload 6, 2) := by decide +kernel
theorem dX6_join_21 : decode cX6_join 21 = .ok (.aload_n 1, 1) := by decide +kernel
theorem dX6_join_22 : decode cX6_join 22 = .ok (.getfield 51, 3) := by decide +kernel
theorem dX6_join_25 : decode cX6_join 25 = .ok (.if_icmp .ge 80, 3) := by decide +kernel
theorem dX6_join_28 : decode cX6_join 28 = .ok (.iconst 0, 1) := by decide +kernel
theorem dX6_join_29 : decode cX6_join 29 = .ok (.istore 7, 2) := by decide +kernel
theorem dX6_join_31 : decode cX6_join 31 = .ok (.iload 7, 2) := by decide +kernel
theorem dX6_join_33 : decode cX6_join 33 = .ok (.aload_n 3, 1) := by decide +kernel
theorem dX6_join_34 : decode cX6_join 34 = .ok (.getfield 51, 3) := by decide +kernel
theorem dX6_join_37 : decode cX6_join 37 = .ok (.if_icmp .ge 62, 3) := by decide +kernel
theorem dX6_join_40 : decode cX6_join 40 = .ok (.aload_n 0, 1) := by decide +kernel
theorem dX6_join_41 : decode cX6_join 41 = .ok (.aload_n 1, 1) := by decide +kernel
theorem dX6_join_42 : decode cX6_join 42 = .ok (.getfield 54, 3) := by decide +kernel
theorem dX6_join_45 : decode cX6_join 45 = .ok (.iload 6, 2) := by decide +kernel
theorem dX6_join_47 : decode cX6_join 47 = .ok (.iaload, 1) := by decide +kernel
theorem dX6_join_48 : decode cX6_join 48 = .ok (.aload_n 1, 1) := by decide +kernel
theorem dX6_join_49 : decode cX6_join 49 = .ok (.getfield 41, 3) := by decide +kernel
theorem dX6_join_52 : decode cX6_join 52 = .ok (.iload_n 2, 1) := by decide +kernel
theorem dX6_join_53 : decode cX6_join 53 = .ok (.aload_n 3, 1) := by decide +kernel
theorem dX6_join_54 : decode cX6_join 54 = .ok (.getfield 54, 3) := by decide +kernel
theorem dX6_join_57 : decode cX6_join 57 = .ok (.iload 7, 2) := by decide +kernel
theorem dX6_join_59 : decode cX6_join 59 = .ok (.iaload, 1) := by decide +kernel
theorem dX6_join_60 : decode cX6_join 60 = .ok (.aload_n 3, 1) := by decide +kernel
theorem dX6_join_61 : decode cX6_join 61 = .ok (.getfield 41, 3) := by decide +kernel
theorem dX6_join_64 : decode cX6_join 64 = .ok (.invokevirtual 57, 3) := by decide +kernel
theorem dX6_join_67 : decode cX6_join 67 = .ok (.istore 8, 2) := by decide +kernel
theorem dX6_join_69 : decode cX6_join 69 = .ok (.aload 4, 2) := by decide +kernel
theorem dX6_join_71 : decode cX6_join 71 = .ok (.iload 8, 2) := by decide +kernel
theorem dX6_join_73 : decode cX6_join 73 = .ok (.aload_n 1, 1) := by decide +kernel
theorem dX6_join_74 : decode cX6_join 74 = .ok (.getfield 61, 3) := by decide +kernel
theorem dX6_join_77 : decode cX6_join 77 = .ok (.iload 6, 2) := by decide +kernel
theorem dX6_join_79 : decode cX6_join 79 = .ok (.iaload, 1) := by decide +kernel
theorem dX6_join_80 : decode cX6_join 80 = .ok (.aload_n 3, 1) := by decide +kernel
theorem dX6_join_81 : decode cX6_join 81 = .ok (.getfield 61, 3) := by decide +kernel
theorem dX6_join_84 : decode cX6_join 84 = .ok (.iload 7, 2) := by decide +kernel
theorem dX6_join_86 : decode cX6_join 86 = .ok (.iaload, 1) := by decide +kernel
theorem dX6_join_87 : decode cX6_join 87 = .ok (.imul, 1) := by decide +kernel
theorem dX6_join_88 : decode cX6_join 88 = .ok (.iload 5, 2) := by decide +kernel
theorem dX6_join_90 : decode cX6_join 90 = .ok (.invokevirtual 64, 3) := by decide +kernel
theorem dX6_join_93 : decode cX6_join 93 = .ok (.iinc 7 1, 3) := by decide +kernel
theorem dX6_join_96 : decode cX6_join 96 = .ok (.goto (-65), 3) := by decide +kernel
theorem dX6_join_99 : decode cX6_join 99 = .ok (.iinc 6 1, 3) := by decide +kernel
theorem dX6_join_102 : decode cX6_join 102 = .ok (.goto (-83), 3) := by decide +kernel
theorem dX6_join_105 : decode cX6_join 105 = .ok (.return_, 1) := by decide +kernel
theorem dX8_init_0 : decode cX8_init 0 = .ok (.aload_n 0, 1) := by decide +kernel
theorem dX8_init_1 : decode cX8_init 1 = .ok (.invokespecial 3, 3) := by decide +kernel
theorem dX8_init_4 : decode cX8_init 4 = .ok (.aload_n 0, 1) := by decide +kernel
theorem dX8_init_5 : decode cX8_init 5 = .ok (.iconst 1, 1) := by decide +kernel
theorem dX8_init_6 : decode cX8_init 6 = .ok (.putfield 9, 3) := by decide +kernel
theorem dX8_init_9 : decode cX8_init 9 = .ok (.aload_n 0, 1) := by decide +kernel
theorem dX8_init_10 : decode cX8_init 10 = .ok (.bipush 32, 2) := by decide +kernel
theorem dX8_init_12 : decode cX8_init 12 = .ok (.newarray .int, 2) := by decide +kernel
theorem dX8_init_14 : decode cX8_init 14 = .ok (.putfield 15, 3) := by decide +kernel
theorem dX8_init_17 : decode cX8_init 17 = .ok (.aload_n 0, 1) := by decide +kernel
theorem dX8_init_18 : decode cX8_init 18 = .ok (.bipush 32, 2) := by decide +kernel
theorem dX8_init_20 : decode cX8_init 20 = .ok (.newarray .int, 2) := by decide +kernel
theorem dX8_init_22 : decode cX8_init 22 = .ok (.putfield 19, 3) := by decide +kernel
theorem dX8_init_25 : decode cX8_init 25 = .ok (.return_, 1) := by decide +kernel
theorem dX8_clear_0 : decode cX8_clear 0 = .ok (.aload_n 0, 1) := by decide +kernel
theorem dX8_clear_1 : decode cX8_clear 1 = .ok (.iload_n 1, 1) := by decide +kernel
theorem dX8_clear_2 : decode cX8_clear 2 = .ok (.putfield 9, 3) := by decide +kernel
theorem dX8_clear_5 : decode cX8_clear 5 = .ok (.aload_n 0, 1) := by decide +kernel
theorem dX8_clear_6 : decode cX8_clear 6 = .ok (.iconst 0, 1) := by decide +kernel
theorem dX8_clear_7 : decode cX8_clear 7 = .ok (.putfield 22, 3) := by decide +kernel
theorem dX8_clear_10 : decode cX8_clear 10 = .ok (.return_, 1) := by decide +kernel
theorem dX8_copy_0 : decode cX8_copy 0 = .ok (.aload_n 0, 1) := by decide +kernel
theorem dX8_copy_1 : decode cX8_copy 1 = .ok (.aload_n 1, 1) := by decide +kernel
theorem dX8_copy_2 : decode cX8_copy 2 = .ok (.getfield 22, 3) := by decide +kernel
theorem dX8_copy_5 : decode cX8_copy 5 = .ok (.invokevirtual 25, 3) := by decide +kernel
theorem dX8_copy_8 : decode cX8_copy 8 = .ok (.aload_n 0, 1) := by decide +kernel
theorem dX8_copy_9 : decode cX8_copy 9 = .ok (.aload_n 1, 1) := by decide +kernel
theorem dX8_copy_10 : decode cX8_copy 10 = .ok (.getfield 9, 3) := by decide +kernel
theorem dX8_copy_13 : decode cX8_copy 13 = .ok (.putfield 9, 3) := by decide +kernel
theorem dX8_copy_16 : decode cX8_copy 16 = .ok (.aload_n 0, 1) := by decide +kernel
theorem dX8_copy_17 : decode cX8_copy 17 = .ok (.aload_n 1, 1) := by decide +kernel
theorem dX8_copy_18 : decode cX8_copy 18 = .ok (.getfield 22, 3) := by decide +kernel
theorem dX8_copy_21 : decode cX8_copy 21 = .ok (.aload_n 0, 1) := by decide +kernel
theorem dX8_copy_22 : decode cX8_copy 22 = .ok (.getfield 15, 3) := by decide +kernel
theorem dX8_copy_25 : decode cX8_copy 25 = .ok (.arraylength, 1) := by decide +kernel
theorem dX8_copy_26 : decode cX8_copy 26 = .ok (.invokestatic 29, 3) := by decide +kernel
theorem dX8_copy_29 : decode cX8_copy 29 = .ok (.putfield 22, 3) := by decide +kernel
theorem dX8_copy_32 : decode cX8_copy 32 = .ok (.aload_n 1, 1) := by decide +kernel
theorem dX8_copy_33 : decode cX8_copy 33 = .ok (.getfield 15, 3) := by decide +kernel
theorem dX8_copy_36 : decode cX8_copy 36 = .ok (.iconst 0, 1) := by decide +kernel
theorem dX8_copy_37 : decode cX8_copy 37 = .ok (.aload_n 0, 1) := by decide +kernel
theorem dX8_copy_38 : decode cX8_copy 38 = .ok (.getfield 15, 3) := by decide +kernel
theorem dX8_copy_41 : decode cX8_copy 41 = .ok (.iconst 0, 1) := by decide +kernel
theorem dX8_copy_42 : decode cX8_copy 42 = .ok (.aload_n 0, 1) := by decide +kernel
theorem dX8_copy_43 : decode cX8_copy 43 = .ok (.getfield 22, 3) := by decide +kernel
theorem dX8_copy_46 : decode cX8_copy 46 = .ok (.invokestatic 35, 3) := by decide +kernel
theorem dX8_copy_49 : decode cX8_copy 49 = .ok (.aload_n 1, 1) := by decide +kernel
theorem dX8_copy_50 : decode cX8_copy 50 = .ok (.getfield 19, 3) := by decide +kernel
theorem dX8_copy_53 : decode cX8_copy 53 = .ok (.iconst 0, 1) := by decide +kernel
theorem dX8_copy_54 : decode cX8_copy 54 = .ok (.aload_n 0, 1) := by decide +kernel
theorem dX8_copy_55 : decode cX8_copy 55 = .ok (.getfield 19, 3) := by decide +kernel
theorem dX8_copy_58 : decode cX8_copy 58 = .ok (.iconst 0, 1) := by decide +kernel
theorem dX8_copy_59 : decode cX8_copy 59 = .ok (.aload_n 0, 1) := by decide +kernel
theorem dX8_copy_60 : decode cX8_copy 60 = .ok (.getfield 22, 3) := by decide +kernel
theorem dX8_copy_63 : decode cX8_copy 63 = .ok (.invokestatic 35, 3) := by decide +kernel
theorem dX8_copy_66 : decode cX8_copy 66 = .ok (.return_, 1) := by decide +kernel
theorem dX8_makeRoom_0 : decode cX8_makeRoom 0 = .ok (.iload_n 1, 1) := by decide +kernel
theorem dX8_makeRoom_1 : decode cX8_makeRoom 1 = .ok (.aload_n 0, 1) := by decide +kernel
theorem dX8_makeRoom_2 : decode cX8_makeRoom 2 = .ok (.getfield 15, 3) := by decide +kernel
theorem dX8_makeRoom_5 : decode cX8_makeRoom 5 = .ok (.arraylength, 1) := by decide +kernel
theorem dX8_makeRoom_6 : decode cX8_makeRoom 6 = .ok (.if_icmp .le 52, 3) := by decide +kernel
theorem dX8_makeRoom_9 : decode cX8_makeRoom 9 = .ok (.iload_n 1, 1) := by decide +kernel
theorem dX8_makeRoom_10 : decode cX8_makeRoom 10 = .ok (.sipush 1200, 3) := by decide +kernel
theorem dX8_makeRoom_13 : decode cX8_makeRoom 13 = .ok (.if_icmp .gt 45, 3) := by decide +kernel
theorem dX8_makeRoom_16 : decode cX8_makeRoom 16 = .ok (.sipush 1200, 3) := by decide +kernel
theorem dX8_makeRoom_19 : decode cX8_makeRoom 19 = .ok (.iload_n 1, 1) := by decide +kernel
theorem dX8_makeRoom_20 : decode cX8_makeRoom 20 = .ok (.iconst 2, 1) := by decide +kernel
theorem dX8_makeRoom_21 : decode cX8_makeRoom 21 = .ok (.aload_n 0, 1) := by decide +kernel
theorem dX8_makeRoom_22 : decode cX8_makeRoom 22 = .ok (.getfield 15, 3) := by decide +kernel
theorem dX8_makeRoom_25 : decode cX8_makeRoom 25 = .ok (.arraylength, 1) := by decide +kernel
theorem dX8_makeRoom_26 : decode cX8_makeRoom 26 = .ok (.imul, 1) := by decide +kernel
theorem dX8_makeRoom_27 : decode cX8_makeRoom 27 = .ok (.invokestatic 41, 3) := by decide +kernel
theorem dX8_makeRoom_30 : decode cX8_makeRoom 30 = .ok (.invokestatic 29, 3) := by decide +kernel
theorem dX8_makeRoom_33 : decode cX8_makeRoom 33 = .ok (.istore_n 2, 1) := by decide +kernel
theorem dX8_makeRoom_34 : decode cX8_makeRoom 34 = .ok (.aload_n 0, 1) := by decide +kernel
theorem dX8_makeRoom_35 : decode cX8_makeRoom 35 = .ok (.aload_n 0, 1) := by decide +kernel
theorem dX8_makeRoom_36 : decode cX8_makeRoom 36 = .ok (.getfield 15, 3) := by decide +kernel
theorem dX8_makeRoom_39 : decode cX8_makeRoom 39 = .ok (.iload_n 2, 1) := by decide +kernel
theorem dX8_makeRoom_40 : decode cX8_makeRoom 40 = .ok (.invokestatic 44, 3) := by decide +kernel
theorem dX8_makeRoom_43 : decode cX8_makeRoom 43 = .ok (.putfield 15, 3) := by decide +kernel
theorem dX8_makeRoom_46 : decode cX8_makeRoom 46 = .ok (.aload_n 0, 1) := by decide +kernel
theorem dX8_makeRoom_47 : decode cX8_makeRoom 47 = .ok (.aload_n 0, 1) := by decide +kernel
theorem dX8_makeRoom_48 : decode cX8_makeRoom 48 = .ok (.getfield 19, 3) := by decide +kernel
theorem dX8_makeRoom_51 : decode cX8_makeRoom 51 = .ok (.iload_n 2, 1) := by decide +kernel
theorem dX8_makeRoom_52 : decode cX8_makeRoom 52 = .ok (.invokestatic 44, 3) := by decide +kernel
theorem dX8_makeRoom_55 : decode cX8_makeRoom 55 = .ok (.putfield 19, 3) := by decide +kernel
theorem dX8_makeRoom_58 : decode cX8_makeRoom 58 = .ok (.return_, 1) := by decide +kernel
theorem dX8_put_0 : decode cX8_put 0 = .ok (.iload_n 2, 1) := by decide +kernel
theorem dX8_put_1 : decode cX8_put 1 = .ok (.iload_n 3, 1) := by decide +kernel
theorem dX8_put_2 : decode cX8_put 2 = .ok (.invokestatic 50, 3) := by decide +kernel
theorem dX8_put_5 : decode cX8_put 5 = .ok (.istore 4, 2) := by decide +kernel
theorem dX8_put_7 : decode cX8_put 7 = .ok (.iload 4, 2) := by decide +kernel
theorem dX8_put_9 : decode cX8_put 9 = .ok (.ifCond .ne 4, 3) := by decide +kernel
theorem dX8_put_12 : decode cX8_put 12 = .ok (.return_, 1) := by decide +kernel
theorem dX8_put_13 : decode cX8_put 13 = .ok (.aload_n 0, 1) := by decide +kernel
theorem dX8_put_14 : decode cX8_put 14 = .ok (.iload_n 1, 1) := by decide +kernel
theorem dX8_put_15 : decode cX8_put 15 = .ok (.invokevirtual 53, 3) := by decide +kernel
theorem dX8_put_18 : decode cX8_put 18 = .ok (.istore 5, 2) := by decide +kernel
theorem dX8_put_20 : decode cX8_put 20 = .ok (.iload 5, 2) := by decide +kernel
theorem dX8_put_22 : decode cX8_put 22 = .ok (.aload_n 0, 1) := by decide +kernel
theorem dX8_put_23 : decode cX8_put 23 = .ok (.getfield 22, 3) := by decide +kernel
theorem dX8_put_26 : decode cX8_put 26 = .ok (.if_icmp .ge 14, 3) := by decide +kernel
theorem dX8_put_29 : decode cX8_put 29 = .ok (.aload_n 0, 1) := by decide +kernel
theorem dX8_put_30 : decode cX8_put 30 = .ok (.getfield 15, 3) := by decide +kernel
theorem dX8_put_33 : decode cX8_put 33 = .ok (.iload 5, 2) := by decide +kernel
theorem dX8_put_35 : decode cX8_put 35 = .ok (.iaload, 1) := by decide +kernel
theorem dX8_put_36 : decode cX8_put 36 = .ok (.iload_n 1, 1) := by decide +kernel
theorem dX8_put_37 : decode cX8_put 37 = .ok (.if_icmp .eq 23, 3) := by decide +kernel
theorem dX8_put_40 : decode cX8_put 40 = .ok (.aload_n 0, 1) := by decide +kernel
theorem dX8_put_41 : decode cX8_put 41 = .ok (.aload_n 0, 1) := by decide +kernel
theorem dX8_put_42 : decode cX8_put 42 = .ok (.getfield 22, 3) := by decide +kernel
theorem dX8_put_45 : decode cX8_put 45 = .ok (.iconst 1, 1) := by decide +kernel
theorem dX8_put_46 : decode cX8_put 46 = .ok (.iadd, 1) := by decide +kernel
theorem dX8_put_47 : decode cX8_put 47 = .ok (.invokevirtual 25, 3) := by decide +kernel
theorem dX8_put_50 : decode cX8_put 50 = .ok (.aload_n 0, 1) := by decide +kernel
theorem dX8_put_51 : decode cX8_put 51 = .ok (.iload 5, 2) := by decide +kernel
theorem dX8_put_53 : decode cX8_put 53 = .ok (.iload_n 1, 1) := by decide +kernel
theorem dX8_put_54 : decode cX8_put 54 = .ok (.iload 4, 2) := by decide +kernel
theorem dX8_put_56 : decode cX8_put 56 = .ok (.invokevirtual 57, 3) := by decide +kernel
theorem dX8_put_59 : decode cX8_put 59 = .ok (.return_, 1) := by decide +kernel
theorem dX8_put_60 : decode cX8_put 60 = .ok (.aload_n 0, 1) := by decide +kernel
theorem dX8_put_61 : decode cX8_put 61 = .ok (.getfield 19, 3) := by decide +kernel
theorem dX8_put_64 : decode cX8_put 64 = .ok (.iload 5, 2) := by decide +kernel
theorem dX8_put_66 : decode cX8_put 66 = .ok (.aload_n 0, 1) := by decide +kernel
theorem dX8_put_67 : decode cX8_put 67 = .ok (.getfield 19, 3) := by decide +kernel
theorem dX8_put_70 : decode cX8_put 70 = .ok (.iload 5, 2) := by decide +kernel
theorem dX8_put_72 : decode cX8_put 72 = .ok (.iaload, 1) := by decide +kernel
theorem dX8_put_73 : decode cX8_put 73 = .ok (.iload 4, 2) := by decide +kernel
theorem dX8_put_75 : decode cX8_put 75 = .ok (.iadd, 1) := by decide +kernel
theorem dX8_put_76 : decode cX8_put 76 = .ok (.iload_n 3, 1) := by decide +kernel
theorem dX8_put_77 : decode cX8_put 77 = .ok (.invokestatic 50, 3) := by decide +kernel
theorem dX8_put_80 : decode cX8_put 80 = .ok (.iastore, 1) := by decide +kernel
theorem dX8_put_81 : decode cX8_put 81 = .ok (.aload_n 0, 1) := by decide +kernel
theorem dX8_put_82 : decode cX8_put 82 = .ok (.getfield 19, 3) := by decide +kernel
theorem dX8_put_85 : decode cX8_put 85 = .ok (.iload 5, 2) := by decide +kernel
theorem dX8_put_87 : decode cX8_put 87 = .ok (.iaload, 1) := by decide +kernel
theorem dX8_put_88 : decode cX8_put 88 = .ok (.ifCond .ne 9, 3) := by decide +kernel
theorem dX8_put_91 : decode cX8_put 91 = .ok (.aload_n 0, 1) := by decide +kernel
theorem dX8_put_92 : decode cX8_put 92 = .ok (.iload 5, 2) := by decide +kernel
theorem dX8_put_94 : decode cX8_put 94 = .ok (.invokevirtual 61, 3) := by decide +kernel
theorem dX8_put_97 : decode cX8_put 97 = .ok (.return_, 1) := by decide +kernel
theorem dX8_putAll_0 : decode cX8_putAll 0 = .ok (.iconst 0, 1) := by decide +kernel
theorem dX8_putAll_1 : decode cX8_putAll 1 = .ok (.istore 4, 2) := by decide +kernel
theorem dX8_putAll_3 : decode cX8_putAll 3 = .ok (.iload 4, 2) := by decide +kernel
theorem dX8_putAll_5 : decode cX8_putAll 5 = .ok (.aload_n 1, 1) := by decide +kernel
theorem dX8_putAll_6 : decode cX8_putAll 6 = .ok (.getfield 22, 3) := by decide +kernel
theorem dX8_putAll_9 : decode cX8_putAll 9 = .ok (.if_icmp .ge 30, 3) := by decide +kernel
theorem dX8_putAll_12 : decode cX8_putAll 12 = .ok (.aload_n 0, 1) := by decide +kernel
theorem dX8_putAll_13 : decode cX8_putAll 13 = .ok (.aload_n 1, 1) := by decide +kernel
theorem dX8_putAll_14 : decode cX8_putAll 14 = .ok (.getfield 15, 3) := by decide +kernel
theorem dX8_putAll_17 : decode cX8_putAll 17 = .ok (.iload 4, 2) := by decide +kernel
theorem dX8_putAll_19 : decode cX8_putAll 19 = .ok (.iaload, 1) := by decide +kernel
theorem dX8_putAll_20 : decode cX8_putAll 20 = .ok (.aload_n 1, 1) := by decide +kernel
theorem dX8_putAll_21 : decode cX8_putAll 21 = .ok (.getfield 19, 3) := by decide +kernel
theorem dX8_putAll_24 : decode cX8_putAll 24 = .ok (.iload 4, 2) := by decide +kernel
theorem dX8_putAll_26 : decode cX8_putAll 26 = .ok (.iaload, 1) := by decide +kernel
theorem dX8_putAll_27 : decode cX8_putAll 27 = .ok (.iload_n 2, 1) := by decide +kernel
theorem dX8_putAll_28 : decode cX8_putAll 28 = .ok (.imul, 1) := by decide +kernel
theorem dX8_putAll_29 : decode cX8_putAll 29 = .ok (.iload_n 3, 1) := by decide +kernel
theorem dX8_putAll_30 : decode cX8_putAll 30 = .ok (.invokevirtual 64, 3) := by decide +kernel
theorem dX8_putAll_33 : decode cX8_putAll 33 = .ok (.iinc 4 1, 3) := by decide +kernel
theorem dX8_putAll_36 : decode cX8_putAll 36 = .ok (.goto (-33), 3) := by decide +kernel
theorem dX8_putAll_39 : decode cX8_putAll 39 = .ok (.return_, 1) := by decide +kernel
theorem dX8_placeOf_0 : decode cX8_placeOf 0 = .ok (.iconst 0, 1) := by decide +kernel
theorem dX8_placeOf_1 : decode cX8_placeOf 1 = .ok (.istore_n 2, 1) := by decide +kernel
theorem dX8_placeOf_2 : decode cX8_placeOf 2 = .ok (.aload_n 0, 1) := by decide +kernel
theorem dX8_placeOf_3 : decode cX8_placeOf 3 = .ok (.getfield 22, 3) := by decide +kernel
theorem dX8_placeOf_6 : decode cX8_placeOf 6 = .ok (.istore_n 3, 1) := by decide +kernel
theorem dX8_placeOf_7 : decode cX8_placeOf 7 = .ok (.iload_n 2, 1) := by decide +kernel
theorem dX8_placeOf_8 : decode cX8_placeOf 8 = .ok (.iload_n 3, 1) := by decide +kernel
theorem dX8_placeOf_9 : decode cX8_placeOf 9 = .ok (.if_icmp .ge 35, 3) := by decide +kernel
theorem dX8_placeOf_12 : decode cX8_placeOf 12 = .ok (.iload_n 2, 1) := by decide +kernel
theorem dX8_placeOf_13 : decode cX8_placeOf 13 = .ok (.iload_n 3, 1) := by decide +kernel
theorem dX8_placeOf_14 : decode cX8_placeOf 14 = .ok (.iadd, 1) := by decide +kernel
theorem dX8_placeOf_15 : decode cX8_placeOf 15 = .ok (.iconst 1, 1) := by decide +kernel
theorem dX8_placeOf_16 : decode cX8_placeOf 16 = .ok (.iushr, 1) := by decide +kernel
theorem dX8_placeOf_17 : decode cX8_placeOf 17 = .ok (.istore 4, 2) := by decide +kernel
theorem dX8_placeOf_19 : decode cX8_placeOf 19 = .ok (.aload_n 0, 1) := by decide +kernel
theorem dX8_placeOf_20 : decode cX8_placeOf 20 = .ok (.getfield 15, 3) := by decide +kernel
theorem dX8_placeOf_23 : decode cX8_placeOf 23 = .ok (.iload 4, 2) := by decide +kernel
theorem dX8_placeOf_25 : decode cX8_placeOf 25 = .ok (.iaload, 1) := by decide +kernel
theorem dX8_placeOf_26 : decode cX8_placeOf 26 = .ok (.iload_n 1, 1) := by decide +kernel
theorem dX8_placeOf_27 : decode cX8_placeOf 27 = .ok (.if_icmp .le 11, 3) := by decide +kernel
theorem dX8_placeOf_30 : decode cX8_placeOf 30 = .ok (.iload 4, 2) := by decide +kernel
theorem dX8_placeOf_32 : decode cX8_placeOf 32 = .ok (.iconst 1, 1) := by decide +kernel
theorem dX8_placeOf_33 : decode cX8_placeOf 33 = .ok (.iadd, 1) := by decide +kernel
theorem dX8_placeOf_34 : decode cX8_placeOf 34 = .ok (.istore_n 2, 1) := by decide +kernel
theorem dX8_placeOf_35 : decode cX8_placeOf 35 = .ok (.goto 6, 3) := by decide +kernel
theorem dX8_placeOf_38 : decode cX8_placeOf 38 = .ok (.iload 4, 2) := by decide +kernel
theorem dX8_placeOf_40 : decode cX8_placeOf 40 = .ok (.istore_n 3, 1) := by decide +kernel
theorem dX8_placeOf_41 : decode cX8_placeOf 41 = .ok (.goto (-34), 3) := by decide +kernel
theorem dX8_placeOf_44 : decode cX8_placeOf 44 = .ok (.iload_n 2, 1) := by decide +kernel
theorem dX8_placeOf_45 : decode cX8_placeOf 45 = .ok (.ireturn, 1) := by decide +kernel
theorem dX8_insert_0 : decode cX8_insert 0 = .ok (.iload_n 1, 1) := by decide +kernel
theorem dX8_insert_1 : decode cX8_insert 1 = .ok (.ifCond .lt 23, 3) := by decide +kernel
theorem dX8_insert_4 : decode cX8_insert 4 = .ok (.iload_n 1, 1) := by decide +kernel
theorem dX8_insert_5 : decode cX8_insert 5 = .ok (.aload_n 0, 1) := by decide +kernel
theorem dX8_insert_6 : decode cX8_insert 6 = .ok (.getfield 22, 3) := by decide +kernel
theorem dX8_insert_9 : decode cX8_insert 9 = .ok (.if_icmp .gt 15, 3) := by decide +kernel
theorem dX8_insert_12 : decode cX8_insert 12 = .ok (.aload_n 0, 1) := by decide +kernel
theorem dX8_insert_13 : decode cX8_insert 13 = .ok (.getfield 22, 3) := by decide +kernel
theorem dX8_insert_16 : decode cX8_insert 16 = .ok (.aload_n 0, 1) := by decide +kernel
theorem dX8_insert_17 : decode cX8_insert 17 = .ok (.getfield 15, 3) := by decide +kernel
theorem dX8_insert_20 : decode cX8_insert 20 = .ok (.arraylength, 1) := by decide +kernel
theorem dX8_insert_21 : decode cX8_insert 21 = .ok (.if_icmp .lt 4, 3) := by decide +kernel
theorem dX8_insert_24 : decode cX8_insert 24 = .ok (.return_, 1) := by decide +kernel
theorem dX8_insert_25 : decode cX8_insert 25 = .ok (.aload_n 0, 1) := by decide +kernel
theorem dX8_insert_26 : decode cX8_insert 26 = .ok (.getfield 15, 3) := by decide +kernel
theorem dX8_insert_29 : decode cX8_insert 29 = .ok (.iload_n 1, 1) := by decide +kernel
theorem dX8_insert_30 : decode cX8_insert 30 = .ok (.aload_n 0, 1) := by decide +kernel
theorem dX8_insert_31 : decode cX8_insert 31 = .ok (.getfield 15, 3) := by decide +kernel
theorem dX8_insert_34 : decode cX8_insert 34 = .ok (.iload_n 1, 1) := by decide +kernel
theorem dX8_insert_35 : decode cX8_insert 35 = .ok (.iconst 1, 1) := by decide +kernel
theorem dX8_insert_36 : decode cX8_insert 36 = .ok (.iadd, 1) := by decide +kernel
theorem dX8_insert_37 : decode cX8_insert 37 = .ok (.aload_n 0, 1) := by decide +kernel
theorem dX8_insert_38 : decode cX8_insert 38 = .ok (.getfield 22, 3) := by decide +kernel
theorem dX8_insert_41 : decode cX8_insert 41 = .ok (.iload_n 1, 1) := by decide +kernel
theorem dX8_insert_42 : decode cX8_insert 42 = .ok (.isub, 1) := by decide +kernel
theorem dX8_insert_43 : decode cX8_insert 43 = .ok (.invokestatic 35, 3) := by decide +kernel
theorem dX8_insert_46 : decode cX8_insert 46 = .ok (.aload_n 0, 1) := by decide +kernel
theorem dX8_insert_47 : decode cX8_insert 47 = .ok (.getfield 19, 3) := by decide +kernel
theorem dX8_insert_50 : decode cX8_insert 50 = .ok (.iload_n 1, 1) := by decide +kernel
theorem dX8_insert_51 : decode cX8_insert 51 = .ok (.aload_n 0, 1) := by decide +kernel
theorem dX8_insert_52 : decode cX8_insert 52 = .ok (.getfield 19, 3) := by decide +kernel
theorem dX8_insert_55 : decode cX8_insert 55 = .ok (.iload_n 1, 1) := by decide +kernel
theorem dX8_insert_56 : decode cX8_insert 56 = .ok (.iconst 1, 1) := by decide +kernel
theorem dX8_insert_57 : decode cX8_insert 57 = .ok (.iadd, 1) := by decide +kernel
theorem dX8_insert_58 : decode cX8_insert 58 = .ok (.aload_n 0, 1) := by decide +kernel
theorem dX8_insert_59 : decode cX8_insert 59 = .ok (.getfield 22, 3) := by decide +kernel
theorem dX8_insert_62 : decode cX8_insert 62 = .ok (.iload_n 1, 1) := by decide +kernel
theorem dX8_insert_63 : decode cX8_insert 63 = .ok (.isub, 1) := by decide +kernel
theorem dX8_insert_64 : decode cX8_insert 64 = .ok (.invokestatic 35, 3) := by decide +kernel
theorem dX8_insert_67 : decode cX8_insert 67 = .ok (.aload_n 0, 1) := by decide +kernel
theorem dX8_insert_68 : decode cX8_insert 68 = .ok (.getfield 15, 3) := by decide +kernel
theorem dX8_insert_71 : decode cX8_insert 71 = .ok (.iload_n 1, 1) := by decide +kernel
theorem dX8_insert_72 : decode cX8_insert 72 = .ok (.iload_n 2, 1) := by decide +kernel
theorem dX8_insert_73 : decode cX8_insert 73 = .ok (.iastore, 1) := by decide +kernel
theorem dX8_insert_74 : decode cX8_insert 74 = .ok (.aload_n 0, 1) := by decide +kernel
theorem dX8_insert_75 : decode cX8_insert 75 = .ok (.getfield 19, 3) := by decide +kernel
theorem dX8_insert_78 : decode cX8_insert 78 = .ok (.iload_n 1, 1) := by decide +kernel
theorem dX8_insert_79 : decode cX8_insert 79 = .ok (.iload_n 3, 1) := by decide +kernel
theorem dX8_insert_80 : decode cX8_insert 80 = .ok (.iastore, 1) := by decide +kernel
theorem dX8_insert_81 : decode cX8_insert 81 = .ok (.aload_n 0, 1) := by decide +kernel
theorem dX8_insert_82 : decode cX8_insert 82 = .ok (.dup, 1) := by decide +kernel
theorem dX8_insert_83 : decode cX8_insert 83 = .ok (.getfield 22, 3) := by decide +kernel
theorem dX8_insert_86 : decode cX8_insert 86 = .ok (.iconst 1, 1) := by decide +kernel
theorem dX8_insert_87 : decode cX8_insert 87 = .ok (.iadd, 1) := by decide +kernel
theorem dX8_insert_88 : decode cX8_insert 88 = .ok (.putfield 22, 3) := by decide +kernel
theorem dX8_insert_91 : decode cX8_insert 91 = .ok (.return_, 1) := by decide +kernel
theorem dX8_remove_0 : decode cX8_remove 0 = .ok (.aload_n 0, 1) := by decide +kernel
theorem dX8_remove_1 : decode cX8_remove 1 = .ok (.dup, 1) := by decide +kernel
theorem dX8_remove_2 : decode cX8_remove 2 = .ok (.getfield 22, 3) := by decide +kernel
theorem dX8_remove_5 : decode cX8_remove 5 = .ok (.iconst 1, 1) := by decide +kernel
theorem dX8_remove_6 : decode cX8_remove 6 = .ok (.isub, 1) := by decide +kernel
theorem dX8_remove_7 : decode cX8_remove 7 = .ok (.putfield 22, 3) := by decide +kernel
theorem dX8_remove_10 : decode cX8_remove 10 = .ok (.aload_n 0, 1) := by decide +kernel
theorem dX8_remove_11 : decode cX8_remove 11 = .ok (.getfield 15, 3) := by decide +kernel
theorem dX8_remove_14 : decode cX8_remove 14 = .ok (.iload_n 1, 1) := by decide +kernel
theorem dX8_remove_15 : decode cX8_remove 15 = .ok (.iconst 1, 1) := by decide +kernel
theorem dX8_remove_16 : decode cX8_remove 16 = .ok (.iadd, 1) := by decide +kernel
theorem dX8_remove_17 : decode cX8_remove 17 = .ok (.aload_n 0, 1) := by decide +kernel
theorem dX8_remove_18 : decode cX8_remove 18 = .ok (.getfield 15, 3) := by decide +kernel
theorem dX8_remove_21 : decode cX8_remove 21 = .ok (.iload_n 1, 1) := by decide +kernel
theorem dX8_remove_22 : decode cX8_remove 22 = .ok (.aload_n 0, 1) := by decide +kernel
theorem dX8_remove_23 : decode cX8_remove 23 = .ok (.getfield 22, 3) := by decide +kernel
theorem dX8_remove_26 : decode cX8_remove 26 = .ok (.iload_n 1, 1) := by decide +kernel
theorem dX8_remove_27 : decode cX8_remove 27 = .ok (.isub, 1) := by decide +kernel
theorem dX8_remove_28 : decode cX8_remove 28 = .ok (.invokestatic 35, 3) := by decide +kernel
theorem dX8_remove_31 : decode cX8_remove 31 = .ok (.aload_n 0, 1) := by decide +kernel
theorem dX8_remove_32 : decode cX8_remove 32 = .ok (.getfield 19, 3) := by decide +kernel
theorem dX8_remove_35 : decode cX8_remove 35 = .ok (.iload_n 1, 1) := by decide +kernel
theorem dX8_remove_36 : decode cX8_remove 36 = .ok (.iconst 1, 1) := by decide +kernel
theorem dX8_remove_37 : decode cX8_remove 37 = .ok (.iadd, 1) := by decide +kernel
theorem dX8_remove_38 : decode cX8_remove 38 = .ok (.aload_n 0, 1) := by decide +kernel
theorem dX8_remove_39 : decode cX8_remove 39 = .ok (.getfield 19, 3) := by decide +kernel
theorem dX8_remove_42 : decode cX8_remove 42 = .ok (.iload_n 1, 1) := by decide +kernel
theorem dX8_remove_43 : decode cX8_remove 43 = .ok (.aload_n 0, 1) := by decide +kernel
theorem dX8_remove_44 : decode cX8_remove 44 = .ok (.getfield 22, 3) := by decide +kernel
theorem dX8_remove_47 : decode cX8_remove 47 = .ok (.iload_n 1, 1) := by decide +kernel
theorem dX8_remove_48 : decode cX8_remove 48 = .ok (.isub, 1) := by decide +kernel
theorem dX8_remove_49 : decode cX8_remove 49 = .ok (.invokestatic 35, 3) := by decide +kernel
theorem dX8_remove_52 : decode cX8_remove 52 = .ok (.return_, 1) := by decide +kernel
theorem dX9_init_0 : decode cX9_init 0 = .ok (.aload_n 0, 1) := by decide +kernel
theorem dX9_init_1 : decode cX9_init 1 = .ok (.invokespecial 3, 3) := by decide +kernel
theorem dX9_init_4 : decode cX9_init 4 = .ok (.aload_n 0, 1) := by decide +kernel
theorem dX9_init_5 : decode cX9_init 5 = .ok (.iconst 3, 1) := by decide +kernel
theorem dX9_init_6 : decode cX9_init 6 = .ok (.newarray .long, 2) := by decide +kernel
theorem dX9_init_8 : decode cX9_init 8 = .ok (.putfield 9, 3) := by decide +kernel
theorem dX9_init_11 : decode cX9_init 11 = .ok (.aload_n 0, 1) := by decide +kernel
theorem dX9_init_12 : decode cX9_init 12 = .ok (.iconst 3, 1) := by decide +kernel
theorem dX9_init_13 : decode cX9_init 13 = .ok (.newarray .int, 2) := by decide +kernel
theorem dX9_init_15 : decode cX9_init 15 = .ok (.putfield 15, 3) := by decide +kernel
theorem dX9_init_18 : decode cX9_init 18 = .ok (.aload_n 0, 1) := by decide +kernel
theorem dX9_init_19 : decode cX9_init 19 = .ok (.bipush 18, 2) := by decide +kernel
theorem dX9_init_21 : decode cX9_init 21 = .ok (.newarray .int, 2) := by decide +kernel
theorem dX9_init_23 : decode cX9_init 23 = .ok (.putfield 19, 3) := by decide +kernel
theorem dX9_init_26 : decode cX9_init 26 = .ok (.aload_n 0, 1) := by decide +kernel
theorem dX9_init_27 : decode cX9_init 27 = .ok (.bipush 19, 2) := by decide +kernel
theorem dX9_init_29 : decode cX9_init 29 = .ok (.newarray .int, 2) := by decide +kernel
theorem dX9_init_31 : decode cX9_init 31 = .ok (.putfield 22, 3) := by decide +kernel
theorem dX9_init_34 : decode cX9_init 34 = .ok (.aload_n 0, 1) := by decide +kernel
theorem dX9_init_35 : decode cX9_init 35 = .ok (.sipush 200, 3) := by decide +kernel
theorem dX9_init_38 : decode cX9_init 38 = .ok (.newarray .int, 2) := by decide +kernel
theorem dX9_init_40 : decode cX9_init 40 = .ok (.putfield 25, 3) := by decide +kernel
theorem dX9_init_43 : decode cX9_init 43 = .ok (.aload_n 0, 1) := by decide +kernel
theorem dX9_init_44 : decode cX9_init 44 = .ok (.sipush 200, 3) := by decide +kernel
theorem dX9_init_47 : decode cX9_init 47 = .ok (.newarray .int, 2) := by decide +kernel
theorem dX9_init_49 : decode cX9_init 49 = .ok (.putfield 28, 3) := by decide +kernel
theorem dX9_init_52 : decode cX9_init 52 = .ok (.aload_n 0, 1) := by decide +kernel
theorem dX9_init_53 : decode cX9_init 53 = .ok (.bipush 11, 2) := by decide +kernel
theorem dX9_init_55 : decode cX9_init 55 = .ok (.newarray .long, 2) := by decide +kernel
theorem dX9_init_57 : decode cX9_init 57 = .ok (.putfield 31, 3) := by decide +kernel
theorem dX9_init_60 : decode cX9_init 60 = .ok (.aload_n 0, 1) := by decide +kernel
theorem dX9_init_61 : decode cX9_init 61 = .ok (.iconst 5, 1) := by decide +kernel
theorem dX9_init_62 : decode cX9_init 62 = .ok (.bipush 11, 2) := by decide +kernel
theorem dX9_init_64 : decode cX9_init 64 = .ok (.multianewarray 34 2, 4) := by decide +kernel
theorem dX9_init_68 : decode cX9_init 68 = .ok (.putfield 36, 3) := by decide +kernel
theorem dX9_init_71 : decode cX9_init 71 = .ok (.aload_n 0, 1) := by decide +kernel
theorem dX9_init_72 : decode cX9_init 72 = .ok (.bipush 97, 2) := by decide +kernel
theorem dX9_init_74 : decode cX9_init 74 = .ok (.putfield 39, 3) := by decide +kernel
theorem dX9_init_77 : decode cX9_init 77 = .ok (.aload_n 0, 1) := by decide +kernel
theorem dX9_init_78 : decode cX9_init 78 = .ok (.getfield 31, 3) := by decide +kernel
theorem dX9_init_81 : decode cX9_init 81 = .ok (.iconst 1, 1) := by decide +kernel
theorem dX9_init_82 : decode cX9_init 82 = .ok (.lconst 1, 1) := by decide +kernel
theorem dX9_init_83 : decode cX9_init 83 = .ok (.lastore, 1) := by decide +kernel
theorem dX9_init_84 : decode cX9_init 84 = .ok (.return_, 1) := by decide +kernel
theorem dX9_clear_0 : decode cX9_clear 0 = .ok (.aload_n 0, 1) := by decide +kernel
theorem dX9_clear_1 : decode cX9_clear 1 = .ok (.bipush 97, 2) := by decide +kernel
theorem dX9_clear_3 : decode cX9_clear 3 = .ok (.putfield 39, 3) := by decide +kernel
theorem dX9_clear_6 : decode cX9_clear 6 = .ok (.aload_n 0, 1) := by decide +kernel
theorem dX9_clear_7 : decode cX9_clear 7 = .ok (.iconst 0, 1) := by decide +kernel
theorem dX9_clear_8 : decode cX9_clear 8 = .ok (.putfield 43, 3) := by decide +kernel
theorem dX9_clear_11 : decode cX9_clear 11 = .ok (.aload_n 0, 1) := by decide +kernel
theorem dX9_clear_12 : decode cX9_clear 12 = .ok (.iconst 0, 1) := by decide +kernel
theorem dX9_clear_13 : decode cX9_clear 13 = .ok (.putfield 46, 3) := by decide +kernel
theorem dX9_clear_16 : decode cX9_clear 16 = .ok (.return_, 1) := by decide +kernel
theorem dX9_hasAct_0 : decode cX9_hasAct 0 = .ok (.iload_n 1, 1) := by decide +kernel
theorem dX9_hasAct_1 : decode cX9_hasAct 1 = .ok (.ifCond .lt 15, 3) := by decide +kernel
theorem dX9_hasAct_4 : decode cX9_hasAct 4 = .ok (.iload_n 1, 1) := by decide +kernel
theorem dX9_hasAct_5 : decode cX9_hasAct 5 = .ok (.aload_n 0, 1) := by decide +kernel
theorem dX9_hasAct_6 : decode cX9_hasAct 6 = .ok (.getfield 43, 3) := by decide +kernel
theorem dX9_hasAct_9 : decode cX9_hasAct 9 = .ok (.if_icmp .ge 7, 3) := by decide +kernel
theorem dX9_hasAct_12 : decode cX9_hasAct 12 = .ok (.iconst 1, 1) := by decide +kernel
theorem dX9_hasAct_13 : decode cX9_hasAct 13 = .ok (.goto 4, 3) := by decide +kernel
theorem dX9_hasAct_16 : decode cX9_hasAct 16 = .ok (.iconst 0, 1) := by decide +kernel
theorem dX9_hasAct_17 : decode cX9_hasAct 17 = .ok (.ireturn, 1) := by decide +kernel
theorem dX9_hasLaw_0 : decode cX9_hasLaw 0 = .ok (.iload_n 1, 1) := by decide +kernel
theorem dX9_hasLaw_1 : decode cX9_hasLaw 1 = .ok (.ifCond .lt 15, 3) := by decide +kernel
theorem dX9_hasLaw_4 : decode cX9_hasLaw 4 = .ok (.iload_n 1, 1) := by decide +kernel
theorem dX9_hasLaw_5 : decode cX9_hasLaw 5 = .ok (.aload_n 0, 1) := by decide +kernel
theorem dX9_hasLaw_6 : decode cX9_hasLaw 6 = .ok (.getfield 46, 3) := by decide +kernel
theorem dX9_hasLaw_9 : decode cX9_hasLaw 9 = .ok (.if_icmp .ge 7, 3) := by decide +kernel
theorem dX9_hasLaw_12 : decode cX9_hasLaw 12 = .ok (.iconst 1, 1) := by decide +kernel
theorem dX9_hasLaw_13 : decode cX9_hasLaw 13 = .ok (.goto 4, 3) := by decide +kernel
theorem dX9_hasLaw_16 : decode cX9_hasLaw 16 = .ok (.iconst 0, 1) := by decide +kernel
theorem dX9_hasLaw_17 : decode cX9_hasLaw 17 = .ok (.ireturn, 1) := by decide +kernel
theorem dX9_findAct_0 : decode cX9_findAct 0 = .ok (.iconst 0, 1) := by decide +kernel
theorem dX9_findAct_1 : decode cX9_findAct 1 = .ok (.istore_n 3, 1) := by decide +kernel
theorem dX9_findAct_2 : decode cX9_findAct 2 = .ok (.iload_n 3, 1) := by decide +kernel
theorem dX9_findAct_3 : decode cX9_findAct 3 = .ok (.aload_n 0, 1) := by decide +kernel
theorem dX9_findAct_4 : decode cX9_findAct 4 = .ok (.getfield 43, 3) := by decide +kernel
theorem dX9_findAct_7 : decode cX9_findAct 7 = .ok (.if_icmp .ge 22, 3) := by decide +kernel
theorem dX9_findAct_10 : decode cX9_findAct 10 = .ok (.aload_n 0, 1) := by decide +kernel
theorem dX9_findAct_11 : decode cX9_findAct 11 = .ok (.getfield 9, 3) := by decide +kernel
theorem dX9_findAct_14 : decode cX9_findAct 14 = .ok (.iload_n 3, 1) := by decide +kernel
theorem dX9_findAct_15 : decode cX9_findAct 15 = .ok (.laload, 1) := by decide +kernel
theorem dX9_findAct_16 : decode cX9_findAct 16 = .ok (.lload_n 1, 1) := by decide +kernel
theorem dX9_findAct_17 : decode cX9_findAct 17 = .ok (.lcmp, 1) := by decide +kernel
theorem dX9_findAct_18 : decode cX9_findAct 18 = .ok (.ifCond .ne 5, 3) := by decide +kernel
theorem dX9_findAct_21 : decode cX9_findAct 21 = .ok (.iload_n 3, 1) := by decide +kernel
theorem dX9_findAct_22 : decode cX9_findAct 22 = .ok (.ireturn, 1) := by decide +kernel
theorem dX9_findAct_23 : decode cX9_findAct 23 = .ok (.iinc 3 1, 3) := by decide +kernel
theorem dX9_findAct_26 : decode cX9_findAct 26 = .ok (.goto (-24), 3) := by decide +kernel
theorem dX9_findAct_29 : decode cX9_findAct 29 = .ok (.iconst (-1), 1) := by decide +kernel
theorem dX9_findAct_30 : decode cX9_findAct 30 = .ok (.ireturn, 1) := by decide +kernel
theorem dX9_addAct_0 : decode cX9_addAct 0 = .ok (.aload_n 0, 1) := by decide +kernel
theorem dX9_addAct_1 : decode cX9_addAct 1 = .ok (.getfield 43, 3) := by decide +kernel
theorem dX9_addAct_4 : decode cX9_addAct 4 = .ok (.iconst 3, 1) := by decide +kernel
theorem dX9_addAct_5 : decode cX9_addAct 5 = .ok (.if_icmp .ge 33, 3) := by decide +kernel
theorem dX9_addAct_8 : decode cX9_addAct 8 = .ok (.aload_n 0, 1) := by decide +kernel
theorem dX9_addAct_9 : decode cX9_addAct 9 = .ok (.getfield 9, 3) := by decide +kernel
theorem dX9_addAct_12 : decode cX9_addAct 12 = .ok (.aload_n 0, 1) := by decide +kernel
theorem dX9_addAct_13 : decode cX9_addAct 13 = .ok (.getfield 43, 3) := by decide +kernel
theorem dX9_addAct_16 : decode cX9_addAct 16 = .ok (.lload_n 1, 1) := by decide +kernel
theorem dX9_addAct_17 : decode cX9_addAct 17 = .ok (.lastore, 1) := by decide +kernel
theorem dX9_addAct_18 : decode cX9_addAct 18 = .ok (.aload_n 0, 1) := by decide +kernel
theorem dX9_addAct_19 : decode cX9_addAct 19 = .ok (.getfield 15, 3) := by decide +kernel
theorem dX9_addAct_22 : decode cX9_addAct 22 = .ok (.aload_n 0, 1) := by decide +kernel
theorem dX9_addAct_23 : decode cX9_addAct 23 = .ok (.getfield 43, 3) := by decide +kernel
theorem dX9_addAct_26 : decode cX9_addAct 26 = .ok (.iload_n 3, 1) := by decide +kernel
theorem dX9_addAct_27 : decode cX9_addAct 27 = .ok (.iastore, 1) := by decide +kernel
theorem dX9_addAct_28 : decode cX9_addAct 28 = .ok (.aload_n 0, 1) := by decide +kernel
theorem dX9_addAct_29 : decode cX9_addAct 29 = .ok (.dup, 1) := by decide +kernel
theorem dX9_addAct_30 : decode cX9_addAct 30 = .ok (.getfield 43, 3) := by decide +kernel
theorem dX9_addAct_33 : decode cX9_addAct 33 = .ok (.iconst 1, 1) := by decide +kernel
theorem dX9_addAct_34 : decode cX9_addAct 34 = .ok (.iadd, 1) := by decide +kernel
theorem dX9_addAct_35 : decode cX9_addAct 35 = .ok (.putfield 43, 3) := by decide +kernel
theorem dX9_addAct_38 : decode cX9_addAct 38 = .ok (.return_, 1) := by decide +kernel
theorem dX9_addLaw_0 : decode cX9_addLaw 0 = .ok (.aload_n 0, 1) := by decide +kernel
theorem dX9_addLaw_1 : decode cX9_addLaw 1 = .ok (.getfield 22, 3) := by decide +kernel
theorem dX9_addLaw_4 : decode cX9_addLaw 4 = .ok (.aload_n 0, 1) := by decide +kernel
theorem dX9_addLaw_5 : decode cX9_addLaw 5 = .ok (.getfield 46, 3) := by decide +kernel
theorem dX9_addLaw_8 : decode cX9_addLaw 8 = .ok (.iaload, 1) := by decide +kernel
theorem dX9_addLaw_9 : decode cX9_addLaw 9 = .ok (.istore_n 2, 1) := by decide +kernel
theorem dX9_addLaw_10 : decode cX9_addLaw 10 = .ok (.aload_n 0, 1) := by decide +kernel
theorem dX9_addLaw_11 : decode cX9_addLaw 11 = .ok (.getfield 46, 3) := by decide +kernel
theorem dX9_addLaw_14 : decode cX9_addLaw 14 = .ok (.bipush 18, 2) := by decide +kernel
theorem dX9_addLaw_16 : decode cX9_addLaw 16 = .ok (.if_icmp .ge 15, 3) := by decide +kernel
theorem dX9_addLaw_19 : decode cX9_addLaw 19 = .ok (.iload_n 2, 1) := by decide +kernel
theorem dX9_addLaw_20 : decode cX9_addLaw 20 = .ok (.aload_n 1, 1) := by decide +kernel
theorem dX9_addLaw_21 : decode cX9_addLaw 21 = .ok (.getfield 49, 3) := by decide +kernel
theorem dX9_addLaw_24 : decode cX9_addLaw 24 = .ok (.iadd, 1) := by decide +kernel
theorem dX9_addLaw_25 : decode cX9_addLaw 25 = .ok (.sipush 200, 3) := by decide +kernel
theorem dX9_addLaw_28 : decode cX9_addLaw 28 = .ok (.if_icmp .le 4, 3) := by decide +kernel
theorem dX9_addLaw_31 : decode cX9_addLaw 31 = .ok (.return_, 1) := by decide +kernel
theorem dX9_addLaw_32 : decode cX9_addLaw 32 = .ok (.aload_n 0, 1) := by decide +kernel
theorem dX9_addLaw_33 : decode cX9_addLaw 33 = .ok (.getfield 19, 3) := by decide +kernel
theorem dX9_addLaw_36 : decode cX9_addLaw 36 = .ok (.aload_n 0, 1) := by decide +kernel
theorem dX9_addLaw_37 : decode cX9_addLaw 37 = .ok (.getfield 46, 3) := by decide +kernel
theorem dX9_addLaw_40 : decode cX9_addLaw 40 = .ok (.aload_n 1, 1) := by decide +kernel
theorem dX9_addLaw_41 : decode cX9_addLaw 41 = .ok (.getfield 54, 3) := by decide +kernel
theorem dX9_addLaw_44 : decode cX9_addLaw 44 = .ok (.iastore, 1) := by decide +kernel
theorem dX9_addLaw_45 : decode cX9_addLaw 45 = .ok (.aload_n 1, 1) := by decide +kernel
theorem dX9_addLaw_46 : decode cX9_addLaw 46 = .ok (.getfield 57, 3) := by decide +kernel
theorem dX9_addLaw_49 : decode cX9_addLaw 49 = .ok (.iconst 0, 1) := by decide +kernel
theorem dX9_addLaw_50 : decode cX9_addLaw 50 = .ok (.aload_n 0, 1) := by decide +kernel
theorem dX9_addLaw_51 : decode cX9_addLaw 51 = .ok (.getfield 25, 3) := by decide +kernel
theorem dX9_addLaw_54 : decode cX9_addLaw 54 = .ok (.iload_n 2, 1) := by decide +kernel
theorem dX9_addLaw_55 : decode cX9_addLaw 55 = .ok (.aload_n 1, 1) := by decide +kernel
theorem dX9_addLaw_56 : decode cX9_addLaw 56 = .ok (.getfield 49, 3) := by decide +kernel
theorem dX9_addLaw_59 : decode cX9_addLaw 59 = .ok (.invokestatic 60, 3) := by decide +kernel
theorem dX9_addLaw_62 : decode cX9_addLaw 62 = .ok (.aload_n 1, 1) := by decide +kernel
theorem dX9_addLaw_63 : decode cX9_addLaw 63 = .ok (.getfield 66, 3) := by decide +kernel
theorem dX9_addLaw_66 : decode cX9_addLaw 66 = .ok (.iconst 0, 1) := by decide +kernel
theorem dX9_addLaw_67 : decode cX9_addLaw 67 = .ok (.aload_n 0, 1) := by decide +kernel
theorem dX9_addLaw_68 : decode cX9_addLaw 68 = .ok (.getfield 28, 3) := by decide +kernel
theorem dX9_addLaw_71 : decode cX9_addLaw 71 = .ok (.iload_n 2, 1) := by decide +kernel
theorem dX9_addLaw_72 : decode cX9_addLaw 72 = .ok (.aload_n 1, 1) := by decide +kernel
theorem dX9_addLaw_73 : decode cX9_addLaw 73 = .ok (.getfield 49, 3) := by decide +kernel
theorem dX9_addLaw_76 : decode cX9_addLaw 76 = .ok (.invokestatic 60, 3) := by decide +kernel
theorem dX9_addLaw_79 : decode cX9_addLaw 79 = .ok (.aload_n 0, 1) := by decide +kernel
theorem dX9_addLaw_80 : decode cX9_addLaw 80 = .ok (.dup, 1) := by decide +kernel
theorem dX9_addLaw_81 : decode cX9_addLaw 81 = .ok (.getfield 46, 3) := by decide +kernel
theorem dX9_addLaw_84 : decode cX9_addLaw 84 = .ok (.iconst 1, 1) := by decide +kernel
theorem dX9_addLaw_85 : decode cX9_addLaw 85 = .ok (.iadd, 1) := by decide +kernel
theorem dX9_addLaw_86 : decode cX9_addLaw 86 = .ok (.putfield 46, 3) := by decide +kernel
theorem dX9_addLaw_89 : decode cX9_addLaw 89 = .ok (.aload_n 0, 1) := by decide +kernel
theorem dX9_addLaw_90 : decode cX9_addLaw 90 = .ok (.getfield 22, 3) := by decide +kernel
theorem dX9_addLaw_93 : decode cX9_addLaw 93 = .ok (.aload_n 0, 1) := by decide +kernel
theorem dX9_addLaw_94 : decode cX9_addLaw 94 = .ok (.getfield 46, 3) := by decide +kernel
theorem dX9_addLaw_97 : decode cX9_addLaw 97 = .ok (.iload_n 2, 1) := by decide +kernel
theorem dX9_addLaw_98 : decode cX9_addLaw 98 = .ok (.aload_n 1, 1) := by decide +kernel
theorem dX9_addLaw_99 : decode cX9_addLaw 99 = .ok (.getfield 49, 3) := by decide +kernel
theorem dX9_addLaw_102 : decode cX9_addLaw 102 = .ok (.iadd, 1) := by decide +kernel
theorem dX9_addLaw_103 : decode cX9_addLaw 103 = .ok (.iastore, 1) := by decide +kernel
theorem dX9_addLaw_104 : decode cX9_addLaw 104 = .ok (.return_, 1) := by decide +kernel
theorem dX9_lawInto_0 : decode cX9_lawInto 0 = .ok (.aload_n 0, 1) := by decide +kernel
theorem dX9_lawInto_1 : decode cX9_lawInto 1 = .ok (.getfield 22, 3) := by decide +kernel
theorem dX9_lawInto_4 : decode cX9_lawInto 4 = .ok (.iload_n 2, 1) := by decide +kernel
theorem dX9_lawInto_5 : decode cX9_lawInto 5 = .ok (.iaload, 1) := by decide +kernel
theorem dX9_lawInto_6 : decode cX9_lawInto 6 = .ok (.istore 4, 2) := by decide +kernel
theorem dX9_lawInto_8 : decode cX9_lawInto 8 = .ok (.iload 4, 2) := by decide +kernel
theorem dX9_lawInto_10 : decode cX9_lawInto 10 = .ok (.aload_n 0, 1) := by decide +kernel
theorem dX9_lawInto_11 : decode cX9_lawInto 11 = .ok (.getfield 22, 3) := by decide +kernel
theorem dX9_lawInto_14 : decode cX9_lawInto 14 = .ok (.iload_n 2, 1) := by decide +kernel
theorem dX9_lawInto_15 : decode cX9_lawInto 15 = .ok (.iconst 1, 1) := by decide +kernel
theorem dX9_lawInto_16 : decode cX9_lawInto 16 = .ok (.iadd, 1) := by decide +kernel
theorem dX9_lawInto_17 : decode cX9_lawInto 17 = .ok (.iaload, 1) := by decide +kernel
theorem dX9_lawInto_18 : decode cX9_lawInto 18 = .ok (.if_icmp .ge 33, 3) := by decide +kernel
theorem dX9_lawInto_21 : decode cX9_lawInto 21 = .ok (.aload_n 1, 1) := by decide +kernel
theorem dX9_lawInto_22 : decode cX9_lawInto 22 = .ok (.aload_n 0, 1) := by decide +kernel
theorem dX9_lawInto_23 : decode cX9_lawInto 23 = .ok (.getfield 25, 3) := by decide +kernel
theorem dX9_lawInto_26 : decode cX9_lawInto 26 = .ok (.iload 4, 2) := by decide +kernel
theorem dX9_lawInto_28 : decode cX9_lawInto 28 = .ok (.iaload, 1) := by decide +kernel
theorem dX9_lawInto_29 : decode cX9_lawInto 29 = .ok (.aload_n 0, 1) := by decide +kernel
theorem dX9_lawInto_30 : decode cX9_lawInto 30 = .ok (.getfield 28, 3) := by decide +kernel
theorem dX9_lawInto_33 : decode cX9_lawInto 33 = .ok (.iload 4, 2) := by decide +kernel
theorem dX9_lawInto_35 : decode cX9_lawInto 35 = .ok (.iaload, 1) := by decide +kernel
theorem dX9_lawInto_36 : decode cX9_lawInto 36 = .ok (.iload_n 3, 1) := by decide +kernel
theorem dX9_lawInto_37 : decode cX9_lawInto 37 = .ok (.imul, 1) := by decide +kernel
theorem dX9_lawInto_38 : decode cX9_lawInto 38 = .ok (.aload_n 0, 1) := by decide +kernel
theorem dX9_lawInto_39 : decode cX9_lawInto 39 = .ok (.getfield 39, 3) := by decide +kernel
theorem dX9_lawInto_42 : decode cX9_lawInto 42 = .ok (.invokevirtual 69, 3) := by decide +kernel
theorem dX9_lawInto_45 : decode cX9_lawInto 45 = .ok (.iinc 4 1, 3) := by decide +kernel
theorem dX9_lawInto_48 : decode cX9_lawInto 48 = .ok (.goto (-40), 3) := by decide +kernel
theorem dX9_lawInto_51 : decode cX9_lawInto 51 = .ok (.return_, 1) := by decide +kernel
theorem dX9_hasDual_0 : decode cX9_hasDual 0 = .ok (.iconst 0, 1) := by decide +kernel
theorem dX9_hasDual_1 : decode cX9_hasDual 1 = .ok (.istore_n 1, 1) := by decide +kernel
theorem dX9_hasDual_2 : decode cX9_hasDual 2 = .ok (.iload_n 1, 1) := by decide +kernel
theorem dX9_hasDual_3 : decode cX9_hasDual 3 = .ok (.aload_n 0, 1) := by decide +kernel
theorem dX9_hasDual_4 : decode cX9_hasDual 4 = .ok (.getfield 43, 3) := by decide +kernel
theorem dX9_hasDual_7 : decode cX9_hasDual 7 = .ok (.if_icmp .ge 21, 3) := by decide +kernel
theorem dX9_hasDual_10 : decode cX9_hasDual 10 = .ok (.aload_n 0, 1) := by decide +kernel
theorem dX9_hasDual_11 : decode cX9_hasDual 11 = .ok (.getfield 15, 3) := by decide +kernel
theorem dX9_hasDual_14 : decode cX9_hasDual 14 = .ok (.iload_n 1, 1) := by decide +kernel
theorem dX9_hasDual_15 : decode cX9_hasDual 15 = .ok (.iaload, 1) := by decide +kernel
theorem dX9_hasDual_16 : decode cX9_hasDual 16 = .ok (.iconst 2, 1) := by decide +kernel
theorem dX9_hasDual_17 : decode cX9_hasDual 17 = .ok (.if_icmp .eq 5, 3) := by decide +kernel
theorem dX9_hasDual_20 : decode cX9_hasDual 20 = .ok (.iconst 0, 1) := by decide +kernel
theorem dX9_hasDual_21 : decode cX9_hasDual 21 = .ok (.ireturn, 1) := by decide +kernel
theorem dX9_hasDual_22 : decode cX9_hasDual 22 = .ok (.iinc 1 1, 3) := by decide +kernel
theorem dX9_hasDual_25 : decode cX9_hasDual 25 = .ok (.goto (-23), 3) := by decide +kernel
theorem dX9_hasDual_28 : decode cX9_hasDual 28 = .ok (.iconst 0, 1) := by decide +kernel
theorem dX9_hasDual_29 : decode cX9_hasDual 29 = .ok (.istore_n 1, 1) := by decide +kernel
theorem dX9_hasDual_30 : decode cX9_hasDual 30 = .ok (.iload_n 1, 1) := by decide +kernel
theorem dX9_hasDual_31 : decode cX9_hasDual 31 = .ok (.aload_n 0, 1) := by decide +kernel
theorem dX9_hasDual_32 : decode cX9_hasDual 32 = .ok (.getfield 46, 3) := by decide +kernel
theorem dX9_hasDual_35 : decode cX9_hasDual 35 = .ok (.if_icmp .ge 21, 3) := by decide +kernel
theorem dX9_hasDual_38 : decode cX9_hasDual 38 = .ok (.aload_n 0, 1) := by decide +kernel
theorem dX9_hasDual_39 : decode cX9_hasDual 39 = .ok (.getfield 19, 3) := by decide +kernel
theorem dX9_hasDual_42 : decode cX9_hasDual 42 = .ok (.iload_n 1, 1) := by decide +kernel
theorem dX9_hasDual_43 : decode cX9_hasDual 43 = .ok (.iaload, 1) := by decide +kernel
theorem dX9_hasDual_44 : decode cX9_hasDual 44 = .ok (.iconst 3, 1) := by decide +kernel
theorem dX9_hasDual_45 : decode cX9_hasDual 45 = .ok (.if_icmp .eq 5, 3) := by decide +kernel
theorem dX9_hasDual_48 : decode cX9_hasDual 48 = .ok (.iconst 0, 1) := by decide +kernel
theorem dX9_hasDual_49 : decode cX9_hasDual 49 = .ok (.ireturn, 1) := by decide +kernel
theorem dX9_hasDual_50 : decode cX9_hasDual 50 = .ok (.iinc 1 1, 3) := by decide +kernel
theorem dX9_hasDual_53 : decode cX9_hasDual 53 = .ok (.goto (-23), 3) := by decide +kernel
theorem dX9_hasDual_56 : decode cX9_hasDual 56 = .ok (.iconst 1, 1) := by decide +kernel
theorem dX9_hasDual_57 : decode cX9_hasDual 57 = .ok (.ireturn, 1) := by decide +kernel
theorem dX9_countTrees_0 : decode cX9_countTrees 0 = .ok (.iconst 1, 1) := by decide +kernel
theorem dX9_countTrees_1 : decode cX9_countTrees 1 = .ok (.istore_n 1, 1) := by decide +kernel
theorem dX9_countTrees_2 : decode cX9_countTrees 2 = .ok (.iload_n 1, 1) := by decide +kernel
theorem dX9_countTrees_3 : decode cX9_countTrees 3 = .ok (.bipush 10, 2) := by decide +kernel
theorem dX9_countTrees_5 : decode cX9_countTrees 5 = .ok (.if_icmp .gt 134, 3) := by decide +kernel
theorem dX9_countTrees_8 : decode cX9_countTrees 8 = .ok (.iconst 2, 1) := by decide +kernel
theorem dX9_countTrees_9 : decode cX9_countTrees 9 = .ok (.istore_n 2, 1) := by decide +kernel
theorem dX9_countTrees_10 : decode cX9_countTrees 10 = .ok (.iload_n 2, 1) := by decide +kernel
theorem dX9_countTrees_11 : decode cX9_countTrees 11 = .ok (.iconst 4, 1) := by decide +kernel
theorem dX9_countTrees_12 : decode cX9_countTrees 12 = .ok (.if_icmp .gt 59, 3) := by decide +kernel
theorem dX9_countTrees_15 : decode cX9_countTrees 15 = .ok (.lconst 0, 1) := by decide +kernel
theorem dX9_countTrees_16 : decode cX9_countTrees 16 = .ok (.lstore_n 3, 1) := by decide +kernel
theorem dX9_countTrees_17 : decode cX9_countTrees 17 = .ok (.iconst 1, 1) := by decide +kernel
theorem dX9_countTrees_18 : decode cX9_countTrees 18 = .ok (.istore 5, 2) := by decide +kernel
theorem dX9_countTrees_20 : decode cX9_countTrees 20 = .ok (.iload 5, 2) := by decide +kernel
theorem dX9_countTrees_22 : decode cX9_countTrees 22 = .ok (.iload_n 1, 1) := by decide +kernel
theorem dX9_countTrees_23 : decode cX9_countTrees 23 = .ok (.if_icmp .ge 33, 3) := by decide +kernel
theorem dX9_countTrees_26 : decode cX9_countTrees 26 = .ok (.lload_n 3, 1) := by decide +kernel
theorem dX9_countTrees_27 : decode cX9_countTrees 27 = .ok (.aload_n 0, 1) := by decide +kernel
theorem dX9_countTrees_28 : decode cX9_countTrees 28 = .ok (.getfield 31, 3) := by decide +kernel
theorem dX9_countTrees_31 : decode cX9_countTrees 31 = .ok (.iload 5, 2) := by decide +kernel
theorem dX9_countTrees_33 : decode cX9_countTrees 33 = .ok (.laload, 1) := by decide +kernel
theorem dX9_countTrees_34 : decode cX9_countTrees 34 = .ok (.aload_n 0, 1) := by decide +kernel
theorem dX9_countTrees_35 : decode cX9_countTrees 35 = .ok (.getfield 36, 3) := by decide +kernel
theorem dX9_countTrees_38 : decode cX9_countTrees 38 = .ok (.iload_n 2, 1) := by decide +kernel
theorem dX9_countTrees_39 : decode cX9_countTrees 39 = .ok (.iconst 1, 1) := by decide +kernel
theorem dX9_countTrees_40 : decode cX9_countTrees 40 = .ok (.isub, 1) := by decide +kernel
theorem dX9_countTrees_41 : decode cX9_countTrees 41 = .ok (.aaload, 1) := by decide +kernel
theorem dX9_countTrees_42 : decode cX9_countTrees 42 = .ok (.iload_n 1, 1) := by decide +kernel
theorem dX9_countTrees_43 : decode cX9_countTrees 43 = .ok (.iload 5, 2) := by decide +kernel
theorem dX9_countTrees_45 : decode cX9_countTrees 45 = .ok (.isub, 1) := by decide +kernel
theorem dX9_countTrees_46 : decode cX9_countTrees 46 = .ok (.laload, 1) := by decide +kernel
theorem dX9_countTrees_47 : decode cX9_countTrees 47 = .ok (.lmul, 1) := by decide +kernel
theorem dX9_countTrees_48 : decode cX9_countTrees 48 = .ok (.ladd, 1) := by decide +kernel
theorem dX9_countTrees_49 : decode cX9_countTrees 49 = .ok (.lstore_n 3, 1) := by decide +kernel
theorem dX9_countTrees_50 : decode cX9_countTrees 50 = .ok (.iinc 5 1, 3) := by decide +kernel
theorem dX9_countTrees_53 : decode cX9_countTrees 53 = .ok (.goto (-33), 3) := by decide +kernel
theorem dX9_countTrees_56 : decode cX9_countTrees 56 = .ok (.aload_n 0, 1) := by decide +kernel
theorem dX9_countTrees_57 : decode cX9_countTrees 57 = .ok (.getfield 36, 3) := by decide +kernel
theorem dX9_countTrees_60 : decode cX9_countTrees 60 = .ok (.iload_n 2, 1) := by decide +kernel
theorem dX9_countTrees_61 : decode cX9_countTrees 61 = .ok (.aaload, 1) := by decide +kernel
theorem dX9_countTrees_62 : decode cX9_countTrees 62 = .ok (.iload_n 1, 1) := by decide +kernel
theorem dX9_countTrees_63 : decode cX9_countTrees 63 = .ok (.lload_n 3, 1) := by decide +kernel
theorem dX9_countTrees_64 : decode cX9_countTrees 64 = .ok (.lastore, 1) := by decide +kernel
theorem dX9_countTrees_65 : decode cX9_countTrees 65 = .ok (.iinc 2 1, 3) := by decide +kernel
theorem dX9_countTrees_68 : decode cX9_countTrees 68 = .ok (.goto (-58), 3) := by decide +kernel
theorem dX9_countTrees_71 : decode cX9_countTrees 71 = .ok (.iload_n 1, 1) := by decide +kernel
theorem dX9_countTrees_72 : decode cX9_countTrees 72 = .ok (.iconst 1, 1) := by decide +kernel
theorem dX9_countTrees_73 : decode cX9_countTrees 73 = .ok (.if_icmp .ne 7, 3) := by decide +kernel
theorem dX9_countTrees_76 : decode cX9_countTrees 76 = .ok (.lconst 1, 1) := by decide +kernel
theorem dX9_countTrees_77 : decode cX9_countTrees 77 = .ok (.goto 4, 3) := by decide +kernel
theorem dX9_countTrees_80 : decode cX9_countTrees 80 = .ok (.lconst 0, 1) := by decide +kernel
theorem dX9_countTrees_81 : decode cX9_countTrees 81 = .ok (.lstore_n 2, 1) := by decide +kernel
theorem dX9_countTrees_82 : decode cX9_countTrees 82 = .ok (.iconst 0, 1) := by decide +kernel
theorem dX9_countTrees_83 : decode cX9_countTrees 83 = .ok (.istore 4, 2) := by decide +kernel
theorem dX9_countTrees_85 : decode cX9_countTrees 85 = .ok (.iload 4, 2) := by decide +kernel
theorem dX9_countTrees_87 : decode cX9_countTrees 87 = .ok (.aload_n 0, 1) := by decide +kernel
theorem dX9_countTrees_88 : decode cX9_countTrees 88 = .ok (.getfield 43, 3) := by decide +kernel
theorem dX9_countTrees_91 : decode cX9_countTrees 91 = .ok (.if_icmp .ge 26, 3) := by decide +kernel
theorem dX9_countTrees_94 : decode cX9_countTrees 94 = .ok (.lload_n 2, 1) := by decide +kernel
theorem dX9_countTrees_95 : decode cX9_countTrees 95 = .ok (.aload_n 0, 1) := by decide +kernel
theorem dX9_countTrees_96 : decode cX9_countTrees 96 = .ok (.getfield 36, 3) := by decide +kernel
theorem dX9_countTrees_99 : decode cX9_countTrees 99 = .ok (.aload_n 0, 1) := by decide +kernel
theorem dX9_countTrees_100 : decode cX9_countTrees 100 = .ok (.getfield 15, 3) := by decide +kernel
theorem dX9_countTrees_103 : decode cX9_countTrees 103 = .ok (.iload 4, 2) := by decide +kernel
theorem dX9_countTrees_105 : decode cX9_countTrees 105 = .ok (.iaload, 1) := by decide +kernel
theorem dX9_countTrees_106 : decode cX9_countTrees 106 = .ok (.aaload, 1) := by decide +kernel
theorem dX9_countTrees_107 : decode cX9_countTrees 107 = .ok (.iload_n 1, 1) := by decide +kernel
theorem dX9_countTrees_108 : decode cX9_countTrees 108 = .ok (.laload, 1) := by decide +kernel
theorem dX9_countTrees_109 : decode cX9_countTrees 109 = .ok (.ladd, 1) := by decide +kernel
theorem dX9_countTrees_110 : decode cX9_countTrees 110 = .ok (.lstore_n 2, 1) := by decide +kernel
theorem dX9_countTrees_111 : decode cX9_countTrees 111 = .ok (.iinc 4 1, 3) := by decide +kernel
theorem dX9_countTrees_114 : decode cX9_countTrees 114 = .ok (.goto (-29), 3) := by decide +kernel
theorem dX9_countTrees_117 : decode cX9_countTrees 117 = .ok (.aload_n 0, 1) := by decide +kernel
theorem dX9_countTrees_118 : decode cX9_countTrees 118 = .ok (.getfield 31, 3) := by decide +kernel
theorem dX9_countTrees_121 : decode cX9_countTrees 121 = .ok (.iload_n 1, 1) := by decide +kernel
theorem dX9_countTrees_122 : decode cX9_countTrees 122 = .ok (.lload_n 2, 1) := by decide +kernel
theorem dX9_countTrees_123 : decode cX9_countTrees 123 = .ok (.lastore, 1) := by decide +kernel
theorem dX9_countTrees_124 : decode cX9_countTrees 124 = .ok (.aload_n 0, 1) := by decide +kernel
theorem dX9_countTrees_125 : decode cX9_countTrees 125 = .ok (.getfield 36, 3) := by decide +kernel
theorem dX9_countTrees_128 : decode cX9_countTrees 128 = .ok (.iconst 1, 1) := by decide +kernel
theorem dX9_countTrees_129 : decode cX9_countTrees 129 = .ok (.aaload, 1) := by decide +kernel
theorem dX9_countTrees_130 : decode cX9_countTrees 130 = .ok (.iload_n 1, 1) := by decide +kernel
theorem dX9_countTrees_131 : decode cX9_countTrees 131 = .ok (.lload_n 2, 1) := by decide +kernel
theorem dX9_countTrees_132 : decode cX9_countTrees 132 = .ok (.lastore, 1) := by decide +kernel
theorem dX9_countTrees_133 : decode cX9_countTrees 133 = .ok (.iinc 1 1, 3) := by decide +kernel
theorem dX9_countTrees_136 : decode cX9_countTrees 136 = .ok (.goto (-134), 3) := by decide +kernel
theorem dX9_countTrees_139 : decode cX9_countTrees 139 = .ok (.return_, 1) := by decide +kernel
theorem dX10_init_0 : decode cX10_init 0 = .ok (.aload_n 0, 1) := by decide +kernel
theorem dX10_init_1 : decode cX10_init 1 = .ok (.invokespecial 3, 3) := by decide +kernel
theorem dX10_init_4 : decode cX10_init 4 = .ok (.aload_n 0, 1) := by decide +kernel
theorem dX10_init_5 : decode cX10_init 5 = .ok (.bipush 13, 2) := by decide +kernel
theorem dX10_init_7 : decode cX10_init 7 = .ok (.newarray .int, 2) := by decide +kernel
theorem dX10_init_9 : decode cX10_init 9 = .ok (.putfield 9, 3) := by decide +kernel
theorem dX10_init_12 : decode cX10_init 12 = .ok (.aload_n 0, 1) := by decide +kernel
theorem dX10_init_13 : decode cX10_init 13 = .ok (.bipush 13, 2) := by decide +kernel
theorem dX10_init_15 : decode cX10_init 15 = .ok (.newarray .int, 2) := by decide +kernel
theorem dX10_init_17 : decode cX10_init 17 = .ok (.putfield 15, 3) := by decide +kernel
theorem dX10_init_20 : decode cX10_init 20 = .ok (.aload_n 0, 1) := by decide +kernel
theorem dX10_init_21 : decode cX10_init 21 = .ok (.bipush 64, 2) := by decide +kernel
theorem dX10_init_23 : decode cX10_init 23 = .ok (.newarray .int, 2) := by decide +kernel
theorem dX10_init_25 : decode cX10_init 25 = .ok (.putfield 18, 3) := by decide +kernel
theorem dX10_init_28 : decode cX10_init 28 = .ok (.return_, 1) := by decide +kernel
theorem dX10_byteOf_0 : decode cX10_byteOf 0 = .ok (.aload_n 0, 1) := by decide +kernel
theorem dX10_byteOf_1 : decode cX10_byteOf 1 = .ok (.aload_n 1, 1) := by decide +kernel
theorem dX10_byteOf_2 : decode cX10_byteOf 2 = .ok (.iload_n 2, 1) := by decide +kernel
theorem dX10_byteOf_3 : decode cX10_byteOf 3 = .ok (.iload_n 3, 1) := by decide +kernel
theorem dX10_byteOf_4 : decode cX10_byteOf 4 = .ok (.invokevirtual 21, 3) := by decide +kernel
theorem dX10_byteOf_7 : decode cX10_byteOf 7 = .ok (.iload 4, 2) := by decide +kernel
theorem dX10_byteOf_9 : decode cX10_byteOf 9 = .ok (.ifCond .lt 22, 3) := by decide +kernel
theorem dX10_byteOf_12 : decode cX10_byteOf 12 = .ok (.iload 4, 2) := by decide +kernel
theorem dX10_byteOf_14 : decode cX10_byteOf 14 = .ok (.aload_n 0, 1) := by decide +kernel
theorem dX10_byteOf_15 : decode cX10_byteOf 15 = .ok (.getfield 25, 3) := by decide +kernel
theorem dX10_byteOf_18 : decode cX10_byteOf 18 = .ok (.if_icmp .ge 13, 3) := by decide +kernel
theorem dX10_byteOf_21 : decode cX10_byteOf 21 = .ok (.aload_n 0, 1) := by decide +kernel
theorem dX10_byteOf_22 : decode cX10_byteOf 22 = .ok (.getfield 18, 3) := by decide +kernel
theorem dX10_byteOf_25 : decode cX10_byteOf 25 = .ok (.iload 4, 2) := by decide +kernel
theorem dX10_byteOf_27 : decode cX10_byteOf 27 = .ok (.iaload, 1) := by decide +kernel
theorem dX10_byteOf_28 : decode cX10_byteOf 28 = .ok (.goto 4, 3) := by decide +kernel
theorem dX10_byteOf_31 : decode cX10_byteOf 31 = .ok (.iconst (-1), 1) := by decide +kernel
theorem dX10_byteOf_32 : decode cX10_byteOf 32 = .ok (.ireturn, 1) := by decide +kernel
theorem dX10_write_0 : decode cX10_write 0 = .ok (.aload_n 0, 1) := by decide +kernel
theorem dX10_write_1 : decode cX10_write 1 = .ok (.iconst 0, 1) := by decide +kernel
theorem dX10_write_2 : decode cX10_write 2 = .ok (.putfield 25, 3) := by decide +kernel
theorem dX10_write_5 : decode cX10_write 5 = .ok (.iconst 0, 1) := by decide +kernel
theorem dX10_write_6 : decode cX10_write 6 = .ok (.istore 4, 2) := by decide +kernel
theorem dX10_write_8 : decode cX10_write 8 = .ok (.iload_n 2, 1) := by decide +kernel
theorem dX10_write_9 : decode cX10_write 9 = .ok (.iload_n 3, 1) := by decide +kernel
theorem dX10_write_10 : decode cX10_write 10 = .ok (.aload_n 0, 1) := by decide +kernel
theorem dX10_write_11 : decode cX10_write 11 = .ok (.getfield 9, 3) := by decide +kernel
theorem dX10_write_14 : decode cX10_write 14 = .ok (.invokestatic 29, 3) := by decide +kernel
theorem dX10_write_17 : decode cX10_write 17 = .ok (.istore 5, 2) := by decide +kernel
theorem dX10_write_19 : decode cX10_write 19 = .ok (.iconst 0, 1) := by decide +kernel
theorem dX10_write_20 : decode cX10_write 20 = .ok (.istore 6, 2) := by decide +kernel
theorem dX10_write_22 : decode cX10_write 22 = .ok (.iload 6, 2) := by decide +kernel
theorem dX10_write_24 : decode cX10_write 24 = .ok (.iload 5, 2) := by decide +kernel
theorem dX10_write_26 : decode cX10_write 26 = .ok (.if_icmp .ge 78, 3) := by decide +kernel
theorem dX10_write_29 : decode cX10_write 29 = .ok (.aload_n 0, 1) := by decide +kernel
theorem dX10_write_30 : decode cX10_write 30 = .ok (.getfield 9, 3) := by decide +kernel
theorem dX10_write_33 : decode cX10_write 33 = .ok (.iload 6, 2) := by decide +kernel
theorem dX10_write_35 : decode cX10_write 35 = .ok (.iaload, 1) := by decide +kernel
theorem dX10_write_36 : decode cX10_write 36 = .ok (.istore 7, 2) := by decide +kernel
theorem dX10_write_38 : decode cX10_write 38 = .ok (.aload_n 1, 1) := by decide +kernel
theorem dX10_write_39 : decode cX10_write 39 = .ok (.iload 7, 2) := by decide +kernel
theorem dX10_write_41 : decode cX10_write 41 = .ok (.invokevirtual 35, 3) := by decide +kernel
theorem dX10_write_44 : decode cX10_write 44 = .ok (.ifCond .eq 40, 3) := by decide +kernel
theorem dX10_write_47 : decode cX10_write 47 = .ok (.aload_n 0, 1) := by decide +kernel
theorem dX10_write_48 : decode cX10_write 48 = .ok (.aload_n 1, 1) := by decide +kernel
theorem dX10_write_49 : decode cX10_write 49 = .ok (.getfield 41, 3) := by decide +kernel
theorem dX10_write_52 : decode cX10_write 52 = .ok (.iload 7, 2) := by decide +kernel
theorem dX10_write_54 : decode cX10_write 54 = .ok (.laload, 1) := by decide +kernel
theorem dX10_write_55 : decode cX10_write 55 = .ok (.invokevirtual 45, 3) := by decide +kernel
theorem dX10_write_58 : decode cX10_write 58 = .ok (.aload_n 0, 1) := by decide +kernel
theorem dX10_write_59 : decode cX10_write 59 = .ok (.bipush 40, 2) := by decide +kernel
theorem dX10_write_61 : decode cX10_write 61 = .ok (.invokevirtual 49, 3) := by decide +kernel
theorem dX10_write_64 : decode cX10_write 64 = .ok (.aload_n 0, 1) := by decide +kernel
theorem dX10_write_65 : decode cX10_write 65 = .ok (.getfield 15, 3) := by decide +kernel
theorem dX10_write_68 : decode cX10_write 68 = .ok (.iload 4, 2) := by decide +kernel
theorem dX10_write_70 : decode cX10_write 70 = .ok (.aload_n 1, 1) := by decide +kernel
theorem dX10_write_71 : decode cX10_write 71 = .ok (.getfield 53, 3) := by decide +kernel
theorem dX10_write_74 : decode cX10_write 74 = .ok (.iload 7, 2) := by decide +kernel
theorem dX10_write_76 : decode cX10_write 76 = .ok (.iaload, 1) := by decide +kernel
theorem dX10_write_77 : decode cX10_write 77 = .ok (.iastore, 1) := by decide +kernel
theorem dX10_write_78 : decode cX10_write 78 = .ok (.iinc 4 1, 3) := by decide +kernel
theorem dX10_write_81 : decode cX10_write 81 = .ok (.goto 17, 3) := by decide +kernel
theorem dX10_write_84 : decode cX10_write 84 = .ok (.aload_n 0, 1) := by decide +kernel
theorem dX10_write_85 : decode cX10_write 85 = .ok (.bipush 120, 2) := by decide +kernel
theorem dX10_write_87 : decode cX10_write 87 = .ok (.invokevirtual 49, 3) := by decide +kernel
theorem dX10_write_90 : decode cX10_write 90 = .ok (.aload_n 0, 1) := by decide +kernel
theorem dX10_write_91 : decode cX10_write 91 = .ok (.iload 4, 2) := by decide +kernel
theorem dX10_write_93 : decode cX10_write 93 = .ok (.invokevirtual 56, 3) := by decide +kernel
theorem dX10_write_96 : decode cX10_write 96 = .ok (.istore 4, 2) := by decide +kernel
theorem dX10_write_98 : decode cX10_write 98 = .ok (.iinc 6 1, 3) := by decide +kernel
theorem dX10_write_101 : decode cX10_write 101 = .ok (.goto (-79), 3) := by decide +kernel
theorem dX10_write_104 : decode cX10_write 104 = .ok (.return_, 1) := by decide +kernel
theorem dX10_writeClosings_0 : decode cX10_writeClosings 0 = .ok (.iload_n 1, 1) := by decide +kernel
theorem dX10_writeClosings_1 : decode cX10_writeClosings 1 = .ok (.istore_n 2, 1) := by decide +kernel
theorem dX10_writeClosings_2 : decode cX10_writeClosings 2 = .ok (.iload_n 2, 1) := by decide +kernel
theorem dX10_writeClosings_3 : decode cX10_writeClosings 3 = .ok (.ifCond .le 46, 3) := by decide +kernel
theorem dX10_writeClosings_6 : decode cX10_writeClosings 6 = .ok (.aload_n 0, 1) := by decide +kernel
theorem dX10_writeClosings_7 : decode cX10_writeClosings 7 = .ok (.getfield 15, 3) := by decide +kernel
theorem dX10_writeClosings_10 : decode cX10_writeClosings 10 = .ok (.iload_n 2, 1) := by decide +kernel
theorem dX10_writeClosings_11 : decode cX10_writeClosings 11 = .ok (.iconst 1, 1) := by decide +kernel
theorem dX10_writeClosings_12 : decode cX10_writeClosings 12 = .ok (.isub, 1) := by decide +kernel
theorem dX10_writeClosings_13 : decode cX10_writeClosings 13 = .ok (.dup2, 1) := by decide +kernel
theorem dX10_writeClosings_14 : decode cX10_writeClosings 14 = .ok (.iaload, 1) := by decide +kernel
theorem dX10_writeClosings_15 : decode cX10_writeClosings 15 = .ok (.iconst 1, 1) := by decide +kernel
theorem dX10_writeClosings_16 : decode cX10_writeClosings 16 = .ok (.isub, 1) := by decide +kernel
theorem dX10_writeClosings_17 : decode cX10_writeClosings 17 = .ok (.iastore, 1) := by decide +kernel
theorem dX10_writeClosings_18 : decode cX10_writeClosings 18 = .ok (.aload_n 0, 1) := by decide +kernel
theorem dX10_writeClosings_19 : decode cX10_writeClosings 19 = .ok (.getfield 15, 3) := by decide +kernel
theorem dX10_writeClosings_22 : decode cX10_writeClosings 22 = .ok (.iload_n 2, 1) := by decide +kernel
theorem dX10_writeClosings_23 : decode cX10_writeClosings 23 = .ok (.iconst 1, 1) := by decide +kernel
theorem dX10_writeClosings_24 : decode cX10_writeClosings 24 = .ok (.isub, 1) := by decide +kernel
theorem dX10_writeClosings_25 : decode cX10_writeClosings 25 = .ok (.iaload, 1) := by decide +kernel
theorem dX10_writeClosings_26 : decode cX10_writeClosings 26 = .ok (.ifCond .le 11, 3) := by decide +kernel
theorem dX10_writeClosings_29 : decode cX10_writeClosings 29 = .ok (.aload_n 0, 1) := by decide +kernel
theorem dX10_writeClosings_30 : decode cX10_writeClosings 30 = .ok (.bipush 44, 2) := by decide +kernel
theorem dX10_writeClosings_32 : decode cX10_writeClosings 32 = .ok (.invokevirtual 49, 3) := by decide +kernel
theorem dX10_writeClosings_35 : decode cX10_writeClosings 35 = .ok (.iload_n 2, 1) := by decide +kernel
theorem dX10_writeClosings_36 : decode cX10_writeClosings 36 = .ok (.ireturn, 1) := by decide +kernel
theorem dX10_writeClosings_37 : decode cX10_writeClosings 37 = .ok (.aload_n 0, 1) := by decide +kernel
theorem dX10_writeClosings_38 : decode cX10_writeClosings 38 = .ok (.bipush 41, 2) := by decide +kernel
theorem dX10_writeClosings_40 : decode cX10_writeClosings 40 = .ok (.invokevirtual 49, 3) := by decide +kernel
theorem dX10_writeClosings_43 : decode cX10_writeClosings 43 = .ok (.iinc 2 (-1), 3) := by decide +kernel
theorem dX10_writeClosings_46 : decode cX10_writeClosings 46 = .ok (.goto (-44), 3) := by decide +kernel
theorem dX10_writeClosings_49 : decode cX10_writeClosings 49 = .ok (.iconst 0, 1) := by decide +kernel
theorem dX10_writeClosings_50 : decode cX10_writeClosings 50 = .ok (.ireturn, 1) := by decide +kernel
theorem dX10_writeName_0 : decode cX10_writeName 0 = .ok (.bipush 40, 2) := by decide +kernel
theorem dX10_writeName_2 : decode cX10_writeName 2 = .ok (.istore_n 3, 1) := by decide +kernel
theorem dX10_writeName_3 : decode cX10_writeName 3 = .ok (.iload_n 3, 1) := by decide +kernel
theorem dX10_writeName_4 : decode cX10_writeName 4 = .ok (.ifCond .lt 30, 3) := by decide +kernel
theorem dX10_writeName_7 : decode cX10_writeName 7 = .ok (.lload_n 1, 1) := by decide +kernel
theorem dX10_writeName_8 : decode cX10_writeName 8 = .ok (.iload_n 3, 1) := by decide +kernel
theorem dX10_writeName_9 : decode cX10_writeName 9 = .ok (.lushr, 1) := by decide +kernel
theorem dX10_writeName_10 : decode cX10_writeName 10 = .ok (.ldc2_w 60, 3) := by decide +kernel
theorem dX10_writeName_13 : decode cX10_writeName 13 = .ok (.land, 1) := by decide +kernel
theorem dX10_writeName_14 : decode cX10_writeName 14 = .ok (.l2i, 1) := by decide +kernel
theorem dX10_writeName_15 : decode cX10_writeName 15 = .ok (.istore 4, 2) := by decide +kernel
theorem dX10_writeName_17 : decode cX10_writeName 17 = .ok (.iload 4, 2) := by decide +kernel
theorem dX10_writeName_19 : decode cX10_writeName 19 = .ok (.ifCond .eq 9, 3) := by decide +kernel
theorem dX10_writeName_22 : decode cX10_writeName 22 = .ok (.aload_n 0, 1) := by decide +kernel
theorem dX10_writeName_23 : decode cX10_writeName 23 = .ok (.iload 4, 2) := by decide +kernel
theorem dX10_writeName_25 : decode cX10_writeName 25 = .ok (.invokevirtual 49, 3) := by decide +kernel
theorem dX10_writeName_28 : decode cX10_writeName 28 = .ok (.iinc 3 (-8), 3) := by decide +kernel
theorem dX10_writeName_31 : decode cX10_writeName 31 = .ok (.goto (-28), 3) := by decide +kernel
theorem dX10_writeName_34 : decode cX10_writeName 34 = .ok (.return_, 1) := by decide +kernel
theorem dX10_writeByte_0 : decode cX10_writeByte 0 = .ok (.aload_n 0, 1) := by decide +kernel
theorem dX10_writeByte_1 : decode cX10_writeByte 1 = .ok (.getfield 25, 3) := by decide +kernel
theorem dX10_writeByte_4 : decode cX10_writeByte 4 = .ok (.aload_n 0, 1) := by decide +kernel
theorem dX10_writeByte_5 : decode cX10_writeByte 5 = .ok (.getfield 18, 3) := by decide +kernel
theorem dX10_writeByte_8 : decode cX10_writeByte 8 = .ok (.arraylength, 1) := by decide +kernel
theorem dX10_writeByte_9 : decode cX10_writeByte 9 = .ok (.if_icmp .ge 23, 3) := by decide +kernel
theorem dX10_writeByte_12 : decode cX10_writeByte 12 = .ok (.aload_n 0, 1) := by decide +kernel
theorem dX10_writeByte_13 : decode cX10_writeByte 13 = .ok (.getfield 18, 3) := by decide +kernel
theorem dX10_writeByte_16 : decode cX10_writeByte 16 = .ok (.aload_n 0, 1) := by decide +kernel
theorem dX10_writeByte_17 : decode cX10_writeByte 17 = .ok (.getfield 25, 3) := by decide +kernel
theorem dX10_writeByte_20 : decode cX10_writeByte 20 = .ok (.iload_n 1, 1) := by decide +kernel
theorem dX10_writeByte_21 : decode cX10_writeByte 21 = .ok (.iastore, 1) := by decide +kernel
theorem dX10_writeByte_22 : decode cX10_writeByte 22 = .ok (.aload_n 0, 1) := by decide +kernel
theorem dX10_writeByte_23 : decode cX10_writeByte 23 = .ok (.dup, 1) := by decide +kernel
theorem dX10_writeByte_24 : decode cX10_writeByte 24 = .ok (.getfield 25, 3) := by decide +kernel
theorem dX10_writeByte_27 : decode cX10_writeByte 27 = .ok (.iconst 1, 1) := by decide +kernel
theorem dX10_writeByte_28 : decode cX10_writeByte 28 = .ok (.iadd, 1) := by decide +kernel
theorem dX10_writeByte_29 : decode cX10_writeByte 29 = .ok (.putfield 25, 3) := by decide +kernel
theorem dX10_writeByte_32 : decode cX10_writeByte 32 = .ok (.return_, 1) := by decide +kernel
theorem dX11_init_0 : decode cX11_init 0 = .ok (.aload_n 0, 1) := by decide +kernel
theorem dX11_init_1 : decode cX11_init 1 = .ok (.invokespecial 1, 3) := by decide +kernel
theorem dX11_init_4 : decode cX11_init 4 = .ok (.aload_n 0, 1) := by decide +kernel
theorem dX11_init_5 : decode cX11_init 5 = .ok (.sipush 940, 3) := by decide +kernel
theorem dX11_init_8 : decode cX11_init 8 = .ok (.newarray .byte, 2) := by decide +kernel
theorem dX11_init_10 : decode cX11_init 10 = .ok (.putfield 9, 3) := by decide +kernel
theorem dX11_init_13 : decode cX11_init 13 = .ok (.aload_n 0, 1) := by decide +kernel
theorem dX11_init_14 : decode cX11_init 14 = .ok (.iconst 4, 1) := by decide +kernel
theorem dX11_init_15 : decode cX11_init 15 = .ok (.anewarray 13, 3) := by decide +kernel
theorem dX11_init_18 : decode cX11_init 18 = .ok (.putfield 15, 3) := by decide +kernel
theorem dX11_init_21 : decode cX11_init 21 = .ok (.aload_n 0, 1) := by decide +kernel
theorem dX11_init_22 : decode cX11_init 22 = .ok (.iconst 2, 1) := by decide +kernel
theorem dX11_init_23 : decode cX11_init 23 = .ok (.newarray .int, 2) := by decide +kernel
theorem dX11_init_25 : decode cX11_init 25 = .ok (.putfield 19, 3) := by decide +kernel
theorem dX11_init_28 : decode cX11_init 28 = .ok (.aload_n 0, 1) := by decide +kernel
theorem dX11_init_29 : decode cX11_init 29 = .ok (.new 23, 3) := by decide +kernel
theorem dX11_init_32 : decode cX11_init 32 = .ok (.dup, 1) := by decide +kernel
theorem dX11_init_33 : decode cX11_init 33 = .ok (.invokespecial 25, 3) := by decide +kernel
theorem dX11_init_36 : decode cX11_init 36 = .ok (.putfield 26, 3) := by decide +kernel
theorem dX11_init_39 : decode cX11_init 39 = .ok (.aload_n 0, 1) := by decide +kernel
theorem dX11_init_40 : decode cX11_init 40 = .ok (.iconst 2, 1) := by decide +kernel
theorem dX11_init_41 : decode cX11_init 41 = .ok (.anewarray 23, 3) := by decide +kernel
theorem dX11_init_44 : decode cX11_init 44 = .ok (.putfield 30, 3) := by decide +kernel
theorem dX11_init_47 : decode cX11_init 47 = .ok (.aload_n 0, 1) := by decide +kernel
theorem dX11_init_48 : decode cX11_init 48 = .ok (.new 34, 3) := by decide +kernel
theorem dX11_init_51 : decode cX11_init 51 = .ok (.dup, 1) := by decide +kernel
theorem dX11_init_52 : decode cX11_init 52 = .ok (.invokespecial 36, 3) := by decide +kernel
theorem dX11_init_55 : decode cX11_init 55 = .ok (.putfield 37, 3) := by decide +kernel
theorem dX11_init_58 : decode cX11_init 58 = .ok (.aload_n 0, 1) := by decide +kernel
theorem dX11_init_59 : decode cX11_init 59 = .ok (.iconst 2, 1) := by decide +kernel
theorem dX11_init_60 : decode cX11_init 60 = .ok (.anewarray 34, 3) := by decide +kernel
theorem dX11_init_63 : decode cX11_init 63 = .ok (.putfield 41, 3) := by decide +kernel
theorem dX11_init_66 : decode cX11_init 66 = .ok (.aload_n 0, 1) := by decide +kernel
theorem dX11_init_67 : decode cX11_init 67 = .ok (.bipush 8, 2) := by decide +kernel
theorem dX11_init_69 : decode cX11_init 69 = .ok (.anewarray 34, 3) := by decide +kernel
theorem dX11_init_72 : decode cX11_init 72 = .ok (.putfield 45, 3) := by decide +kernel
theorem dX11_init_75 : decode cX11_init 75 = .ok (.aload_n 0, 1) := by decide +kernel
theorem dX11_init_76 : decode cX11_init 76 = .ok (.new 34, 3) := by decide +kernel
theorem dX11_init_79 : decode cX11_init 79 = .ok (.dup, 1) := by decide +kernel
theorem dX11_init_80 : decode cX11_init 80 = .ok (.invokespecial 36, 3) := by decide +kernel
theorem dX11_init_83 : decode cX11_init 83 = .ok (.putfield 48, 3) := by decide +kernel
theorem dX11_init_86 : decode cX11_init 86 = .ok (.aload_n 0, 1) := by decide +kernel
theorem dX11_init_87 : decode cX11_init 87 = .ok (.new 51, 3) := by decide +kernel
theorem dX11_init_90 : decode cX11_init 90 = .ok (.dup, 1) := by decide +kernel
theorem dX11_init_91 : decode cX11_init 91 = .ok (.invokespecial 53, 3) := by decide +kernel
theorem dX11_init_94 : decode cX11_init 94 = .ok (.putfield 54, 3) := by decide +kernel
theorem dX11_init_97 : decode cX11_init 97 = .ok (.aload_n 0, 1) := by decide +kernel
theorem dX11_init_98 : decode cX11_init 98 = .ok (.new 58, 3) := by decide +kernel
theorem dX11_init_101 : decode cX11_init 101 = .ok (.dup, 1) := by decide +kernel
theorem dX11_init_102 : decode cX11_init 102 = .ok (.invokespecial 60, 3) := by decide +kernel
theorem dX11_init_105 : decode cX11_init 105 = .ok (.putfield 61, 3) := by decide +kernel
theorem dX11_init_108 : decode cX11_init 108 = .ok (.aload_n 0, 1) := by decide +kernel
theorem dX11_init_109 : decode cX11_init 109 = .ok (.new 65, 3) := by decide +kernel
theorem dX11_init_112 : decode cX11_init 112 = .ok (.dup, 1) := by decide +kernel
theorem dX11_init_113 : decode cX11_init 113 = .ok (.invokespecial 67, 3) := by decide +kernel
theorem dX11_init_116 : decode cX11_init 116 = .ok (.putfield 68, 3) := by decide +kernel
theorem dX11_init_119 : decode cX11_init 119 = .ok (.aload_n 0, 1) := by decide +kernel
theorem dX11_init_120 : decode cX11_init 120 = .ok (.new 72, 3) := by decide +kernel
theorem dX11_init_123 : decode cX11_init 123 = .ok (.dup, 1) := by decide +kernel
theorem dX11_init_124 : decode cX11_init 124 = .ok (.invokespecial 74, 3) := by decide +kernel
theorem dX11_init_127 : decode cX11_init 127 = .ok (.putfield 75, 3) := by decide +kernel
theorem dX11_init_130 : decode cX11_init 130 = .ok (.aload_n 0, 1) := by decide +kernel
theorem dX11_init_131 : decode cX11_init 131 = .ok (.new 79, 3) := by decide +kernel
theorem dX11_init_134 : decode cX11_init 134 = .ok (.dup, 1) := by decide +kernel
theorem dX11_init_135 : decode cX11_init 135 = .ok (.invokespecial 81, 3) := by decide +kernel
theorem dX11_init_138 : decode cX11_init 138 = .ok (.putfield 82, 3) := by decide +kernel
theorem dX11_init_141 : decode cX11_init 141 = .ok (.aload_n 0, 1) := by decide +kernel
theorem dX11_init_142 : decode cX11_init 142 = .ok (.new 86, 3) := by decide +kernel
theorem dX11_init_145 : decode cX11_init 145 = .ok (.dup, 1) := by decide +kernel
theorem dX11_init_146 : decode cX11_init 146 = .ok (.invokespecial 88, 3) := by decide +kernel
theorem dX11_init_149 : decode cX11_init 149 = .ok (.putfield 89, 3) := by decide +kernel
theorem dX11_init_152 : decode cX11_init 152 = .ok (.aload_n 0, 1) := by decide +kernel
theorem dX11_init_153 : decode cX11_init 153 = .ok (.new 93, 3) := by decide +kernel
theorem dX11_init_156 : decode cX11_init 156 = .ok (.dup, 1) := by decide +kernel
theorem dX11_init_157 : decode cX11_init 157 = .ok (.invokespecial 95, 3) := by decide +kernel
theorem dX11_init_160 : decode cX11_init 160 = .ok (.putfield 96, 3) := by decide +kernel
theorem dX11_init_163 : decode cX11_init 163 = .ok (.iconst 0, 1) := by decide +kernel
theorem dX11_init_164 : decode cX11_init 164 = .ok (.istore_n 1, 1) := by decide +kernel
theorem dX11_init_165 : decode cX11_init 165 = .ok (.iload_n 1, 1) := by decide +kernel
theorem dX11_init_166 : decode cX11_init 166 = .ok (.aload_n 0, 1) := by decide +kernel
theorem dX11_init_167 : decode cX11_init 167 = .ok (.getfield 15, 3) := by decide +kernel
theorem dX11_init_170 : decode cX11_init 170 = .ok (.arraylength, 1) := by decide +kernel
theorem dX11_init_171 : decode cX11_init 171 = .ok (.if_icmp .ge 29, 3) := by decide +kernel
theorem dX11_init_174 : decode cX11_init 174 = .ok (.aload_n 0, 1) := by decide +kernel
theorem dX11_init_175 : decode cX11_init 175 = .ok (.getfield 15, 3) := by decide +kernel
theorem dX11_init_178 : decode cX11_init 178 = .ok (.iload_n 1, 1) := by decide +kernel
theorem dX11_init_179 : decode cX11_init 179 = .ok (.new 13, 3) := by decide +kernel
theorem dX11_init_182 : decode cX11_init 182 = .ok (.dup, 1) := by decide +kernel
theorem dX11_init_183 : decode cX11_init 183 = .ok (.new 100, 3) := by decide +kernel
theorem dX11_init_186 : decode cX11_init 186 = .ok (.dup, 1) := by decide +kernel
theorem dX11_init_187 : decode cX11_init 187 = .ok (.invokespecial 102, 3) := by decide +kernel
theorem dX11_init_190 : decode cX11_init 190 = .ok (.invokespecial 103, 3) := by decide +kernel
theorem dX11_init_193 : decode cX11_init 193 = .ok (.aastore, 1) := by decide +kernel
theorem dX11_init_194 : decode cX11_init 194 = .ok (.iinc 1 1, 3) := by decide +kernel
theorem dX11_init_197 : decode cX11_init 197 = .ok (.goto (-32), 3) := by decide +kernel
theorem dX11_init_200 : decode cX11_init 200 = .ok (.iconst 0, 1) := by decide +kernel
theorem dX11_init_201 : decode cX11_init 201 = .ok (.istore_n 1, 1) := by decide +kernel
theorem dX11_init_202 : decode cX11_init 202 = .ok (.iload_n 1, 1) := by decide +kernel
theorem dX11_init_203 : decode cX11_init 203 = .ok (.iconst 2, 1) := by decide +kernel
theorem dX11_init_204 : decode cX11_init 204 = .ok (.if_icmp .ge 42, 3) := by decide +kernel
theorem dX11_init_207 : decode cX11_init 207 = .ok (.aload_n 0, 1) := by decide +kernel
theorem dX11_init_208 : decode cX11_init 208 = .ok (.getfield 19, 3) := by decide +kernel
theorem dX11_init_211 : decode cX11_init 211 = .ok (.iload_n 1, 1) := by decide +kernel
theorem dX11_init_212 : decode cX11_init 212 = .ok (.iconst (-1), 1) := by decide +kernel
theorem dX11_init_213 : decode cX11_init 213 = .ok (.iastore, 1) := by decide +kernel
theorem dX11_init_214 : decode cX11_init 214 = .ok (.aload_n 0, 1) := by decide +kernel
theorem dX11_init_215 : decode cX11_init 215 = .ok (.getfield 30, 3) := by decide +kernel
theorem dX11_init_218 : decode cX11_init 218 = .ok (.iload_n 1, 1) := by decide +kernel
theorem dX11_init_219 : decode cX11_init 219 = .ok (.new 23, 3) := by decide +kernel
theorem dX11_init_222 : decode cX11_init 222 = .ok (.dup, 1) := by decide +kernel
theorem dX11_init_223 : decode cX11_init 223 = .ok (.invokespecial 25, 3) := by decide +kernel
theorem dX11_init_226 : decode cX11_init 226 = .ok (.aastore, 1) := by decide +kernel
theorem dX11_init_227 : decode cX11_init 227 = .ok (.aload_n 0, 1) := by decide +kernel
theorem dX11_init_228 : decode cX11_init 228 = .ok (.getfield 41, 3) := by decide +kernel
theorem dX11_init_231 : decode cX11_init 231 = .ok (.iload_n 1, 1) := by decide +kernel
theorem dX11_init_232 : decode cX11_init 232 = .ok (.new 34, 3) := by decide +kernel
theorem dX11_init_235 : decode cX11_init 235 = .ok (.dup, 1) := by decide +kernel
theorem dX11_init_236 : decode cX11_init 236 = .ok (.invokespecial 36, 3) := by decide +kernel
theorem dX11_init_239 : decode cX11_init 239 = .ok (.aastore, 1) := by decide +kernel
theorem dX11_init_240 : decode cX11_init 240 = .ok (.iinc 1 1, 3) := by decide +kernel
theorem dX11_init_243 : decode cX11_init 243 = .ok (.goto (-41), 3) := by decide +kernel
theorem dX11_init_246 : decode cX11_init 246 = .ok (.iconst 0, 1) := by decide +kernel
theorem dX11_init_247 : decode cX11_init 247 = .ok (.istore_n 1, 1) := by decide +kernel
theorem dX11_init_248 : decode cX11_init 248 = .ok (.iload_n 1, 1) := by decide +kernel
theorem dX11_init_249 : decode cX11_init 249 = .ok (.bipush 8, 2) := by decide +kernel
theorem dX11_init_251 : decode cX11_init 251 = .ok (.if_icmp .ge 22, 3) := by decide +kernel
theorem dX11_init_254 : decode cX11_init 254 = .ok (.aload_n 0, 1) := by decide +kernel
theorem dX11_init_255 : decode cX11_init 255 = .ok (.getfield 45, 3) := by decide +kernel
theorem dX11_init_258 : decode cX11_init 258 = .ok (.iload_n 1, 1) := by decide +kernel
theorem dX11_init_259 : decode cX11_init 259 = .ok (.new 34, 3) := by decide +kernel
theorem dX11_init_262 : decode cX11_init 262 = .ok (.dup, 1) := by decide +kernel
theorem dX11_init_263 : decode cX11_init 263 = .ok (.invokespecial 36, 3) := by decide +kernel
theorem dX11_init_266 : decode cX11_init 266 = .ok (.aastore, 1) := by decide +kernel
theorem dX11_init_267 : decode cX11_init 267 = .ok (.iinc 1 1, 3) := by decide +kernel
theorem dX11_init_270 : decode cX11_init 270 = .ok (.goto (-22), 3) := by decide +kernel
theorem dX11_init_273 : decode cX11_init 273 = .ok (.return_, 1) := by decide +kernel
theorem dX11_feed_0 : decode cX11_feed 0 = .ok (.aload_n 0, 1) := by decide +kernel
theorem dX11_feed_1 : decode cX11_feed 1 = .ok (.getfield 106, 3) := by decide +kernel
theorem dX11_feed_4 : decode cX11_feed 4 = .ok (.bipush 20, 2) := by decide +kernel
theorem dX11_feed_6 : decode cX11_feed 6 = .ok (.iadd, 1) := by decide +kernel
theorem dX11_feed_7 : decode cX11_feed 7 = .ok (.sipush 940, 3) := by decide +kernel
theorem dX11_feed_10 : decode cX11_feed 10 = .ok (.if_icmp .le 5, 3) := by decide +kernel
theorem dX11_feed_13 : decode cX11_feed 13 = .ok (.iconst (-1), 1) := by decide +kernel
theorem dX11_feed_14 : decode cX11_feed 14 = .ok (.ireturn, 1) := by decide +kernel
theorem dX11_feed_15 : decode cX11_feed 15 = .ok (.aload_n 0, 1) := by decide +kernel
theorem dX11_feed_16 : decode cX11_feed 16 = .ok (.iload_n 1, 1) := by decide +kernel
theorem dX11_feed_17 : decode cX11_feed 17 = .ok (.invokevirtual 110, 3) := by decide +kernel
theorem dX11_feed_20 : decode cX11_feed 20 = .ok (.aload_n 0, 1) := by decide +kernel
theorem dX11_feed_21 : decode cX11_feed 21 = .ok (.iload_n 2, 1) := by decide +kernel
theorem dX11_feed_22 : decode cX11_feed 22 = .ok (.invokevirtual 110, 3) := by decide +kernel
theorem dX11_feed_25 : decode cX11_feed 25 = .ok (.aload_n 0, 1) := by decide +kernel
theorem dX11_feed_26 : decode cX11_feed 26 = .ok (.iload_n 3, 1) := by decide +kernel
theorem dX11_feed_27 : decode cX11_feed 27 = .ok (.invokevirtual 110, 3) := by decide +kernel
theorem dX11_feed_30 : decode cX11_feed 30 = .ok (.aload_n 0, 1) := by decide +kernel
theorem dX11_feed_31 : decode cX11_feed 31 = .ok (.iload 4, 2) := by decide +kernel
theorem dX11_feed_33 : decode cX11_feed 33 = .ok (.invokevirtual 110, 3) := by decide +kernel
theorem dX11_feed_36 : decode cX11_feed 36 = .ok (.aload_n 0, 1) := by decide +kernel
theorem dX11_feed_37 : decode cX11_feed 37 = .ok (.iload 5, 2) := by decide +kernel
theorem dX11_feed_39 : decode cX11_feed 39 = .ok (.invokevirtual 110, 3) := by decide +kernel
theorem dX11_feed_42 : decode cX11_feed 42 = .ok (.aload_n 0, 1) := by decide +kernel
theorem dX11_feed_43 : decode cX11_feed 43 = .ok (.getfield 106, 3) := by decide +kernel
theorem dX11_feed_46 : decode cX11_feed 46 = .ok (.ireturn, 1) := by decide +kernel
theorem dX11_feedOne_0 : decode cX11_feedOne 0 = .ok (.bipush 24, 2) := by decide +kernel
theorem dX11_feedOne_2 : decode cX11_feedOne 2 = .ok (.istore_n 2, 1) := by decide +kernel
theorem dX11_feedOne_3 : decode cX11_feedOne 3 = .ok (.iload_n 2, 1) := by decide +kernel
theorem dX11_feedOne_4 : decode cX11_feedOne 4 = .ok (.ifCond .lt 44, 3) := by decide +kernel
theorem dX11_feedOne_7 : decode cX11_feedOne 7 = .ok (.aload_n 0, 1) := by decide +kernel
theorem dX11_feedOne_8 : decode cX11_feedOne 8 = .ok (.getfield 106, 3) := by decide +kernel
theorem dX11_feedOne_11 : decode cX11_feedOne 11 = .ok (.aload_n 0, 1) := by decide +kernel
theorem dX11_feedOne_12 : decode cX11_feedOne 12 = .ok (.getfield 9, 3) := by decide +kernel
theorem dX11_feedOne_15 : decode cX11_feedOne 15 = .ok (.arraylength, 1) := by decide +kernel
theorem dX11_feedOne_16 : decode cX11_feedOne 16 = .ok (.if_icmp .ge 26, 3) := by decide +kernel
theorem dX11_feedOne_19 : decode cX11_feedOne 19 = .ok (.aload_n 0, 1) := by decide +kernel
theorem dX11_feedOne_20 : decode cX11_feedOne 20 = .ok (.getfield 9, 3) := by decide +kernel
theorem dX11_feedOne_23 : decode cX11_feedOne 23 = .ok (.aload_n 0, 1) := by decide +kernel
theorem dX11_feedOne_24 : decode cX11_feedOne 24 = .ok (.getfield 106, 3) := by decide +kernel
theorem dX11_feedOne_27 : decode cX11_feedOne 27 = .ok (.iload_n 1, 1) := by decide +kernel
theorem dX11_feedOne_28 : decode cX11_feedOne 28 = .ok (.iload_n 2, 1) := by decide +kernel
theorem dX11_feedOne_29 : decode cX11_feedOne 29 = .ok (.iushr, 1) := by decide +kernel
theorem dX11_feedOne_30 : decode cX11_feedOne 30 = .ok (.i2b, 1) := by decide +kernel
theorem dX11_feedOne_31 : decode cX11_feedOne 31 = .ok (.bastore, 1) := by decide +kernel
theorem dX11_feedOne_32 : decode cX11_feedOne 32 = .ok (.aload_n 0, 1) := by decide +kernel
theorem dX11_feedOne_33 : decode cX11_feedOne 33 = .ok (.dup, 1) := by decide +kernel
theorem dX11_feedOne_34 : decode cX11_feedOne 34 = .ok (.getfield 106, 3) := by decide +kernel
theorem dX11_feedOne_37 : decode cX11_feedOne 37 = .ok (.iconst 1, 1) := by decide +kernel
theorem dX11_feedOne_38 : decode cX11_feedOne 38 = .ok (.iadd, 1) := by decide +kernel
theorem dX11_feedOne_39 : decode cX11_feedOne 39 = .ok (.putfield 106, 3) := by decide +kernel
theorem dX11_feedOne_42 : decode cX11_feedOne 42 = .ok (.iinc 2 (-8), 3) := by decide +kernel
theorem dX11_feedOne_45 : decode cX11_feedOne 45 = .ok (.goto (-42), 3) := by decide +kernel
theorem dX11_feedOne_48 : decode cX11_feedOne 48 = .ok (.return_, 1) := by decide +kernel
theorem dX11_end_0 : decode cX11_end 0 = .ok (.iload_n 1, 1) := by decide +kernel
theorem dX11_end_1 : decode cX11_end 1 = .ok (.ifCond .lt 11, 3) := by decide +kernel
theorem dX11_end_4 : decode cX11_end 4 = .ok (.iload_n 1, 1) := by decide +kernel
theorem dX11_end_5 : decode cX11_end 5 = .ok (.aload_n 0, 1) := by decide +kernel
theorem dX11_end_6 : decode cX11_end 6 = .ok (.getfield 106, 3) := by decide +kernel
theorem dX11_end_9 : decode cX11_end 9 = .ok (.if_icmp .le 5, 3) := by decide +kernel
theorem dX11_end_12 : decode cX11_end 12 = .ok (.iconst 0, 1) := by decide +kernel
theorem dX11_end_13 : decode cX11_end 13 = .ok (.ireturn, 1) := by decide +kernel
theorem dX11_end_14 : decode cX11_end 14 = .ok (.aload_n 0, 1) := by decide +kernel
theorem dX11_end_15 : decode cX11_end 15 = .ok (.iload_n 1, 1) := by decide +kernel
theorem dX11_end_16 : decode cX11_end 16 = .ok (.putfield 106, 3) := by decide +kernel
theorem dX11_end_19 : decode cX11_end 19 = .ok (.iconst 1, 1) := by decide +kernel
theorem dX11_end_20 : decode cX11_end 20 = .ok (.ireturn, 1) := by decide +kernel
theorem dX11_emptyTape_0 : decode cX11_emptyTape 0 = .ok (.aload_n 0, 1) := by decide +kernel
theorem dX11_emptyTape_1 : decode cX11_emptyTape 1 = .ok (.getfield 106, 3) := by decide +kernel
theorem dX11_emptyTape_4 : decode cX11_emptyTape 4 = .ok (.istore_n 1, 1) := by decide +kernel
theorem dX11_emptyTape_5 : decode cX11_emptyTape 5 = .ok (.aload_n 0, 1) := by decide +kernel
theorem dX11_emptyTape_6 : decode cX11_emptyTape 6 = .ok (.iconst 0, 1) := by decide +kernel
theorem dX11_emptyTape_7 : decode cX11_emptyTape 7 = .ok (.putfield 106, 3) := by decide +kernel
theorem dX11_emptyTape_10 : decode cX11_emptyTape 10 = .ok (.iload_n 1, 1) := by decide +kernel
theorem dX11_emptyTape_11 : decode cX11_emptyTape 11 = .ok (.ireturn, 1) := by decide +kernel
theorem dX11_world_0 : decode cX11_world 0 = .ok (.aload_n 0, 1) := by decide +kernel
theorem dX11_world_1 : decode cX11_world 1 = .ok (.invokevirtual 114, 3) := by decide +kernel
theorem dX11_world_4 : decode cX11_world 4 = .ok (.istore_n 1, 1) := by decide +kernel
theorem dX11_world_5 : decode cX11_world 5 = .ok (.aload_n 0, 1) := by decide +kernel
theorem dX11_world_6 : decode cX11_world 6 = .ok (.getfield 15, 3) := by decide +kernel
theorem dX11_world_9 : decode cX11_world 9 = .ok (.iload_n 1, 1) := by decide +kernel
theorem dX11_world_10 : decode cX11_world 10 = .ok (.aaload, 1) := by decide +kernel
theorem dX11_world_11 : decode cX11_world 11 = .ok (.astore_n 2, 1) := by decide +kernel
theorem dX11_world_12 : decode cX11_world 12 = .ok (.aload_n 0, 1) := by decide +kernel
theorem dX11_world_13 : decode cX11_world 13 = .ok (.getfield 61, 3) := by decide +kernel
theorem dX11_world_16 : decode cX11_world 16 = .ok (.aload_n 0, 1) := by decide +kernel
theorem dX11_world_17 : decode cX11_world 17 = .ok (.getfield 9, 3) := by decide +kernel
theorem dX11_world_20 : decode cX11_world 20 = .ok (.aload_n 0, 1) := by decide +kernel
theorem dX11_world_21 : decode cX11_world 21 = .ok (.invokevirtual 118, 3) := by decide +kernel
theorem dX11_world_24 : decode cX11_world 24 = .ok (.sipush 900, 3) := by decide +kernel
theorem dX11_world_27 : decode cX11_world 27 = .ok (.invokevirtual 121, 3) := by decide +kernel
theorem dX11_world_30 : decode cX11_world 30 = .ok (.aload_n 0, 1) := by decide +kernel
theorem dX11_world_31 : decode cX11_world 31 = .ok (.getfield 61, 3) := by decide +kernel
theorem dX11_world_34 : decode cX11_world 34 = .ok (.aload_n 2, 1) := by decide +kernel
theorem dX11_world_35 : decode cX11_world 35 = .ok (.getfield 125, 3) := by decide +kernel
theorem dX11_world_38 : decode cX11_world 38 = .ok (.invokevirtual 129, 3) := by decide +kernel
theorem dX11_world_41 : decode cX11_world 41 = .ok (.istore_n 3, 1) := by decide +kernel
theorem dX11_world_42 : decode cX11_world 42 = .ok (.iload_n 3, 1) := by decide +kernel
theorem dX11_world_43 : decode cX11_world 43 = .ok (.ifCond .ge 13, 3) := by decide +kernel
theorem dX11_world_46 : decode cX11_world 46 = .ok (.iconst (-1), 1) := by decide +kernel
theorem dX11_world_47 : decode cX11_world 47 = .ok (.aload_n 0, 1) := by decide +kernel
theorem dX11_world_48 : decode cX11_world 48 = .ok (.getfield 61, 3) := by decide +kernel
theorem dX11_world_51 : decode cX11_world 51 = .ok (.getfield 133, 3) := by decide +kernel
theorem dX11_world_54 : decode cX11_world 54 = .ok (.isub, 1) := by decide +kernel
theorem dX11_world_55 : decode cX11_world 55 = .ok (.ireturn, 1) := by decide +kernel
theorem dX11_world_56 : decode cX11_world 56 = .ok (.aload_n 2, 1) := by decide +kernel
theorem dX11_world_57 : decode cX11_world 57 = .ok (.invokevirtual 136, 3) := by decide +kernel
theorem dX11_world_60 : decode cX11_world 60 = .ok (.aload_n 0, 1) := by decide +kernel
theorem dX11_world_61 : decode cX11_world 61 = .ok (.iload_n 1, 1) := by decide +kernel
theorem dX11_world_62 : decode cX11_world 62 = .ok (.putfield 139, 3) := by decide +kernel
theorem dX11_world_65 : decode cX11_world 65 = .ok (.aload_n 0, 1) := by decide +kernel
theorem dX11_world_66 : decode cX11_world 66 = .ok (.getfield 26, 3) := by decide +kernel
theorem dX11_world_69 : decode cX11_world 69 = .ok (.iconst 1, 1) := by decide +kernel
theorem dX11_world_70 : decode cX11_world 70 = .ok (.invokevirtual 142, 3) := by decide +kernel
theorem dX11_world_73 : decode cX11_world 73 = .ok (.aload_n 0, 1) := by decide +kernel
theorem dX11_world_74 : decode cX11_world 74 = .ok (.getfield 37, 3) := by decide +kernel
theorem dX11_world_77 : decode cX11_world 77 = .ok (.iconst 1, 1) := by decide +kernel
theorem dX11_world_78 : decode cX11_world 78 = .ok (.invokevirtual 145, 3) := by decide +kernel
theorem dX11_world_81 : decode cX11_world 81 = .ok (.aload_n 0, 1) := by decide +kernel
theorem dX11_world_82 : decode cX11_world 82 = .ok (.iconst 0, 1) := by decide +kernel
theorem dX11_world_83 : decode cX11_world 83 = .ok (.putfield 146, 3) := by decide +kernel
theorem dX11_world_86 : decode cX11_world 86 = .ok (.iload_n 3, 1) := by decide +kernel
theorem dX11_world_87 : decode cX11_world 87 = .ok (.ireturn, 1) := by decide +kernel
theorem dX11_freeSlot_0 : decode cX11_freeSlot 0 = .ok (.iconst 0, 1) := by decide +kernel
theorem dX11_freeSlot_1 : decode cX11_freeSlot 1 = .ok (.istore_n 1, 1) := by decide +kernel
theorem dX11_freeSlot_2 : decode cX11_freeSlot 2 = .ok (.iload_n 1, 1) := by decide +kernel
theorem dX11_freeSlot_3 : decode cX11_freeSlot 3 = .ok (.aload_n 0, 1) := by decide +kernel
theorem dX11_freeSlot_4 : decode cX11_freeSlot 4 = .ok (.getfield 15, 3) := by decide +kernel
theorem dX11_freeSlot_7 : decode cX11_freeSlot 7 = .ok (.arraylength, 1) := by decide +kernel
theorem dX11_freeSlot_8 : decode cX11_freeSlot 8 = .ok (.if_icmp .ge 39, 3) := by decide +kernel
theorem dX11_freeSlot_11 : decode cX11_freeSlot 11 = .ok (.iload_n 1, 1) := by decide +kernel
theorem dX11_freeSlot_12 : decode cX11_freeSlot 12 = .ok (.aload_n 0, 1) := by decide +kernel
theorem dX11_freeSlot_13 : decode cX11_freeSlot 13 = .ok (.getfield 139, 3) := by decide +kernel
theorem dX11_freeSlot_16 : decode cX11_freeSlot 16 = .ok (.if_icmp .eq 25, 3) := by decide +kernel
theorem dX11_freeSlot_19 : decode cX11_freeSlot 19 = .ok (.iload_n 1, 1) := by decide +kernel
theorem dX11_freeSlot_20 : decode cX11_freeSlot 20 = .ok (.aload_n 0, 1) := by decide +kernel
theorem dX11_freeSlot_21 : decode cX11_freeSlot 21 = .ok (.getfield 19, 3) := by decide +kernel
theorem dX11_freeSlot_24 : decode cX11_freeSlot 24 = .ok (.iconst 0, 1) := by decide +kernel
theorem dX11_freeSlot_25 : decode cX11_freeSlot 25 = .ok (.iaload, 1) := by decide +kernel
theorem dX11_freeSlot_26 : decode cX11_freeSlot 26 = .ok (.if_icmp .eq 15, 3) := by decide +kernel
theorem dX11_freeSlot_29 : decode cX11_freeSlot 29 = .ok (.iload_n 1, 1) := by decide +kernel
theorem dX11_freeSlot_30 : decode cX11_freeSlot 30 = .ok (.aload_n 0, 1) := by decide +kernel
theorem dX11_freeSlot_31 : decode cX11_freeSlot 31 = .ok (.getfield 19, 3) := by decide +kernel
theorem dX11_freeSlot_34 : decode cX11_freeSlot 34 = .ok (.iconst 1, 1) := by decide +kernel
theorem dX11_freeSlot_35 : decode cX11_freeSlot 35 = .ok (.iaload, 1) := by decide +kernel
theorem dX11_freeSlot_36 : decode cX11_freeSlot 36 = .ok (.if_icmp .eq 5, 3) := by decide +kernel
theorem dX11_freeSlot_39 : decode cX11_freeSlot 39 = .ok (.iload_n 1, 1) := by decide +kernel
theorem dX11_freeSlot_40 : decode cX11_freeSlot 40 = .ok (.ireturn, 1) := by decide +kernel
theorem dX11_freeSlot_41 : decode cX11_freeSlot 41 = .ok (.iinc 1 1, 3) := by decide +kernel
theorem dX11_freeSlot_44 : decode cX11_freeSlot 44 = .ok (.goto (-42), 3) := by decide +kernel
theorem dX11_freeSlot_47 : decode cX11_freeSlot 47 = .ok (.iconst 0, 1) := by decide +kernel
theorem dX11_freeSlot_48 : decode cX11_freeSlot 48 = .ok (.ireturn, 1) := by decide +kernel
theorem dX11_basisHere_0 : decode cX11_basisHere 0 = .ok (.aload_n 0, 1) := by decide +kernel
theorem dX11_basisHere_1 : decode cX11_basisHere 1 = .ok (.getfield 15, 3) := by decide +kernel
theorem dX11_basisHere_4 : decode cX11_basisHere 4 = .ok (.aload_n 0, 1) := by decide +kernel
theorem dX11_basisHere_5 : decode cX11_basisHere 5 = .ok (.getfield 139, 3) := by decide +kernel
theorem dX11_basisHere_8 : decode cX11_basisHere 8 = .ok (.aaload, 1) := by decide +kernel
theorem dX11_basisHere_9 : decode cX11_basisHere 9 = .ok (.areturn, 1) := by decide +kernel
theorem dX11_worldHere_0 : decode cX11_worldHere 0 = .ok (.aload_n 0, 1) := by decide +kernel
theorem dX11_worldHere_1 : decode cX11_worldHere 1 = .ok (.getfield 15, 3) := by decide +kernel
theorem dX11_worldHere_4 : decode cX11_worldHere 4 = .ok (.aload_n 0, 1) := by decide +kernel
theorem dX11_worldHere_5 : decode cX11_worldHere 5 = .ok (.getfield 139, 3) := by decide +kernel
theorem dX11_worldHere_8 : decode cX11_worldHere 8 = .ok (.aaload, 1) := by decide +kernel
theorem dX11_worldHere_9 : decode cX11_worldHere 9 = .ok (.getfield 125, 3) := by decide +kernel
theorem dX11_worldHere_12 : decode cX11_worldHere 12 = .ok (.areturn, 1) := by decide +kernel
theorem dX11_basisKept_0 : decode cX11_basisKept 0 = .ok (.iload_n 1, 1) := by decide +kernel
theorem dX11_basisKept_1 : decode cX11_basisKept 1 = .ok (.ifCond .lt 8, 3) := by decide +kernel
theorem dX11_basisKept_4 : decode cX11_basisKept 4 = .ok (.iload_n 1, 1) := by decide +kernel
theorem dX11_basisKept_5 : decode cX11_basisKept 5 = .ok (.iconst 2, 1) := by decide +kernel
theorem dX11_basisKept_6 : decode cX11_basisKept 6 = .ok (.if_icmp .lt 5, 3) := by decide +kernel
theorem dX11_basisKept_9 : decode cX11_basisKept 9 = .ok (.aconst_null, 1) := by decide +kernel
theorem dX11_basisKept_10 : decode cX11_basisKept 10 = .ok (.areturn, 1) := by decide +kernel
theorem dX11_basisKept_11 : decode cX11_basisKept 11 = .ok (.aload_n 0, 1) := by decide +kernel
theorem dX11_basisKept_12 : decode cX11_basisKept 12 = .ok (.getfield 19, 3) := by decide +kernel
theorem dX11_basisKept_15 : decode cX11_basisKept 15 = .ok (.iload_n 1, 1) := by decide +kernel
theorem dX11_basisKept_16 : decode cX11_basisKept 16 = .ok (.iaload, 1) := by decide +kernel
theorem dX11_basisKept_17 : decode cX11_basisKept 17 = .ok (.istore_n 2, 1) := by decide +kernel
theorem dX11_basisKept_18 : decode cX11_basisKept 18 = .ok (.iload_n 2, 1) := by decide +kernel
theorem dX11_basisKept_19 : decode cX11_basisKept 19 = .ok (.ifCond .lt 12, 3) := by decide +kernel
theorem dX11_basisKept_22 : decode cX11_basisKept 22 = .ok (.iload_n 2, 1) := by decide +kernel
theorem dX11_basisKept_23 : decode cX11_basisKept 23 = .ok (.aload_n 0, 1) := by decide +kernel
theorem dX11_basisKept_24 : decode cX11_basisKept 24 = .ok (.getfield 15, 3) := by decide +kernel
theorem dX11_basisKept_27 : decode cX11_basisKept 27 = .ok (.arraylength, 1) := by decide +kernel
theorem dX11_basisKept_28 : decode cX11_basisKept 28 = .ok (.if_icmp .lt 7, 3) := by decide +kernel
theorem dX11_basisKept_31 : decode cX11_basisKept 31 = .ok (.aconst_null, 1) := by decide +kernel
theorem dX11_basisKept_32 : decode cX11_basisKept 32 = .ok (.goto 9, 3) := by decide +kernel
theorem dX11_basisKept_35 : decode cX11_basisKept 35 = .ok (.aload_n 0, 1) := by decide +kernel
theorem dX11_basisKept_36 : decode cX11_basisKept 36 = .ok (.getfield 15, 3) := by decide +kernel
theorem dX11_basisKept_39 : decode cX11_basisKept 39 = .ok (.iload_n 2, 1) := by decide +kernel
theorem dX11_basisKept_40 : decode cX11_basisKept 40 = .ok (.aaload, 1) := by decide +kernel
theorem dX11_basisKept_41 : decode cX11_basisKept 41 = .ok (.areturn, 1) := by decide +kernel
theorem dX11_fault_0 : decode cX11_fault 0 = .ok (.aload_n 0, 1) := by decide +kernel
theorem dX11_fault_1 : decode cX11_fault 1 = .ok (.getfield 61, 3) := by decide +kernel
theorem dX11_fault_4 : decode cX11_fault 4 = .ok (.getfield 149, 3) := by decide +kernel
theorem dX11_fault_7 : decode cX11_fault 7 = .ok (.ireturn, 1) := by decide +kernel
theorem dX11_act_0 : decode cX11_act 0 = .ok (.aload_n 0, 1) := by decide +kernel
theorem dX11_act_1 : decode cX11_act 1 = .ok (.invokevirtual 152, 3) := by decide +kernel
theorem dX11_act_4 : decode cX11_act 4 = .ok (.astore_n 2, 1) := by decide +kernel
theorem dX11_act_5 : decode cX11_act 5 = .ok (.aload_n 2, 1) := by decide +kernel
theorem dX11_act_6 : decode cX11_act 6 = .ok (.iload_n 1, 1) := by decide +kernel
theorem dX11_act_7 : decode cX11_act 7 = .ok (.invokevirtual 156, 3) := by decide +kernel
theorem dX11_act_10 : decode cX11_act 10 = .ok (.ifCond .eq 12, 3) := by decide +kernel
theorem dX11_act_13 : decode cX11_act 13 = .ok (.aload_n 2, 1) := by decide +kernel
theorem dX11_act_14 : decode cX11_act 14 = .ok (.getfield 160, 3) := by decide +kernel
theorem dX11_act_17 : decode cX11_act 17 = .ok (.iload_n 1, 1) := by decide +kernel
theorem dX11_act_18 : decode cX11_act 18 = .ok (.iaload, 1) := by decide +kernel
theorem dX11_act_19 : decode cX11_act 19 = .ok (.goto 4, 3) := by decide +kernel
theorem dX11_act_22 : decode cX11_act 22 = .ok (.iconst (-1), 1) := by decide +kernel
theorem dX11_act_23 : decode cX11_act 23 = .ok (.ireturn, 1) := by decide +kernel
theorem dX11_law_0 : decode cX11_law 0 = .ok (.aload_n 0, 1) := by decide +kernel
theorem dX11_law_1 : decode cX11_law 1 = .ok (.invokevirtual 152, 3) := by decide +kernel
theorem dX11_law_4 : decode cX11_law 4 = .ok (.astore_n 3, 1) := by decide +kernel
theorem dX11_law_5 : decode cX11_law 5 = .ok (.aload_n 3, 1) := by decide +kernel
theorem dX11_law_6 : decode cX11_law 6 = .ok (.iload_n 1, 1) := by decide +kernel
theorem dX11_law_7 : decode cX11_law 7 = .ok (.invokevirtual 163, 3) := by decide +kernel
theorem dX11_law_10 : decode cX11_law 10 = .ok (.ifCond .ne 5, 3) := by decide +kernel
theorem dX11_law_13 : decode cX11_law 13 = .ok (.iconst (-1), 1) := by decide +kernel
theorem dX11_law_14 : decode cX11_law 14 = .ok (.ireturn, 1) := by decide +kernel
theorem dX11_law_15 : decode cX11_law 15 = .ok (.iload_n 2, 1) := by decide +kernel
theorem dX11_law_16 : decode cX11_law 16 = .ok (.ifCond .ne 10, 3) := by decide +kernel
theorem dX11_law_19 : decode cX11_law 19 = .ok (.aload_n 3, 1) := by decide +kernel
theorem dX11_law_20 : decode cX11_law 20 = .ok (.getfield 166, 3) := by decide +kernel
theorem dX11_law_23 : decode cX11_law 23 = .ok (.iload_n 1, 1) := by decide +kernel
theorem dX11_law_24 : decode cX11_law 24 = .ok (.iaload, 1) := by decide +kernel
theorem dX11_law_25 : decode cX11_law 25 = .ok (.ireturn, 1) := by decide +kernel
theorem dX11_law_26 : decode cX11_law 26 = .ok (.iload_n 2, 1) := by decide +kernel
theorem dX11_law_27 : decode cX11_law 27 = .ok (.iconst 1, 1) := by decide +kernel
theorem dX11_law_28 : decode cX11_law 28 = .ok (.if_icmp .ne 21, 3) := by decide +kernel
theorem dX11_law_31 : decode cX11_law 31 = .ok (.aload_n 3, 1) := by decide +kernel
theorem dX11_law_32 : decode cX11_law 32 = .ok (.getfield 169, 3) := by decide +kernel
theorem dX11_law_35 : decode cX11_law 35 = .ok (.iload_n 1, 1) := by decide +kernel
theorem dX11_law_36 : decode cX11_law 36 = .ok (.iconst 1, 1) := by decide +kernel
theorem dX11_law_37 : decode cX11_law 37 = .ok (.iadd, 1) := by decide +kernel
theorem dX11_law_38 : decode cX11_law 38 = .ok (.iaload, 1) := by decide +kernel
theorem dX11_law_39 : decode cX11_law 39 = .ok (.aload_n 3, 1) := by decide +kernel
theorem dX11_law_40 : decode cX11_law 40 = .ok (.getfield 169, 3) := by decide +kernel
theorem dX11_law_43 : decode cX11_law 43 = .ok (.iload_n 1, 1) := by decide +kernel
theorem dX11_law_44 : decode cX11_law 44 = .ok (.iaload, 1) := by decide +kernel
theorem dX11_law_45 : decode cX11_law 45 = .ok (.isub, 1) := by decide +kernel
theorem dX11_law_46 : decode cX11_law 46 = .ok (.goto 4, 3) := by decide +kernel
theorem dX11_law_49 : decode cX11_law 49 = .ok (.iconst (-1), 1) := by decide +kernel
theorem dX11_law_50 : decode cX11_law 50 = .ok (.ireturn, 1) := by decide +kernel
theorem dX11_take_0 : decode cX11_take 0 = .ok (.aload_n 0, 1) := by decide +kernel
theorem dX11_take_1 : decode cX11_take 1 = .ok (.invokevirtual 152, 3) := by decide +kernel
theorem dX11_take_4 : decode cX11_take 4 = .ok (.astore_n 2, 1) := by decide +kernel
theorem dX11_take_5 : decode cX11_take 5 = .ok (.aload_n 2, 1) := by decide +kernel
theorem dX11_take_6 : decode cX11_take 6 = .ok (.iload_n 1, 1) := by decide +kernel
theorem dX11_take_7 : decode cX11_take 7 = .ok (.invokevirtual 163, 3) := by decide +kernel
theorem dX11_take_10 : decode cX11_take 10 = .ok (.ifCond .ne 5, 3) := by decide +kernel
theorem dX11_take_13 : decode cX11_take 13 = .ok (.iconst (-1), 1) := by decide +kernel
theorem dX11_take_14 : decode cX11_take 14 = .ok (.ireturn, 1) := by decide +kernel
theorem dX11_take_15 : decode cX11_take 15 = .ok (.aload_n 0, 1) := by decide +kernel
theorem dX11_take_16 : decode cX11_take 16 = .ok (.getfield 48, 3) := by decide +kernel
theorem dX11_take_19 : decode cX11_take 19 = .ok (.aload_n 2, 1) := by decide +kernel
theorem dX11_take_20 : decode cX11_take 20 = .ok (.getfield 166, 3) := by decide +kernel
theorem dX11_take_23 : decode cX11_take 23 = .ok (.iload_n 1, 1) := by decide +kernel
theorem dX11_take_24 : decode cX11_take 24 = .ok (.iaload, 1) := by decide +kernel
theorem dX11_take_25 : decode cX11_take 25 = .ok (.invokevirtual 145, 3) := by decide +kernel
theorem dX11_take_28 : decode cX11_take 28 = .ok (.aload_n 2, 1) := by decide +kernel
theorem dX11_take_29 : decode cX11_take 29 = .ok (.aload_n 0, 1) := by decide +kernel
theorem dX11_take_30 : decode cX11_take 30 = .ok (.getfield 48, 3) := by decide +kernel
theorem dX11_take_33 : decode cX11_take 33 = .ok (.iload_n 1, 1) := by decide +kernel
theorem dX11_take_34 : decode cX11_take 34 = .ok (.iconst 1, 1) := by decide +kernel
theorem dX11_take_35 : decode cX11_take 35 = .ok (.invokevirtual 172, 3) := by decide +kernel
theorem dX11_take_38 : decode cX11_take 38 = .ok (.aload_n 0, 1) := by decide +kernel
theorem dX11_take_39 : decode cX11_take 39 = .ok (.invokevirtual 176, 3) := by decide +kernel
theorem dX11_take_42 : decode cX11_take 42 = .ok (.ireturn, 1) := by decide +kernel
theorem dX11_keepMade_0 : decode cX11_keepMade 0 = .ok (.aload_n 0, 1) := by decide +kernel
theorem dX11_keepMade_1 : decode cX11_keepMade 1 = .ok (.getfield 45, 3) := by decide +kernel
theorem dX11_keepMade_4 : decode cX11_keepMade 4 = .ok (.aload_n 0, 1) := by decide +kernel
theorem dX11_keepMade_5 : decode cX11_keepMade 5 = .ok (.getfield 179, 3) := by decide +kernel
theorem dX11_keepMade_8 : decode cX11_keepMade 8 = .ok (.aaload, 1) := by decide +kernel
theorem dX11_keepMade_9 : decode cX11_keepMade 9 = .ok (.aload_n 0, 1) := by decide +kernel
theorem dX11_keepMade_10 : decode cX11_keepMade 10 = .ok (.getfield 37, 3) := by decide +kernel
theorem dX11_keepMade_13 : decode cX11_keepMade 13 = .ok (.invokevirtual 182, 3) := by decide +kernel
theorem dX11_keepMade_16 : decode cX11_keepMade 16 = .ok (.aload_n 0, 1) := by decide +kernel
theorem dX11_keepMade_17 : decode cX11_keepMade 17 = .ok (.aload_n 0, 1) := by decide +kernel
theorem dX11_keepMade_18 : decode cX11_keepMade 18 = .ok (.getfield 179, 3) := by decide +kernel
theorem dX11_keepMade_21 : decode cX11_keepMade 21 = .ok (.iconst 1, 1) := by decide +kernel
theorem dX11_keepMade_22 : decode cX11_keepMade 22 = .ok (.iadd, 1) := by decide +kernel
theorem dX11_keepMade_23 : decode cX11_keepMade 23 = .ok (.bipush 8, 2) := by decide +kernel
theorem dX11_keepMade_25 : decode cX11_keepMade 25 = .ok (.irem, 1) := by decide +kernel
theorem dX11_keepMade_26 : decode cX11_keepMade 26 = .ok (.putfield 179, 3) := by decide +kernel
theorem dX11_keepMade_29 : decode cX11_keepMade 29 = .ok (.aload_n 0, 1) := by decide +kernel
theorem dX11_keepMade_30 : decode cX11_keepMade 30 = .ok (.bipush 8, 2) := by decide +kernel
theorem dX11_keepMade_32 : decode cX11_keepMade 32 = .ok (.aload_n 0, 1) := by decide +kernel
theorem dX11_keepMade_33 : decode cX11_keepMade 33 = .ok (.getfield 146, 3) := by decide +kernel
theorem dX11_keepMade_36 : decode cX11_keepMade 36 = .ok (.iconst 1, 1) := by decide +kernel
theorem dX11_keepMade_37 : decode cX11_keepMade 37 = .ok (.iadd, 1) := by decide +kernel
theorem dX11_keepMade_38 : decode cX11_keepMade 38 = .ok (.invokestatic 186, 3) := by decide +kernel
theorem dX11_keepMade_41 : decode cX11_keepMade 41 = .ok (.putfield 146, 3) := by decide +kernel
theorem dX11_keepMade_44 : decode cX11_keepMade 44 = .ok (.aload_n 0, 1) := by decide +kernel
theorem dX11_keepMade_45 : decode cX11_keepMade 45 = .ok (.getfield 37, 3) := by decide +kernel
theorem dX11_keepMade_48 : decode cX11_keepMade 48 = .ok (.aload_n 0, 1) := by decide +kernel
theorem dX11_keepMade_49 : decode cX11_keepMade 49 = .ok (.getfield 48, 3) := by decide +kernel
theorem dX11_keepMade_52 : decode cX11_keepMade 52 = .ok (.invokevirtual 182, 3) := by decide +kernel
theorem dX11_keepMade_55 : decode cX11_keepMade 55 = .ok (.aload_n 0, 1) := by decide +kernel
theorem dX11_keepMade_56 : decode cX11_keepMade 56 = .ok (.getfield 37, 3) := by decide +kernel
theorem dX11_keepMade_59 : decode cX11_keepMade 59 = .ok (.getfield 192, 3) := by decide +kernel
theorem dX11_keepMade_62 : decode cX11_keepMade 62 = .ok (.ireturn, 1) := by decide +kernel
theorem dX11_trees_0 : decode cX11_trees 0 = .ok (.iload_n 1, 1) := by decide +kernel
theorem dX11_trees_1 : decode cX11_trees 1 = .ok (.iconst 1, 1) := by decide +kernel
theorem dX11_trees_2 : decode cX11_trees 2 = .ok (.if_icmp .lt 9, 3) := by decide +kernel
theorem dX11_trees_5 : decode cX11_trees 5 = .ok (.iload_n 1, 1) := by decide +kernel
theorem dX11_trees_6 : decode cX11_trees 6 = .ok (.bipush 10, 2) := by decide +kernel
theorem dX11_trees_8 : decode cX11_trees 8 = .ok (.if_icmp .le 9, 3) := by decide +kernel
theorem dX11_trees_11 : decode cX11_trees 11 = .ok (.ldc2_w 195, 3) := by decide +kernel
theorem dX11_trees_14 : decode cX11_trees 14 = .ok (.goto 12, 3) := by decide +kernel
theorem dX11_trees_17 : decode cX11_trees 17 = .ok (.aload_n 0, 1) := by decide +kernel
theorem dX11_trees_18 : decode cX11_trees 18 = .ok (.invokevirtual 152, 3) := by decide +kernel
theorem dX11_trees_21 : decode cX11_trees 21 = .ok (.getfield 197, 3) := by decide +kernel
theorem dX11_trees_24 : decode cX11_trees 24 = .ok (.iload_n 1, 1) := by decide +kernel
theorem dX11_trees_25 : decode cX11_trees 25 = .ok (.laload, 1) := by decide +kernel
theorem dX11_trees_26 : decode cX11_trees 26 = .ok (.lreturn, 1) := by decide +kernel
theorem dX11_sum_0 : decode cX11_sum 0 = .ok (.aload_n 0, 1) := by decide +kernel
theorem dX11_sum_1 : decode cX11_sum 1 = .ok (.invokevirtual 201, 3) := by decide +kernel
theorem dX11_sum_4 : decode cX11_sum 4 = .ok (.ifCond .ne 13, 3) := by decide +kernel
theorem dX11_sum_7 : decode cX11_sum 7 = .ok (.iconst (-1), 1) := by decide +kernel
theorem dX11_sum_8 : decode cX11_sum 8 = .ok (.aload_n 0, 1) := by decide +kernel
theorem dX11_sum_9 : decode cX11_sum 9 = .ok (.getfield 61, 3) := by decide +kernel
theorem dX11_sum_12 : decode cX11_sum 12 = .ok (.getfield 133, 3) := by decide +kernel
theorem dX11_sum_15 : decode cX11_sum 15 = .ok (.isub, 1) := by decide +kernel
theorem dX11_sum_16 : decode cX11_sum 16 = .ok (.ireturn, 1) := by decide +kernel
theorem dX11_sum_17 : decode cX11_sum 17 = .ok (.aload_n 0, 1) := by decide +kernel
theorem dX11_sum_18 : decode cX11_sum 18 = .ok (.getfield 48, 3) := by decide +kernel
theorem dX11_sum_21 : decode cX11_sum 21 = .ok (.aload_n 0, 1) := by decide +kernel
theorem dX11_sum_22 : decode cX11_sum 22 = .ok (.getfield 61, 3) := by decide +kernel
theorem dX11_sum_25 : decode cX11_sum 25 = .ok (.getfield 205, 3) := by decide +kernel
theorem dX11_sum_28 : decode cX11_sum 28 = .ok (.invokevirtual 182, 3) := by decide +kernel
theorem dX11_sum_31 : decode cX11_sum 31 = .ok (.aload_n 0, 1) := by decide +kernel
theorem dX11_sum_32 : decode cX11_sum 32 = .ok (.invokevirtual 176, 3) := by decide +kernel
theorem dX11_sum_35 : decode cX11_sum 35 = .ok (.ireturn, 1) := by decide +kernel
theorem dX11_readSumHere_0 : decode cX11_readSumHere 0 = .ok (.aload_n 0, 1) := by decide +kernel
theorem dX11_readSumHere_1 : decode cX11_readSumHere 1 = .ok (.getfield 61, 3) := by decide +kernel
theorem dX11_readSumHere_4 : decode cX11_readSumHere 4 = .ok (.aload_n 0, 1) := by decide +kernel
theorem dX11_readSumHere_5 : decode cX11_readSumHere 5 = .ok (.getfield 9, 3) := by decide +kernel
theorem dX11_readSumHere_8 : decode cX11_readSumHere 8 = .ok (.aload_n 0, 1) := by decide +kernel
theorem dX11_readSumHere_9 : decode cX11_readSumHere 9 = .ok (.invokevirtual 118, 3) := by decide +kernel
theorem dX11_readSumHere_12 : decode cX11_readSumHere 12 = .ok (.sipush 400, 3) := by decide +kernel
theorem dX11_readSumHere_15 : decode cX11_readSumHere 15 = .ok (.invokevirtual 121, 3) := by decide +kernel
theorem dX11_readSumHere_18 : decode cX11_readSumHere 18 = .ok (.aload_n 0, 1) := by decide +kernel
theorem dX11_readSumHere_19 : decode cX11_readSumHere 19 = .ok (.getfield 61, 3) := by decide +kernel
theorem dX11_readSumHere_22 : decode cX11_readSumHere 22 = .ok (.aload_n 0, 1) := by decide +kernel
theorem dX11_readSumHere_23 : decode cX11_readSumHere 23 = .ok (.invokevirtual 152, 3) := by decide +kernel
theorem dX11_readSumHere_26 : decode cX11_readSumHere 26 = .ok (.invokevirtual 208, 3) := by decide +kernel
theorem dX11_readSumHere_29 : decode cX11_readSumHere 29 = .ok (.ireturn, 1) := by decide +kernel
theorem dX11_leaves_0 : decode cX11_leaves 0 = .ok (.aload_n 0, 1) := by decide +kernel
theorem dX11_leaves_1 : decode cX11_leaves 1 = .ok (.getfield 37, 3) := by decide +kernel
theorem dX11_leaves_4 : decode cX11_leaves 4 = .ok (.getfield 212, 3) := by decide +kernel
theorem dX11_leaves_7 : decode cX11_leaves 7 = .ok (.ireturn, 1) := by decide +kernel
theorem dX11_term_0 : decode cX11_term 0 = .ok (.iload_n 1, 1) := by decide +kernel
theorem dX11_term_1 : decode cX11_term 1 = .ok (.ifCond .lt 14, 3) := by decide +kernel
theorem dX11_term_4 : decode cX11_term 4 = .ok (.iload_n 1, 1) := by decide +kernel
theorem dX11_term_5 : decode cX11_term 5 = .ok (.aload_n 0, 1) := by decide +kernel
theorem dX11_term_6 : decode cX11_term 6 = .ok (.getfield 37, 3) := by decide +kernel
theorem dX11_term_9 : decode cX11_term 9 = .ok (.getfield 192, 3) := by decide +kernel
theorem dX11_term_12 : decode cX11_term 12 = .ok (.if_icmp .lt 13, 3) := by decide +kernel
theorem dX11_term_15 : decode cX11_term 15 = .ok (.new 215, 3) := by decide +kernel
theorem dX11_term_18 : decode cX11_term 18 = .ok (.dup, 1) := by decide +kernel
theorem dX11_term_19 : decode cX11_term 19 = .ok (.ldc 217, 2) := by decide +kernel
theorem dX11_term_21 : decode cX11_term 21 = .ok (.invokespecial 219, 3) := by decide +kernel
theorem dX11_term_24 : decode cX11_term 24 = .ok (.athrow, 1) := by decide +kernel
theorem dX11_term_25 : decode cX11_term 25 = .ok (.aload_n 0, 1) := by decide +kernel
theorem dX11_term_26 : decode cX11_term 26 = .ok (.getfield 37, 3) := by decide +kernel
theorem dX11_term_29 : decode cX11_term 29 = .ok (.getfield 222, 3) := by decide +kernel
theorem dX11_term_32 : decode cX11_term 32 = .ok (.iload_n 1, 1) := by decide +kernel
theorem dX11_term_33 : decode cX11_term 33 = .ok (.iaload, 1) := by decide +kernel
theorem dX11_term_34 : decode cX11_term 34 = .ok (.ireturn, 1) := by decide +kernel
theorem dX11_termAt_0 : decode cX11_termAt 0 = .ok (.iload_n 1, 1) := by decide +kernel
theorem dX11_termAt_1 : decode cX11_termAt 1 = .ok (.ifCond .lt 14, 3) := by decide +kernel
theorem dX11_termAt_4 : decode cX11_termAt 4 = .ok (.iload_n 1, 1) := by decide +kernel
theorem dX11_termAt_5 : decode cX11_termAt 5 = .ok (.aload_n 0, 1) := by decide +kernel
theorem dX11_termAt_6 : decode cX11_termAt 6 = .ok (.getfield 37, 3) := by decide +kernel
theorem dX11_termAt_9 : decode cX11_termAt 9 = .ok (.getfield 192, 3) := by decide +kernel
theorem dX11_termAt_12 : decode cX11_termAt 12 = .ok (.if_icmp .lt 5, 3) := by decide +kernel
theorem dX11_termAt_15 : decode cX11_termAt 15 = .ok (.iconst (-1), 1) := by decide +kernel
theorem dX11_termAt_16 : decode cX11_termAt 16 = .ok (.ireturn, 1) := by decide +kernel
theorem dX11_termAt_17 : decode cX11_termAt 17 = .ok (.aload_n 0, 1) := by decide +kernel
theorem dX11_termAt_18 : decode cX11_termAt 18 = .ok (.getfield 68, 3) := by decide +kernel
theorem dX11_termAt_21 : decode cX11_termAt 21 = .ok (.aload_n 0, 1) := by decide +kernel
theorem dX11_termAt_22 : decode cX11_termAt 22 = .ok (.invokevirtual 152, 3) := by decide +kernel
theorem dX11_termAt_25 : decode cX11_termAt 25 = .ok (.aload_n 0, 1) := by decide +kernel
theorem dX11_termAt_26 : decode cX11_termAt 26 = .ok (.getfield 37, 3) := by decide +kernel
theorem dX11_termAt_29 : decode cX11_termAt 29 = .ok (.getfield 225, 3) := by decide +kernel
theorem dX11_termAt_32 : decode cX11_termAt 32 = .ok (.iload_n 1, 1) := by decide +kernel
theorem dX11_termAt_33 : decode cX11_termAt 33 = .ok (.iaload, 1) := by decide +kernel
theorem dX11_termAt_34 : decode cX11_termAt 34 = .ok (.aload_n 0, 1) := by decide +kernel
theorem dX11_termAt_35 : decode cX11_termAt 35 = .ok (.getfield 37, 3) := by decide +kernel
theorem dX11_termAt_38 : decode cX11_termAt 38 = .ok (.getfield 212, 3) := by decide +kernel
theorem dX11_termAt_41 : decode cX11_termAt 41 = .ok (.iload_n 2, 1) := by decide +kernel
theorem dX11_termAt_42 : decode cX11_termAt 42 = .ok (.invokevirtual 228, 3) := by decide +kernel
theorem dX11_termAt_45 : decode cX11_termAt 45 = .ok (.ireturn, 1) := by decide +kernel
theorem dX11_reduce_0 : decode cX11_reduce 0 = .ok (.aload_n 0, 1) := by decide +kernel
theorem dX11_reduce_1 : decode cX11_reduce 1 = .ok (.invokevirtual 232, 3) := by decide +kernel
theorem dX11_reduce_4 : decode cX11_reduce 4 = .ok (.astore_n 1, 1) := by decide +kernel
theorem dX11_reduce_5 : decode cX11_reduce 5 = .ok (.aload_n 1, 1) := by decide +kernel
theorem dX11_reduce_6 : decode cX11_reduce 6 = .ok (.aload_n 0, 1) := by decide +kernel
theorem dX11_reduce_7 : decode cX11_reduce 7 = .ok (.getfield 37, 3) := by decide +kernel
theorem dX11_reduce_10 : decode cX11_reduce 10 = .ok (.getfield 212, 3) := by decide +kernel
theorem dX11_reduce_13 : decode cX11_reduce 13 = .ok (.invokevirtual 236, 3) := by decide +kernel
theorem dX11_reduce_16 : decode cX11_reduce 16 = .ok (.ifCond .ne 5, 3) := by decide +kernel
theorem dX11_reduce_19 : decode cX11_reduce 19 = .ok (.iconst (-1), 1) := by decide +kernel
theorem dX11_reduce_20 : decode cX11_reduce 20 = .ok (.ireturn, 1) := by decide +kernel
theorem dX11_reduce_21 : decode cX11_reduce 21 = .ok (.aload_n 0, 1) := by decide +kernel
theorem dX11_reduce_22 : decode cX11_reduce 22 = .ok (.getfield 48, 3) := by decide +kernel
theorem dX11_reduce_25 : decode cX11_reduce 25 = .ok (.aload_n 0, 1) := by decide +kernel
theorem dX11_reduce_26 : decode cX11_reduce 26 = .ok (.getfield 37, 3) := by decide +kernel
theorem dX11_reduce_29 : decode cX11_reduce 29 = .ok (.invokevirtual 182, 3) := by decide +kernel
theorem dX11_reduce_32 : decode cX11_reduce 32 = .ok (.aload_n 1, 1) := by decide +kernel
theorem dX11_reduce_33 : decode cX11_reduce 33 = .ok (.aload_n 0, 1) := by decide +kernel
theorem dX11_reduce_34 : decode cX11_reduce 34 = .ok (.getfield 48, 3) := by decide +kernel
theorem dX11_reduce_37 : decode cX11_reduce 37 = .ok (.invokevirtual 239, 3) := by decide +kernel
theorem dX11_reduce_40 : decode cX11_reduce 40 = .ok (.aload_n 0, 1) := by decide +kernel
theorem dX11_reduce_41 : decode cX11_reduce 41 = .ok (.invokevirtual 176, 3) := by decide +kernel
theorem dX11_reduce_44 : decode cX11_reduce 44 = .ok (.ireturn, 1) := by decide +kernel
theorem dX11_size_0 : decode cX11_size 0 = .ok (.aload_n 0, 1) := by decide +kernel
theorem dX11_size_1 : decode cX11_size 1 = .ok (.invokevirtual 232, 3) := by decide +kernel
theorem dX11_size_4 : decode cX11_size 4 = .ok (.astore_n 2, 1) := by decide +kernel
theorem dX11_size_5 : decode cX11_size 5 = .ok (.aload_n 2, 1) := by decide +kernel
theorem dX11_size_6 : decode cX11_size 6 = .ok (.iload_n 1, 1) := by decide +kernel
theorem dX11_size_7 : decode cX11_size 7 = .ok (.invokevirtual 236, 3) := by decide +kernel
theorem dX11_size_10 : decode cX11_size 10 = .ok (.ifCond .eq 12, 3) := by decide +kernel
theorem dX11_size_13 : decode cX11_size 13 = .ok (.aload_n 2, 1) := by decide +kernel
theorem dX11_size_14 : decode cX11_size 14 = .ok (.getfield 242, 3) := by decide +kernel
theorem dX11_size_17 : decode cX11_size 17 = .ok (.iload_n 1, 1) := by decide +kernel
theorem dX11_size_18 : decode cX11_size 18 = .ok (.iaload, 1) := by decide +kernel
theorem dX11_size_19 : decode cX11_size 19 = .ok (.goto 4, 3) := by decide +kernel
theorem dX11_size_22 : decode cX11_size 22 = .ok (.iconst (-1), 1) := by decide +kernel
theorem dX11_size_23 : decode cX11_size 23 = .ok (.ireturn, 1) := by decide +kernel
theorem dX11_normalAt_0 : decode cX11_normalAt 0 = .ok (.aload_n 0, 1) := by decide +kernel
theorem dX11_normalAt_1 : decode cX11_normalAt 1 = .ok (.invokevirtual 232, 3) := by decide +kernel
theorem dX11_normalAt_4 : decode cX11_normalAt 4 = .ok (.astore 4, 2) := by decide +kernel
theorem dX11_normalAt_6 : decode cX11_normalAt 6 = .ok (.aload 4, 2) := by decide +kernel
theorem dX11_normalAt_8 : decode cX11_normalAt 8 = .ok (.iload_n 1, 1) := by decide +kernel
theorem dX11_normalAt_9 : decode cX11_normalAt 9 = .ok (.invokevirtual 236, 3) := by decide +kernel
theorem dX11_normalAt_12 : decode cX11_normalAt 12 = .ok (.ifCond .ne 5, 3) := by decide +kernel
theorem dX11_normalAt_15 : decode cX11_normalAt 15 = .ok (.iconst (-1), 1) := by decide +kernel
theorem dX11_normalAt_16 : decode cX11_normalAt 16 = .ok (.ireturn, 1) := by decide +kernel
theorem dX11_normalAt_17 : decode cX11_normalAt 17 = .ok (.aload 4, 2) := by decide +kernel
theorem dX11_normalAt_19 : decode cX11_normalAt 19 = .ok (.iload_n 1, 1) := by decide +kernel
theorem dX11_normalAt_20 : decode cX11_normalAt 20 = .ok (.iload_n 2, 1) := by decide +kernel
theorem dX11_normalAt_21 : decode cX11_normalAt 21 = .ok (.invokevirtual 245, 3) := by decide +kernel
theorem dX11_normalAt_24 : decode cX11_normalAt 24 = .ok (.istore 5, 2) := by decide +kernel
theorem dX11_normalAt_26 : decode cX11_normalAt 26 = .ok (.iload 5, 2) := by decide +kernel
theorem dX11_normalAt_28 : decode cX11_normalAt 28 = .ok (.ifCond .ge 7, 3) := by decide +kernel
theorem dX11_normalAt_31 : decode cX11_normalAt 31 = .ok (.iconst (-1), 1) := by decide +kernel
theorem dX11_normalAt_32 : decode cX11_normalAt 32 = .ok (.goto 25, 3) := by decide +kernel
theorem dX11_normalAt_35 : decode cX11_normalAt 35 = .ok (.aload_n 0, 1) := by decide +kernel
theorem dX11_normalAt_36 : decode cX11_normalAt 36 = .ok (.getfield 68, 3) := by decide +kernel
theorem dX11_normalAt_39 : decode cX11_normalAt 39 = .ok (.aload 4, 2) := by decide +kernel
theorem dX11_normalAt_41 : decode cX11_normalAt 41 = .ok (.getfield 125, 3) := by decide +kernel
theorem dX11_normalAt_44 : decode cX11_normalAt 44 = .ok (.aload 4, 2) := by decide +kernel
theorem dX11_normalAt_46 : decode cX11_normalAt 46 = .ok (.iload_n 1, 1) := by decide +kernel
theorem dX11_normalAt_47 : decode cX11_normalAt 47 = .ok (.iload 5, 2) := by decide +kernel
theorem dX11_normalAt_49 : decode cX11_normalAt 49 = .ok (.invokevirtual 248, 3) := by decide +kernel
theorem dX11_normalAt_52 : decode cX11_normalAt 52 = .ok (.iload_n 1, 1) := by decide +kernel
theorem dX11_normalAt_53 : decode cX11_normalAt 53 = .ok (.iload_n 3, 1) := by decide +kernel
theorem dX11_normalAt_54 : decode cX11_normalAt 54 = .ok (.invokevirtual 228, 3) := by decide +kernel
theorem dX11_normalAt_57 : decode cX11_normalAt 57 = .ok (.ireturn, 1) := by decide +kernel
theorem dX11_bare_0 : decode cX11_bare 0 = .ok (.aload_n 0, 1) := by decide +kernel
theorem dX11_bare_1 : decode cX11_bare 1 = .ok (.invokevirtual 232, 3) := by decide +kernel
theorem dX11_bare_4 : decode cX11_bare 4 = .ok (.astore_n 2, 1) := by decide +kernel
theorem dX11_bare_5 : decode cX11_bare 5 = .ok (.aload_n 2, 1) := by decide +kernel
theorem dX11_bare_6 : decode cX11_bare 6 = .ok (.iload_n 1, 1) := by decide +kernel
theorem dX11_bare_7 : decode cX11_bare 7 = .ok (.invokevirtual 236, 3) := by decide +kernel
theorem dX11_bare_10 : decode cX11_bare 10 = .ok (.ifCond .eq 11, 3) := by decide +kernel
theorem dX11_bare_13 : decode cX11_bare 13 = .ok (.aload_n 2, 1) := by decide +kernel
theorem dX11_bare_14 : decode cX11_bare 14 = .ok (.iload_n 1, 1) := by decide +kernel
theorem dX11_bare_15 : decode cX11_bare 15 = .ok (.invokevirtual 251, 3) := by decide +kernel
theorem dX11_bare_18 : decode cX11_bare 18 = .ok (.goto 4, 3) := by decide +kernel
theorem dX11_bare_21 : decode cX11_bare 21 = .ok (.iconst (-1), 1) := by decide +kernel
theorem dX11_bare_22 : decode cX11_bare 22 = .ok (.ireturn, 1) := by decide +kernel
theorem dX11_closed_0 : decode cX11_closed 0 = .ok (.iload_n 1, 1) := by decide +kernel
theorem dX11_closed_1 : decode cX11_closed 1 = .ok (.iconst 1, 1) := by decide +kernel
theorem dX11_closed_2 : decode cX11_closed 2 = .ok (.if_icmp .lt 9, 3) := by decide +kernel
theorem dX11_closed_5 : decode cX11_closed 5 = .ok (.iload_n 1, 1) := by decide +kernel
theorem dX11_closed_6 : decode cX11_closed 6 = .ok (.bipush 7, 2) := by decide +kernel
theorem dX11_closed_8 : decode cX11_closed 8 = .ok (.if_icmp .le 6, 3) := by decide +kernel
theorem dX11_closed_11 : decode cX11_closed 11 = .ok (.bipush (-2), 2) := by decide +kernel
theorem dX11_closed_13 : decode cX11_closed 13 = .ok (.ireturn, 1) := by decide +kernel
theorem dX11_closed_14 : decode cX11_closed 14 = .ok (.aload_n 0, 1) := by decide +kernel
theorem dX11_closed_15 : decode cX11_closed 15 = .ok (.invokevirtual 232, 3) := by decide +kernel
theorem dX11_closed_18 : decode cX11_closed 18 = .ok (.astore_n 2, 1) := by decide +kernel
theorem dX11_closed_19 : decode cX11_closed 19 = .ok (.iconst 1, 1) := by decide +kernel
theorem dX11_closed_20 : decode cX11_closed 20 = .ok (.istore_n 3, 1) := by decide +kernel
theorem dX11_closed_21 : decode cX11_closed 21 = .ok (.iload_n 3, 1) := by decide +kernel
theorem dX11_closed_22 : decode cX11_closed 22 = .ok (.iload_n 1, 1) := by decide +kernel
theorem dX11_closed_23 : decode cX11_closed 23 = .ok (.if_icmp .gt 36, 3) := by decide +kernel
theorem dX11_closed_26 : decode cX11_closed 26 = .ok (.aload_n 2, 1) := by decide +kernel
theorem dX11_closed_27 : decode cX11_closed 27 = .ok (.iload_n 3, 1) := by decide +kernel
theorem dX11_closed_28 : decode cX11_closed 28 = .ok (.invokevirtual 236, 3) := by decide +kernel
theorem dX11_closed_31 : decode cX11_closed 31 = .ok (.ifCond .ne 5, 3) := by decide +kernel
theorem dX11_closed_34 : decode cX11_closed 34 = .ok (.iconst (-1), 1) := by decide +kernel
theorem dX11_closed_35 : decode cX11_closed 35 = .ok (.ireturn, 1) := by decide +kernel
theorem dX11_closed_36 : decode cX11_closed 36 = .ok (.aload_n 2, 1) := by decide +kernel
theorem dX11_closed_37 : decode cX11_closed 37 = .ok (.iload_n 3, 1) := by decide +kernel
theorem dX11_closed_38 : decode cX11_closed 38 = .ok (.invokevirtual 251, 3) := by decide +kernel
theorem dX11_closed_41 : decode cX11_closed 41 = .ok (.pop, 1) := by decide +kernel
theorem dX11_closed_42 : decode cX11_closed 42 = .ok (.aload_n 2, 1) := by decide +kernel
theorem dX11_closed_43 : decode cX11_closed 43 = .ok (.getfield 255, 3) := by decide +kernel
theorem dX11_closed_46 : decode cX11_closed 46 = .ok (.iload_n 3, 1) := by decide +kernel
theorem dX11_closed_47 : decode cX11_closed 47 = .ok (.baload, 1) := by decide +kernel
theorem dX11_closed_48 : decode cX11_closed 48 = .ok (.ifCond .eq 5, 3) := by decide +kernel
theorem dX11_closed_51 : decode cX11_closed 51 = .ok (.iload_n 3, 1) := by decide +kernel
theorem dX11_closed_52 : decode cX11_closed 52 = .ok (.ireturn, 1) := by decide +kernel
theorem dX11_closed_53 : decode cX11_closed 53 = .ok (.iinc 3 1, 3) := by decide +kernel
theorem dX11_closed_56 : decode cX11_closed 56 = .ok (.goto (-35), 3) := by decide +kernel
theorem dX11_closed_59 : decode cX11_closed 59 = .ok (.iconst (-1), 1) := by decide +kernel
theorem dX11_closed_60 : decode cX11_closed 60 = .ok (.ireturn, 1) := by decide +kernel
theorem dX11_plug_0 : decode cX11_plug 0 = .ok (.aload_n 0, 1) := by decide +kernel
theorem dX11_plug_1 : decode cX11_plug 1 = .ok (.invokevirtual 201, 3) := by decide +kernel
theorem dX11_plug_4 : decode cX11_plug 4 = .ok (.ifCond .ne 13, 3) := by decide +kernel
theorem dX11_plug_7 : decode cX11_plug 7 = .ok (.iconst (-1), 1) := by decide +kernel
theorem dX11_plug_8 : decode cX11_plug 8 = .ok (.aload_n 0, 1) := by decide +kernel
theorem dX11_plug_9 : decode cX11_plug 9 = .ok (.getfield 61, 3) := by decide +kernel
theorem dX11_plug_12 : decode cX11_plug 12 = .ok (.getfield 133, 3) := by decide +kernel
theorem dX11_plug_15 : decode cX11_plug 15 = .ok (.isub, 1) := by decide +kernel
theorem dX11_plug_16 : decode cX11_plug 16 = .ok (.ireturn, 1) := by decide +kernel
theorem dX11_plug_17 : decode cX11_plug 17 = .ok (.iload_n 1, 1) := by decide +kernel
theorem dX11_plug_18 : decode cX11_plug 18 = .ok (.ifCond .lt 14, 3) := by decide +kernel
theorem dX11_plug_21 : decode cX11_plug 21 = .ok (.iload_n 1, 1) := by decide +kernel
theorem dX11_plug_22 : decode cX11_plug 22 = .ok (.aload_n 0, 1) := by decide +kernel
theorem dX11_plug_23 : decode cX11_plug 23 = .ok (.getfield 37, 3) := by decide +kernel
theorem dX11_plug_26 : decode cX11_plug 26 = .ok (.getfield 212, 3) := by decide +kernel
theorem dX11_plug_29 : decode cX11_plug 29 = .ok (.if_icmp .lt 7, 3) := by decide +kernel
theorem dX11_plug_32 : decode cX11_plug 32 = .ok (.sipush (-1000), 3) := by decide +kernel
theorem dX11_plug_35 : decode cX11_plug 35 = .ok (.ireturn, 1) := by decide +kernel
theorem dX11_plug_36 : decode cX11_plug 36 = .ok (.aload_n 0, 1) := by decide +kernel
theorem dX11_plug_37 : decode cX11_plug 37 = .ok (.getfield 61, 3) := by decide +kernel
theorem dX11_plug_40 : decode cX11_plug 40 = .ok (.getfield 205, 3) := by decide +kernel
theorem dX11_plug_43 : decode cX11_plug 43 = .ok (.astore_n 2, 1) := by decide +kernel
theorem dX11_plug_44 : decode cX11_plug 44 = .ok (.aload_n 0, 1) := by decide +kernel
theorem dX11_plug_45 : decode cX11_plug 45 = .ok (.getfield 37, 3) := by decide +kernel
theorem dX11_plug_48 : decode cX11_plug 48 = .ok (.getfield 212, 3) := by decide +kernel
theorem dX11_plug_51 : decode cX11_plug 51 = .ok (.aload_n 2, 1) := by decide +kernel
theorem dX11_plug_52 : decode cX11_plug 52 = .ok (.getfield 212, 3) := by decide +kernel
theorem dX11_plug_55 : decode cX11_plug 55 = .ok (.iadd, 1) := by decide +kernel
theorem dX11_plug_56 : decode cX11_plug 56 = .ok (.iconst 1, 1) := by decide +kernel
theorem dX11_plug_57 : decode cX11_plug 57 = .ok (.isub, 1) := by decide +kernel
theorem dX11_plug_58 : decode cX11_plug 58 = .ok (.bipush 7, 2) := by decide +kernel
theorem dX11_plug_60 : decode cX11_plug 60 = .ok (.if_icmp .gt 21, 3) := by decide +kernel
theorem dX11_plug_63 : decode cX11_plug 63 = .ok (.aload_n 0, 1) := by decide +kernel
theorem dX11_plug_64 : decode cX11_plug 64 = .ok (.getfield 37, 3) := by decide +kernel
theorem dX11_plug_67 : decode cX11_plug 67 = .ok (.getfield 192, 3) := by decide +kernel
theorem dX11_plug_70 : decode cX11_plug 70 = .ok (.aload_n 2, 1) := by decide +kernel
theorem dX11_plug_71 : decode cX11_plug 71 = .ok (.getfield 192, 3) := by decide +kernel
theorem dX11_plug_74 : decode cX11_plug 74 = .ok (.imul, 1) := by decide +kernel
theorem dX11_plug_75 : decode cX11_plug 75 = .ok (.sipush 1000, 3) := by decide +kernel
theorem dX11_plug_78 : decode cX11_plug 78 = .ok (.if_icmp .le 7, 3) := by decide +kernel
theorem dX11_plug_81 : decode cX11_plug 81 = .ok (.sipush (-1001), 3) := by decide +kernel
theorem dX11_plug_84 : decode cX11_plug 84 = .ok (.ireturn, 1) := by decide +kernel
theorem dX11_plug_85 : decode cX11_plug 85 = .ok (.aload_n 0, 1) := by decide +kernel
theorem dX11_plug_86 : decode cX11_plug 86 = .ok (.getfield 54, 3) := by decide +kernel
theorem dX11_plug_89 : decode cX11_plug 89 = .ok (.aload_n 0, 1) := by decide +kernel
theorem dX11_plug_90 : decode cX11_plug 90 = .ok (.getfield 37, 3) := by decide +kernel
theorem dX11_plug_93 : decode cX11_plug 93 = .ok (.iload_n 1, 1) := by decide +kernel
theorem dX11_plug_94 : decode cX11_plug 94 = .ok (.aload_n 2, 1) := by decide +kernel
theorem dX11_plug_95 : decode cX11_plug 95 = .ok (.aload_n 0, 1) := by decide +kernel
theorem dX11_plug_96 : decode cX11_plug 96 = .ok (.getfield 48, 3) := by decide +kernel
theorem dX11_plug_99 : decode cX11_plug 99 = .ok (.aload_n 0, 1) := by decide +kernel
theorem dX11_plug_100 : decode cX11_plug 100 = .ok (.invokevirtual 152, 3) := by decide +kernel
theorem dX11_plug_103 : decode cX11_plug 103 = .ok (.getfield 259, 3) := by decide +kernel
theorem dX11_plug_106 : decode cX11_plug 106 = .ok (.invokevirtual 262, 3) := by decide +kernel
theorem dX11_plug_109 : decode cX11_plug 109 = .ok (.aload_n 0, 1) := by decide +kernel
theorem dX11_plug_110 : decode cX11_plug 110 = .ok (.invokevirtual 176, 3) := by decide +kernel
theorem dX11_plug_113 : decode cX11_plug 113 = .ok (.ireturn, 1) := by decide +kernel
theorem dX11_times_0 : decode cX11_times 0 = .ok (.iload_n 1, 1) := by decide +kernel
theorem dX11_times_1 : decode cX11_times 1 = .ok (.invokestatic 266, 3) := by decide +kernel
theorem dX11_times_4 : decode cX11_times 4 = .ok (.ifCond .ne 5, 3) := by decide +kernel
theorem dX11_times_7 : decode cX11_times 7 = .ok (.iconst (-1), 1) := by decide +kernel
theorem dX11_times_8 : decode cX11_times 8 = .ok (.ireturn, 1) := by decide +kernel
theorem dX11_times_9 : decode cX11_times 9 = .ok (.aload_n 0, 1) := by decide +kernel
theorem dX11_times_10 : decode cX11_times 10 = .ok (.getfield 48, 3) := by decide +kernel
theorem dX11_times_13 : decode cX11_times 13 = .ok (.aload_n 0, 1) := by decide +kernel
theorem dX11_times_14 : decode cX11_times 14 = .ok (.getfield 37, 3) := by decide +kernel
theorem dX11_times_17 : decode cX11_times 17 = .ok (.getfield 212, 3) := by decide +kernel
theorem dX11_times_20 : decode cX11_times 20 = .ok (.invokevirtual 145, 3) := by decide +kernel
theorem dX11_times_23 : decode cX11_times 23 = .ok (.aload_n 0, 1) := by decide +kernel
theorem dX11_times_24 : decode cX11_times 24 = .ok (.getfield 48, 3) := by decide +kernel
theorem dX11_times_27 : decode cX11_times 27 = .ok (.aload_n 0, 1) := by decide +kernel
theorem dX11_times_28 : decode cX11_times 28 = .ok (.getfield 37, 3) := by decide +kernel
theorem dX11_times_31 : decode cX11_times 31 = .ok (.iload_n 1, 1) := by decide +kernel
theorem dX11_times_32 : decode cX11_times 32 = .ok (.aload_n 0, 1) := by decide +kernel
theorem dX11_times_33 : decode cX11_times 33 = .ok (.invokevirtual 152, 3) := by decide +kernel
theorem dX11_times_36 : decode cX11_times 36 = .ok (.getfield 259, 3) := by decide +kernel
theorem dX11_times_39 : decode cX11_times 39 = .ok (.invokevirtual 269, 3) := by decide +kernel
theorem dX11_times_42 : decode cX11_times 42 = .ok (.aload_n 0, 1) := by decide +kernel
theorem dX11_times_43 : decode cX11_times 43 = .ok (.invokevirtual 176, 3) := by decide +kernel
theorem dX11_times_46 : decode cX11_times 46 = .ok (.ireturn, 1) := by decide +kernel
theorem dX11_isFactor_0 : decode cX11_isFactor 0 = .ok (.iload_n 0, 1) := by decide +kernel
theorem dX11_isFactor_1 : decode cX11_isFactor 1 = .ok (.sipush (-999), 3) := by decide +kernel
theorem dX11_isFactor_4 : decode cX11_isFactor 4 = .ok (.if_icmp .lt 14, 3) := by decide +kernel
theorem dX11_isFactor_7 : decode cX11_isFactor 7 = .ok (.iload_n 0, 1) := by decide +kernel
theorem dX11_isFactor_8 : decode cX11_isFactor 8 = .ok (.sipush 999, 3) := by decide +kernel
theorem dX11_isFactor_11 : decode cX11_isFactor 11 = .ok (.if_icmp .gt 7, 3) := by decide +kernel
theorem dX11_isFactor_14 : decode cX11_isFactor 14 = .ok (.iconst 1, 1) := by decide +kernel
theorem dX11_isFactor_15 : decode cX11_isFactor 15 = .ok (.goto 4, 3) := by decide +kernel
theorem dX11_isFactor_18 : decode cX11_isFactor 18 = .ok (.iconst 0, 1) := by decide +kernel
theorem dX11_isFactor_19 : decode cX11_isFactor 19 = .ok (.ireturn, 1) := by decide +kernel
theorem dX11_add_0 : decode cX11_add 0 = .ok (.aload_n 0, 1) := by decide +kernel
theorem dX11_add_1 : decode cX11_add 1 = .ok (.invokevirtual 152, 3) := by decide +kernel
theorem dX11_add_4 : decode cX11_add 4 = .ok (.astore_n 3, 1) := by decide +kernel
theorem dX11_add_5 : decode cX11_add 5 = .ok (.aload_n 3, 1) := by decide +kernel
theorem dX11_add_6 : decode cX11_add 6 = .ok (.iload_n 1, 1) := by decide +kernel
theorem dX11_add_7 : decode cX11_add 7 = .ok (.invokevirtual 163, 3) := by decide +kernel
theorem dX11_add_10 : decode cX11_add 10 = .ok (.ifCond .eq 26, 3) := by decide +kernel
theorem dX11_add_13 : decode cX11_add 13 = .ok (.aload_n 3, 1) := by decide +kernel
theorem dX11_add_14 : decode cX11_add 14 = .ok (.getfield 166, 3) := by decide +kernel
theorem dX11_add_17 : decode cX11_add 17 = .ok (.iload_n 1, 1) := by decide +kernel
theorem dX11_add_18 : decode cX11_add 18 = .ok (.iaload, 1) := by decide +kernel
theorem dX11_add_19 : decode cX11_add 19 = .ok (.aload_n 0, 1) := by decide +kernel
theorem dX11_add_20 : decode cX11_add 20 = .ok (.getfield 37, 3) := by decide +kernel
theorem dX11_add_23 : decode cX11_add 23 = .ok (.getfield 212, 3) := by decide +kernel
theorem dX11_add_26 : decode cX11_add 26 = .ok (.if_icmp .ne 10, 3) := by decide +kernel
theorem dX11_add_29 : decode cX11_add 29 = .ok (.iload_n 2, 1) := by decide +kernel
theorem dX11_add_30 : decode cX11_add 30 = .ok (.invokestatic 266, 3) := by decide +kernel
theorem dX11_add_33 : decode cX11_add 33 = .ok (.ifCond .ne 5, 3) := by decide +kernel
theorem dX11_add_36 : decode cX11_add 36 = .ok (.iconst (-1), 1) := by decide +kernel
theorem dX11_add_37 : decode cX11_add 37 = .ok (.ireturn, 1) := by decide +kernel
theorem dX11_add_38 : decode cX11_add 38 = .ok (.aload_n 0, 1) := by decide +kernel
theorem dX11_add_39 : decode cX11_add 39 = .ok (.getfield 48, 3) := by decide +kernel
theorem dX11_add_42 : decode cX11_add 42 = .ok (.aload_n 0, 1) := by decide +kernel
theorem dX11_add_43 : decode cX11_add 43 = .ok (.getfield 37, 3) := by decide +kernel
theorem dX11_add_46 : decode cX11_add 46 = .ok (.invokevirtual 182, 3) := by decide +kernel
theorem dX11_add_49 : decode cX11_add 49 = .ok (.aload_n 3, 1) := by decide +kernel
theorem dX11_add_50 : decode cX11_add 50 = .ok (.aload_n 0, 1) := by decide +kernel
theorem dX11_add_51 : decode cX11_add 51 = .ok (.getfield 48, 3) := by decide +kernel
theorem dX11_add_54 : decode cX11_add 54 = .ok (.iload_n 1, 1) := by decide +kernel
theorem dX11_add_55 : decode cX11_add 55 = .ok (.iload_n 2, 1) := by decide +kernel
theorem dX11_add_56 : decode cX11_add 56 = .ok (.invokevirtual 172, 3) := by decide +kernel
theorem dX11_add_59 : decode cX11_add 59 = .ok (.aload_n 0, 1) := by decide +kernel
theorem dX11_add_60 : decode cX11_add 60 = .ok (.invokevirtual 176, 3) := by decide +kernel
theorem dX11_add_63 : decode cX11_add 63 = .ok (.ireturn, 1) := by decide +kernel
theorem dX11_undo_0 : decode cX11_undo 0 = .ok (.aload_n 0, 1) := by decide +kernel
theorem dX11_undo_1 : decode cX11_undo 1 = .ok (.getfield 146, 3) := by decide +kernel
theorem dX11_undo_4 : decode cX11_undo 4 = .ok (.iconst 1, 1) := by decide +kernel
theorem dX11_undo_5 : decode cX11_undo 5 = .ok (.if_icmp .ge 5, 3) := by decide +kernel
theorem dX11_undo_8 : decode cX11_undo 8 = .ok (.iconst (-1), 1) := by decide +kernel
theorem dX11_undo_9 : decode cX11_undo 9 = .ok (.ireturn, 1) := by decide +kernel
theorem dX11_undo_10 : decode cX11_undo 10 = .ok (.aload_n 0, 1) := by decide +kernel
theorem dX11_undo_11 : decode cX11_undo 11 = .ok (.dup, 1) := by decide +kernel
theorem dX11_undo_12 : decode cX11_undo 12 = .ok (.getfield 146, 3) := by decide +kernel
theorem dX11_undo_15 : decode cX11_undo 15 = .ok (.iconst 1, 1) := by decide +kernel
theorem dX11_undo_16 : decode cX11_undo 16 = .ok (.isub, 1) := by decide +kernel
theorem dX11_undo_17 : decode cX11_undo 17 = .ok (.putfield 146, 3) := by decide +kernel
theorem dX11_undo_20 : decode cX11_undo 20 = .ok (.aload_n 0, 1) := by decide +kernel
theorem dX11_undo_21 : decode cX11_undo 21 = .ok (.aload_n 0, 1) := by decide +kernel
theorem dX11_undo_22 : decode cX11_undo 22 = .ok (.getfield 179, 3) := by decide +kernel
theorem dX11_undo_25 : decode cX11_undo 25 = .ok (.bipush 8, 2) := by decide +kernel
theorem dX11_undo_27 : decode cX11_undo 27 = .ok (.iadd, 1) := by decide +kernel
theorem dX11_undo_28 : decode cX11_undo 28 = .ok (.iconst 1, 1) := by decide +kernel
theorem dX11_undo_29 : decode cX11_undo 29 = .ok (.isub, 1) := by decide +kernel
theorem dX11_undo_30 : decode cX11_undo 30 = .ok (.bipush 8, 2) := by decide +kernel
theorem dX11_undo_32 : decode cX11_undo 32 = .ok (.irem, 1) := by decide +kernel
theorem dX11_undo_33 : decode cX11_undo 33 = .ok (.putfield 179, 3) := by decide +kernel
theorem dX11_undo_36 : decode cX11_undo 36 = .ok (.aload_n 0, 1) := by decide +kernel
theorem dX11_undo_37 : decode cX11_undo 37 = .ok (.getfield 37, 3) := by decide +kernel
theorem dX11_undo_40 : decode cX11_undo 40 = .ok (.aload_n 0, 1) := by decide +kernel
theorem dX11_undo_41 : decode cX11_undo 41 = .ok (.getfield 45, 3) := by decide +kernel
theorem dX11_undo_44 : decode cX11_undo 44 = .ok (.aload_n 0, 1) := by decide +kernel
theorem dX11_undo_45 : decode cX11_undo 45 = .ok (.getfield 179, 3) := by decide +kernel
theorem dX11_undo_48 : decode cX11_undo 48 = .ok (.aaload, 1) := by decide +kernel
theorem dX11_undo_49 : decode cX11_undo 49 = .ok (.invokevirtual 182, 3) := by decide +kernel
theorem dX11_undo_52 : decode cX11_undo 52 = .ok (.aload_n 0, 1) := by decide +kernel
theorem dX11_undo_53 : decode cX11_undo 53 = .ok (.getfield 37, 3) := by decide +kernel
theorem dX11_undo_56 : decode cX11_undo 56 = .ok (.getfield 192, 3) := by decide +kernel
theorem dX11_undo_59 : decode cX11_undo 59 = .ok (.ireturn, 1) := by decide +kernel
theorem dX11_dual_0 : decode cX11_dual 0 = .ok (.aload_n 0, 1) := by decide +kernel
theorem dX11_dual_1 : decode cX11_dual 1 = .ok (.invokevirtual 232, 3) := by decide +kernel
theorem dX11_dual_4 : decode cX11_dual 4 = .ok (.astore_n 1, 1) := by decide +kernel
theorem dX11_dual_5 : decode cX11_dual 5 = .ok (.aload_n 1, 1) := by decide +kernel
theorem dX11_dual_6 : decode cX11_dual 6 = .ok (.getfield 125, 3) := by decide +kernel
theorem dX11_dual_9 : decode cX11_dual 9 = .ok (.invokevirtual 272, 3) := by decide +kernel
theorem dX11_dual_12 : decode cX11_dual 12 = .ok (.ifCond .eq 11, 3) := by decide +kernel
theorem dX11_dual_15 : decode cX11_dual 15 = .ok (.aload_n 1, 1) := by decide +kernel
theorem dX11_dual_16 : decode cX11_dual 16 = .ok (.iconst 3, 1) := by decide +kernel
theorem dX11_dual_17 : decode cX11_dual 17 = .ok (.invokevirtual 236, 3) := by decide +kernel
theorem dX11_dual_20 : decode cX11_dual 20 = .ok (.ifCond .ne 5, 3) := by decide +kernel
theorem dX11_dual_23 : decode cX11_dual 23 = .ok (.iconst (-1), 1) := by decide +kernel
theorem dX11_dual_24 : decode cX11_dual 24 = .ok (.ireturn, 1) := by decide +kernel
theorem dX11_dual_25 : decode cX11_dual 25 = .ok (.aload_n 0, 1) := by decide +kernel
theorem dX11_dual_26 : decode cX11_dual 26 = .ok (.invokevirtual 114, 3) := by decide +kernel
theorem dX11_dual_29 : decode cX11_dual 29 = .ok (.istore_n 2, 1) := by decide +kernel
theorem dX11_dual_30 : decode cX11_dual 30 = .ok (.aload_n 0, 1) := by decide +kernel
theorem dX11_dual_31 : decode cX11_dual 31 = .ok (.getfield 96, 3) := by decide +kernel
theorem dX11_dual_34 : decode cX11_dual 34 = .ok (.aload_n 1, 1) := by decide +kernel
theorem dX11_dual_35 : decode cX11_dual 35 = .ok (.aload_n 0, 1) := by decide +kernel
theorem dX11_dual_36 : decode cX11_dual 36 = .ok (.getfield 15, 3) := by decide +kernel
theorem dX11_dual_39 : decode cX11_dual 39 = .ok (.iload_n 2, 1) := by decide +kernel
theorem dX11_dual_40 : decode cX11_dual 40 = .ok (.aaload, 1) := by decide +kernel
theorem dX11_dual_41 : decode cX11_dual 41 = .ok (.getfield 125, 3) := by decide +kernel
theorem dX11_dual_44 : decode cX11_dual 44 = .ok (.aload_n 0, 1) := by decide +kernel
theorem dX11_dual_45 : decode cX11_dual 45 = .ok (.getfield 48, 3) := by decide +kernel
theorem dX11_dual_48 : decode cX11_dual 48 = .ok (.invokevirtual 275, 3) := by decide +kernel
theorem dX11_dual_51 : decode cX11_dual 51 = .ok (.aload_n 0, 1) := by decide +kernel
theorem dX11_dual_52 : decode cX11_dual 52 = .ok (.getfield 15, 3) := by decide +kernel
theorem dX11_dual_55 : decode cX11_dual 55 = .ok (.iload_n 2, 1) := by decide +kernel
theorem dX11_dual_56 : decode cX11_dual 56 = .ok (.aaload, 1) := by decide +kernel
theorem dX11_dual_57 : decode cX11_dual 57 = .ok (.invokevirtual 136, 3) := by decide +kernel
theorem dX11_dual_60 : decode cX11_dual 60 = .ok (.aload_n 0, 1) := by decide +kernel
theorem dX11_dual_61 : decode cX11_dual 61 = .ok (.iload_n 2, 1) := by decide +kernel
theorem dX11_dual_62 : decode cX11_dual 62 = .ok (.putfield 139, 3) := by decide +kernel
theorem dX11_dual_65 : decode cX11_dual 65 = .ok (.aload_n 0, 1) := by decide +kernel
theorem dX11_dual_66 : decode cX11_dual 66 = .ok (.getfield 26, 3) := by decide +kernel
theorem dX11_dual_69 : decode cX11_dual 69 = .ok (.iconst 1, 1) := by decide +kernel
theorem dX11_dual_70 : decode cX11_dual 70 = .ok (.invokevirtual 142, 3) := by decide +kernel
theorem dX11_dual_73 : decode cX11_dual 73 = .ok (.aload_n 0, 1) := by decide +kernel
theorem dX11_dual_74 : decode cX11_dual 74 = .ok (.iconst 0, 1) := by decide +kernel
theorem dX11_dual_75 : decode cX11_dual 75 = .ok (.putfield 146, 3) := by decide +kernel
theorem dX11_dual_78 : decode cX11_dual 78 = .ok (.aload_n 0, 1) := by decide +kernel
theorem dX11_dual_79 : decode cX11_dual 79 = .ok (.invokevirtual 152, 3) := by decide +kernel
theorem dX11_dual_82 : decode cX11_dual 82 = .ok (.getfield 279, 3) := by decide +kernel
theorem dX11_dual_85 : decode cX11_dual 85 = .ok (.ireturn, 1) := by decide +kernel
theorem dX11_undone_0 : decode cX11_undone 0 = .ok (.aload_n 0, 1) := by decide +kernel
theorem dX11_undone_1 : decode cX11_undone 1 = .ok (.invokevirtual 232, 3) := by decide +kernel
theorem dX11_undone_4 : decode cX11_undone 4 = .ok (.astore_n 2, 1) := by decide +kernel
theorem dX11_undone_5 : decode cX11_undone 5 = .ok (.aload_n 2, 1) := by decide +kernel
theorem dX11_undone_6 : decode cX11_undone 6 = .ok (.iload_n 1, 1) := by decide +kernel
theorem dX11_undone_7 : decode cX11_undone 7 = .ok (.invokevirtual 236, 3) := by decide +kernel
theorem dX11_undone_10 : decode cX11_undone 10 = .ok (.ifCond .ne 14, 3) := by decide +kernel
theorem dX11_undone_13 : decode cX11_undone 13 = .ok (.new 215, 3) := by decide +kernel
theorem dX11_undone_16 : decode cX11_undone 16 = .ok (.dup, 1) := by decide +kernel
theorem dX11_undone_17 : decode cX11_undone 17 = .ok (.ldc_w 282, 3) := by decide +kernel
theorem dX11_undone_20 : decode cX11_undone 20 = .ok (.invokespecial 219, 3) := by decide +kernel
theorem dX11_undone_23 : decode cX11_undone 23 = .ok (.athrow, 1) := by decide +kernel
theorem dX11_undone_24 : decode cX11_undone 24 = .ok (.aload_n 0, 1) := by decide +kernel
theorem dX11_undone_25 : decode cX11_undone 25 = .ok (.getfield 89, 3) := by decide +kernel
theorem dX11_undone_28 : decode cX11_undone 28 = .ok (.aload_n 2, 1) := by decide +kernel
theorem dX11_undone_29 : decode cX11_undone 29 = .ok (.getfield 242, 3) := by decide +kernel
theorem dX11_undone_32 : decode cX11_undone 32 = .ok (.iload_n 1, 1) := by decide +kernel
theorem dX11_undone_33 : decode cX11_undone 33 = .ok (.invokevirtual 284, 3) := by decide +kernel
theorem dX11_undone_36 : decode cX11_undone 36 = .ok (.aload_n 0, 1) := by decide +kernel
theorem dX11_undone_37 : decode cX11_undone 37 = .ok (.getfield 89, 3) := by decide +kernel
theorem dX11_undone_40 : decode cX11_undone 40 = .ok (.iload_n 1, 1) := by decide +kernel
theorem dX11_undone_41 : decode cX11_undone 41 = .ok (.invokevirtual 288, 3) := by decide +kernel
theorem dX11_undone_44 : decode cX11_undone 44 = .ok (.aload_n 0, 1) := by decide +kernel
theorem dX11_undone_45 : decode cX11_undone 45 = .ok (.getfield 89, 3) := by decide +kernel
theorem dX11_undone_48 : decode cX11_undone 48 = .ok (.getfield 291, 3) := by decide +kernel
theorem dX11_undone_51 : decode cX11_undone 51 = .ok (.iload_n 1, 1) := by decide +kernel
theorem dX11_undone_52 : decode cX11_undone 52 = .ok (.laload, 1) := by decide +kernel
theorem dX11_undone_53 : decode cX11_undone 53 = .ok (.lreturn, 1) := by decide +kernel
theorem dX11_koszul_0 : decode cX11_koszul 0 = .ok (.aload_n 0, 1) := by decide +kernel
theorem dX11_koszul_1 : decode cX11_koszul 1 = .ok (.invokevirtual 232, 3) := by decide +kernel
theorem dX11_koszul_4 : decode cX11_koszul 4 = .ok (.astore_n 2, 1) := by decide +kernel
theorem dX11_koszul_5 : decode cX11_koszul 5 = .ok (.iload_n 1, 1) := by decide +kernel
theorem dX11_koszul_6 : decode cX11_koszul 6 = .ok (.iconst 1, 1) := by decide +kernel
theorem dX11_koszul_7 : decode cX11_koszul 7 = .ok (.if_icmp .lt 27, 3) := by decide +kernel
theorem dX11_koszul_10 : decode cX11_koszul 10 = .ok (.iload_n 1, 1) := by decide +kernel
theorem dX11_koszul_11 : decode cX11_koszul 11 = .ok (.bipush 7, 2) := by decide +kernel
theorem dX11_koszul_13 : decode cX11_koszul 13 = .ok (.if_icmp .gt 21, 3) := by decide +kernel
theorem dX11_koszul_16 : decode cX11_koszul 16 = .ok (.aload_n 2, 1) := by decide +kernel
theorem dX11_koszul_17 : decode cX11_koszul 17 = .ok (.getfield 125, 3) := by decide +kernel
theorem dX11_koszul_20 : decode cX11_koszul 20 = .ok (.invokevirtual 272, 3) := by decide +kernel
theorem dX11_koszul_23 : decode cX11_koszul 23 = .ok (.ifCond .eq 11, 3) := by decide +kernel
theorem dX11_koszul_26 : decode cX11_koszul 26 = .ok (.aload_n 2, 1) := by decide +kernel
theorem dX11_koszul_27 : decode cX11_koszul 27 = .ok (.iconst 3, 1) := by decide +kernel
theorem dX11_koszul_28 : decode cX11_koszul 28 = .ok (.invokevirtual 236, 3) := by decide +kernel
theorem dX11_koszul_31 : decode cX11_koszul 31 = .ok (.ifCond .ne 6, 3) := by decide +kernel
theorem dX11_koszul_34 : decode cX11_koszul 34 = .ok (.bipush (-2), 2) := by decide +kernel
theorem dX11_koszul_36 : decode cX11_koszul 36 = .ok (.ireturn, 1) := by decide +kernel
theorem dX11_koszul_37 : decode cX11_koszul 37 = .ok (.iconst 0, 1) := by decide +kernel
theorem dX11_koszul_38 : decode cX11_koszul 38 = .ok (.istore_n 3, 1) := by decide +kernel
theorem dX11_koszul_39 : decode cX11_koszul 39 = .ok (.iload_n 3, 1) := by decide +kernel
theorem dX11_koszul_40 : decode cX11_koszul 40 = .ok (.iload_n 1, 1) := by decide +kernel
theorem dX11_koszul_41 : decode cX11_koszul 41 = .ok (.if_icmp .ge 19, 3) := by decide +kernel
theorem dX11_koszul_44 : decode cX11_koszul 44 = .ok (.aload_n 2, 1) := by decide +kernel
theorem dX11_koszul_45 : decode cX11_koszul 45 = .ok (.iload_n 3, 1) := by decide +kernel
theorem dX11_koszul_46 : decode cX11_koszul 46 = .ok (.iconst 1, 1) := by decide +kernel
theorem dX11_koszul_47 : decode cX11_koszul 47 = .ok (.iadd, 1) := by decide +kernel
theorem dX11_koszul_48 : decode cX11_koszul 48 = .ok (.invokevirtual 236, 3) := by decide +kernel
theorem dX11_koszul_51 : decode cX11_koszul 51 = .ok (.ifCond .eq 9, 3) := by decide +kernel
theorem dX11_koszul_54 : decode cX11_koszul 54 = .ok (.iinc 3 1, 3) := by decide +kernel
theorem dX11_koszul_57 : decode cX11_koszul 57 = .ok (.goto (-18), 3) := by decide +kernel
theorem dX11_koszul_60 : decode cX11_koszul 60 = .ok (.aload_n 0, 1) := by decide +kernel
theorem dX11_koszul_61 : decode cX11_koszul 61 = .ok (.aload_n 2, 1) := by decide +kernel
theorem dX11_koszul_62 : decode cX11_koszul 62 = .ok (.iload_n 3, 1) := by decide +kernel
theorem dX11_koszul_63 : decode cX11_koszul 63 = .ok (.invokevirtual 294, 3) := by decide +kernel
theorem dX11_koszul_66 : decode cX11_koszul 66 = .ok (.aload_n 0, 1) := by decide +kernel
theorem dX11_koszul_67 : decode cX11_koszul 67 = .ok (.getfield 89, 3) := by decide +kernel
theorem dX11_koszul_70 : decode cX11_koszul 70 = .ok (.aload_n 2, 1) := by decide +kernel
theorem dX11_koszul_71 : decode cX11_koszul 71 = .ok (.getfield 242, 3) := by decide +kernel
theorem dX11_koszul_74 : decode cX11_koszul 74 = .ok (.iload_n 3, 1) := by decide +kernel
theorem dX11_koszul_75 : decode cX11_koszul 75 = .ok (.invokevirtual 284, 3) := by decide +kernel
theorem dX11_koszul_78 : decode cX11_koszul 78 = .ok (.aload_n 0, 1) := by decide +kernel
theorem dX11_koszul_79 : decode cX11_koszul 79 = .ok (.getfield 89, 3) := by decide +kernel
theorem dX11_koszul_82 : decode cX11_koszul 82 = .ok (.iload_n 3, 1) := by decide +kernel
theorem dX11_koszul_83 : decode cX11_koszul 83 = .ok (.invokevirtual 288, 3) := by decide +kernel
theorem dX11_koszul_86 : decode cX11_koszul 86 = .ok (.iconst 1, 1) := by decide +kernel
theorem dX11_koszul_87 : decode cX11_koszul 87 = .ok (.istore 4, 2) := by decide +kernel
theorem dX11_koszul_89 : decode cX11_koszul 89 = .ok (.iload 4, 2) := by decide +kernel
theorem dX11_koszul_91 : decode cX11_koszul 91 = .ok (.iload_n 3, 1) := by decide +kernel
theorem dX11_koszul_92 : decode cX11_koszul 92 = .ok (.if_icmp .gt 57, 3) := by decide +kernel
theorem dX11_koszul_95 : decode cX11_koszul 95 = .ok (.iload 4, 2) := by decide +kernel
theorem dX11_koszul_97 : decode cX11_koszul 97 = .ok (.iconst 2, 1) := by decide +kernel
theorem dX11_koszul_98 : decode cX11_koszul 98 = .ok (.irem, 1) := by decide +kernel
theorem dX11_koszul_99 : decode cX11_koszul 99 = .ok (.ifCond .ne 15, 3) := by decide +kernel
theorem dX11_koszul_102 : decode cX11_koszul 102 = .ok (.aload_n 2, 1) := by decide +kernel
theorem dX11_koszul_103 : decode cX11_koszul 103 = .ok (.getfield 298, 3) := by decide +kernel
theorem dX11_koszul_106 : decode cX11_koszul 106 = .ok (.iload 4, 2) := by decide +kernel
theorem dX11_koszul_108 : decode cX11_koszul 108 = .ok (.iaload, 1) := by decide +kernel
theorem dX11_koszul_109 : decode cX11_koszul 109 = .ok (.ineg, 1) := by decide +kernel
theorem dX11_koszul_110 : decode cX11_koszul 110 = .ok (.i2l, 1) := by decide +kernel
theorem dX11_koszul_111 : decode cX11_koszul 111 = .ok (.goto 11, 3) := by decide +kernel
theorem dX11_koszul_114 : decode cX11_koszul 114 = .ok (.aload_n 2, 1) := by decide +kernel
theorem dX11_koszul_115 : decode cX11_koszul 115 = .ok (.getfield 298, 3) := by decide +kernel
theorem dX11_koszul_118 : decode cX11_koszul 118 = .ok (.iload 4, 2) := by decide +kernel
theorem dX11_koszul_120 : decode cX11_koszul 120 = .ok (.iaload, 1) := by decide +kernel
theorem dX11_koszul_121 : decode cX11_koszul 121 = .ok (.i2l, 1) := by decide +kernel
theorem dX11_koszul_122 : decode cX11_koszul 122 = .ok (.lstore 5, 2) := by decide +kernel
theorem dX11_koszul_124 : decode cX11_koszul 124 = .ok (.aload_n 0, 1) := by decide +kernel
theorem dX11_koszul_125 : decode cX11_koszul 125 = .ok (.getfield 89, 3) := by decide +kernel
theorem dX11_koszul_128 : decode cX11_koszul 128 = .ok (.getfield 291, 3) := by decide +kernel
theorem dX11_koszul_131 : decode cX11_koszul 131 = .ok (.iload 4, 2) := by decide +kernel
theorem dX11_koszul_133 : decode cX11_koszul 133 = .ok (.laload, 1) := by decide +kernel
theorem dX11_koszul_134 : decode cX11_koszul 134 = .ok (.lload 5, 2) := by decide +kernel
theorem dX11_koszul_136 : decode cX11_koszul 136 = .ok (.lcmp, 1) := by decide +kernel
theorem dX11_koszul_137 : decode cX11_koszul 137 = .ok (.ifCond .eq 6, 3) := by decide +kernel
theorem dX11_koszul_140 : decode cX11_koszul 140 = .ok (.iload 4, 2) := by decide +kernel
theorem dX11_koszul_142 : decode cX11_koszul 142 = .ok (.ireturn, 1) := by decide +kernel
theorem dX11_koszul_143 : decode cX11_koszul 143 = .ok (.iinc 4 1, 3) := by decide +kernel
theorem dX11_koszul_146 : decode cX11_koszul 146 = .ok (.goto (-57), 3) := by decide +kernel
theorem dX11_koszul_149 : decode cX11_koszul 149 = .ok (.iconst (-1), 1) := by decide +kernel
theorem dX11_koszul_150 : decode cX11_koszul 150 = .ok (.ireturn, 1) := by decide +kernel
theorem dX11_findDualSizes_0 : decode cX11_findDualSizes 0 = .ok (.aload_n 1, 1) := by decide +kernel
theorem dX11_findDualSizes_1 : decode cX11_findDualSizes 1 = .ok (.getfield 301, 3) := by decide +kernel
theorem dX11_findDualSizes_4 : decode cX11_findDualSizes 4 = .ok (.iload_n 2, 1) := by decide +kernel
theorem dX11_findDualSizes_5 : decode cX11_findDualSizes 5 = .ok (.if_icmp .lt 4, 3) := by decide +kernel
theorem dX11_findDualSizes_8 : decode cX11_findDualSizes 8 = .ok (.return_, 1) := by decide +kernel
theorem dX11_findDualSizes_9 : decode cX11_findDualSizes 9 = .ok (.aload_n 0, 1) := by decide +kernel
theorem dX11_findDualSizes_10 : decode cX11_findDualSizes 10 = .ok (.getfield 15, 3) := by decide +kernel
theorem dX11_findDualSizes_13 : decode cX11_findDualSizes 13 = .ok (.aload_n 0, 1) := by decide +kernel
theorem dX11_findDualSizes_14 : decode cX11_findDualSizes 14 = .ok (.invokevirtual 114, 3) := by decide +kernel
theorem dX11_findDualSizes_17 : decode cX11_findDualSizes 17 = .ok (.aaload, 1) := by decide +kernel
theorem dX11_findDualSizes_18 : decode cX11_findDualSizes 18 = .ok (.astore_n 3, 1) := by decide +kernel
theorem dX11_findDualSizes_19 : decode cX11_findDualSizes 19 = .ok (.aload_n 0, 1) := by decide +kernel
theorem dX11_findDualSizes_20 : decode cX11_findDualSizes 20 = .ok (.getfield 96, 3) := by decide +kernel
theorem dX11_findDualSizes_23 : decode cX11_findDualSizes 23 = .ok (.aload_n 1, 1) := by decide +kernel
theorem dX11_findDualSizes_24 : decode cX11_findDualSizes 24 = .ok (.aload_n 3, 1) := by decide +kernel
theorem dX11_findDualSizes_25 : decode cX11_findDualSizes 25 = .ok (.getfield 125, 3) := by decide +kernel
theorem dX11_findDualSizes_28 : decode cX11_findDualSizes 28 = .ok (.aload_n 0, 1) := by decide +kernel
theorem dX11_findDualSizes_29 : decode cX11_findDualSizes 29 = .ok (.getfield 48, 3) := by decide +kernel
theorem dX11_findDualSizes_32 : decode cX11_findDualSizes 32 = .ok (.invokevirtual 275, 3) := by decide +kernel
theorem dX11_findDualSizes_35 : decode cX11_findDualSizes 35 = .ok (.aload_n 3, 1) := by decide +kernel
theorem dX11_findDualSizes_36 : decode cX11_findDualSizes 36 = .ok (.invokevirtual 136, 3) := by decide +kernel
theorem dX11_findDualSizes_39 : decode cX11_findDualSizes 39 = .ok (.iconst 1, 1) := by decide +kernel
theorem dX11_findDualSizes_40 : decode cX11_findDualSizes 40 = .ok (.istore 4, 2) := by decide +kernel
theorem dX11_findDualSizes_42 : decode cX11_findDualSizes 42 = .ok (.iload 4, 2) := by decide +kernel
theorem dX11_findDualSizes_44 : decode cX11_findDualSizes 44 = .ok (.iload_n 2, 1) := by decide +kernel
theorem dX11_findDualSizes_45 : decode cX11_findDualSizes 45 = .ok (.if_icmp .gt 36, 3) := by decide +kernel
theorem dX11_findDualSizes_48 : decode cX11_findDualSizes 48 = .ok (.aload_n 1, 1) := by decide +kernel
theorem dX11_findDualSizes_49 : decode cX11_findDualSizes 49 = .ok (.getfield 298, 3) := by decide +kernel
theorem dX11_findDualSizes_52 : decode cX11_findDualSizes 52 = .ok (.iload 4, 2) := by decide +kernel
theorem dX11_findDualSizes_54 : decode cX11_findDualSizes 54 = .ok (.aload_n 3, 1) := by decide +kernel
theorem dX11_findDualSizes_55 : decode cX11_findDualSizes 55 = .ok (.iload 4, 2) := by decide +kernel
theorem dX11_findDualSizes_57 : decode cX11_findDualSizes 57 = .ok (.invokevirtual 236, 3) := by decide +kernel
theorem dX11_findDualSizes_60 : decode cX11_findDualSizes 60 = .ok (.ifCond .eq 13, 3) := by decide +kernel
theorem dX11_findDualSizes_63 : decode cX11_findDualSizes 63 = .ok (.aload_n 3, 1) := by decide +kernel
theorem dX11_findDualSizes_64 : decode cX11_findDualSizes 64 = .ok (.getfield 242, 3) := by decide +kernel
theorem dX11_findDualSizes_67 : decode cX11_findDualSizes 67 = .ok (.iload 4, 2) := by decide +kernel
theorem dX11_findDualSizes_69 : decode cX11_findDualSizes 69 = .ok (.iaload, 1) := by decide +kernel
theorem dX11_findDualSizes_70 : decode cX11_findDualSizes 70 = .ok (.goto 4, 3) := by decide +kernel
theorem dX11_findDualSizes_73 : decode cX11_findDualSizes 73 = .ok (.iconst 0, 1) := by decide +kernel
theorem dX11_findDualSizes_74 : decode cX11_findDualSizes 74 = .ok (.iastore, 1) := by decide +kernel
theorem dX11_findDualSizes_75 : decode cX11_findDualSizes 75 = .ok (.iinc 4 1, 3) := by decide +kernel
theorem dX11_findDualSizes_78 : decode cX11_findDualSizes 78 = .ok (.goto (-36), 3) := by decide +kernel
theorem dX11_findDualSizes_81 : decode cX11_findDualSizes 81 = .ok (.aload_n 1, 1) := by decide +kernel
theorem dX11_findDualSizes_82 : decode cX11_findDualSizes 82 = .ok (.iload_n 2, 1) := by decide +kernel
theorem dX11_findDualSizes_83 : decode cX11_findDualSizes 83 = .ok (.putfield 301, 3) := by decide +kernel
theorem dX11_findDualSizes_86 : decode cX11_findDualSizes 86 = .ok (.return_, 1) := by decide +kernel
theorem dX11_layered_0 : decode cX11_layered 0 = .ok (.aload_n 0, 1) := by decide +kernel
theorem dX11_layered_1 : decode cX11_layered 1 = .ok (.iload_n 1, 1) := by decide +kernel
theorem dX11_layered_2 : decode cX11_layered 2 = .ok (.invokevirtual 304, 3) := by decide +kernel
theorem dX11_layered_5 : decode cX11_layered 5 = .ok (.astore_n 3, 1) := by decide +kernel
theorem dX11_layered_6 : decode cX11_layered 6 = .ok (.aload_n 0, 1) := by decide +kernel
theorem dX11_layered_7 : decode cX11_layered 7 = .ok (.invokevirtual 232, 3) := by decide +kernel
theorem dX11_layered_10 : decode cX11_layered 10 = .ok (.astore 4, 2) := by decide +kernel
theorem dX11_layered_12 : decode cX11_layered 12 = .ok (.aload_n 3, 1) := by decide +kernel
theorem dX11_layered_13 : decode cX11_layered 13 = .ok (.ifnull 20, 3) := by decide +kernel
theorem dX11_layered_16 : decode cX11_layered 16 = .ok (.aload 4, 2) := by decide +kernel
theorem dX11_layered_18 : decode cX11_layered 18 = .ok (.iload_n 2, 1) := by decide +kernel
theorem dX11_layered_19 : decode cX11_layered 19 = .ok (.invokevirtual 236, 3) := by decide +kernel
theorem dX11_layered_22 : decode cX11_layered 22 = .ok (.ifCond .eq 11, 3) := by decide +kernel
theorem dX11_layered_25 : decode cX11_layered 25 = .ok (.aload_n 3, 1) := by decide +kernel
theorem dX11_layered_26 : decode cX11_layered 26 = .ok (.iload_n 2, 1) := by decide +kernel
theorem dX11_layered_27 : decode cX11_layered 27 = .ok (.invokevirtual 236, 3) := by decide +kernel
theorem dX11_layered_30 : decode cX11_layered 30 = .ok (.ifCond .ne 7, 3) := by decide +kernel
theorem dX11_layered_33 : decode cX11_layered 33 = .ok (.ldc2_w 195, 3) := by decide +kernel
theorem dX11_layered_36 : decode cX11_layered 36 = .ok (.lreturn, 1) := by decide +kernel
theorem dX11_layered_37 : decode cX11_layered 37 = .ok (.aload_n 0, 1) := by decide +kernel
theorem dX11_layered_38 : decode cX11_layered 38 = .ok (.getfield 89, 3) := by decide +kernel
theorem dX11_layered_41 : decode cX11_layered 41 = .ok (.aload_n 3, 1) := by decide +kernel
theorem dX11_layered_42 : decode cX11_layered 42 = .ok (.getfield 242, 3) := by decide +kernel
theorem dX11_layered_45 : decode cX11_layered 45 = .ok (.iload_n 2, 1) := by decide +kernel
theorem dX11_layered_46 : decode cX11_layered 46 = .ok (.invokevirtual 284, 3) := by decide +kernel
theorem dX11_layered_49 : decode cX11_layered 49 = .ok (.aload_n 0, 1) := by decide +kernel
theorem dX11_layered_50 : decode cX11_layered 50 = .ok (.getfield 89, 3) := by decide +kernel
theorem dX11_layered_53 : decode cX11_layered 53 = .ok (.aload 4, 2) := by decide +kernel
theorem dX11_layered_55 : decode cX11_layered 55 = .ok (.getfield 242, 3) := by decide +kernel
theorem dX11_layered_58 : decode cX11_layered 58 = .ok (.iload_n 2, 1) := by decide +kernel
theorem dX11_layered_59 : decode cX11_layered 59 = .ok (.invokevirtual 308, 3) := by decide +kernel
theorem dX11_layered_62 : decode cX11_layered 62 = .ok (.lreturn, 1) := by decide +kernel
theorem dX11_map_0 : decode cX11_map 0 = .ok (.aload_n 0, 1) := by decide +kernel
theorem dX11_map_1 : decode cX11_map 1 = .ok (.getfield 61, 3) := by decide +kernel
theorem dX11_map_4 : decode cX11_map 4 = .ok (.aload_n 0, 1) := by decide +kernel
theorem dX11_map_5 : decode cX11_map 5 = .ok (.getfield 9, 3) := by decide +kernel
theorem dX11_map_8 : decode cX11_map 8 = .ok (.aload_n 0, 1) := by decide +kernel
theorem dX11_map_9 : decode cX11_map 9 = .ok (.invokevirtual 118, 3) := by decide +kernel
theorem dX11_map_12 : decode cX11_map 12 = .ok (.sipush 400, 3) := by decide +kernel
theorem dX11_map_15 : decode cX11_map 15 = .ok (.invokevirtual 121, 3) := by decide +kernel
theorem dX11_map_18 : decode cX11_map 18 = .ok (.aload_n 0, 1) := by decide +kernel
theorem dX11_map_19 : decode cX11_map 19 = .ok (.iload_n 1, 1) := by decide +kernel
theorem dX11_map_20 : decode cX11_map 20 = .ok (.invokevirtual 304, 3) := by decide +kernel
theorem dX11_map_23 : decode cX11_map 23 = .ok (.astore_n 2, 1) := by decide +kernel
theorem dX11_map_24 : decode cX11_map 24 = .ok (.aload_n 0, 1) := by decide +kernel
theorem dX11_map_25 : decode cX11_map 25 = .ok (.invokevirtual 152, 3) := by decide +kernel
theorem dX11_map_28 : decode cX11_map 28 = .ok (.astore_n 3, 1) := by decide +kernel
theorem dX11_map_29 : decode cX11_map 29 = .ok (.aload_n 2, 1) := by decide +kernel
theorem dX11_map_30 : decode cX11_map 30 = .ok (.ifnull 17, 3) := by decide +kernel
theorem dX11_map_33 : decode cX11_map 33 = .ok (.aload_n 2, 1) := by decide +kernel
theorem dX11_map_34 : decode cX11_map 34 = .ok (.getfield 125, 3) := by decide +kernel
theorem dX11_map_37 : decode cX11_map 37 = .ok (.getfield 259, 3) := by decide +kernel
theorem dX11_map_40 : decode cX11_map 40 = .ok (.aload_n 3, 1) := by decide +kernel
theorem dX11_map_41 : decode cX11_map 41 = .ok (.getfield 259, 3) := by decide +kernel
theorem dX11_map_44 : decode cX11_map 44 = .ok (.if_icmp .eq 7, 3) := by decide +kernel
theorem dX11_map_47 : decode cX11_map 47 = .ok (.sipush (-1000), 3) := by decide +kernel
theorem dX11_map_50 : decode cX11_map 50 = .ok (.ireturn, 1) := by decide +kernel
theorem dX11_map_51 : decode cX11_map 51 = .ok (.aload_n 0, 1) := by decide +kernel
theorem dX11_map_52 : decode cX11_map 52 = .ok (.getfield 61, 3) := by decide +kernel
theorem dX11_map_55 : decode cX11_map 55 = .ok (.aload_n 3, 1) := by decide +kernel
theorem dX11_map_56 : decode cX11_map 56 = .ok (.aload_n 2, 1) := by decide +kernel
theorem dX11_map_57 : decode cX11_map 57 = .ok (.getfield 125, 3) := by decide +kernel
theorem dX11_map_60 : decode cX11_map 60 = .ok (.aload_n 0, 1) := by decide +kernel
theorem dX11_map_61 : decode cX11_map 61 = .ok (.getfield 75, 3) := by decide +kernel
theorem dX11_map_64 : decode cX11_map 64 = .ok (.getfield 312, 3) := by decide +kernel
theorem dX11_map_67 : decode cX11_map 67 = .ok (.invokevirtual 315, 3) := by decide +kernel
theorem dX11_map_70 : decode cX11_map 70 = .ok (.ifCond .ne 13, 3) := by decide +kernel
theorem dX11_map_73 : decode cX11_map 73 = .ok (.iconst (-1), 1) := by decide +kernel
theorem dX11_map_74 : decode cX11_map 74 = .ok (.aload_n 0, 1) := by decide +kernel
theorem dX11_map_75 : decode cX11_map 75 = .ok (.getfield 61, 3) := by decide +kernel
theorem dX11_map_78 : decode cX11_map 78 = .ok (.getfield 133, 3) := by decide +kernel
theorem dX11_map_81 : decode cX11_map 81 = .ok (.isub, 1) := by decide +kernel
theorem dX11_map_82 : decode cX11_map 82 = .ok (.ireturn, 1) := by decide +kernel
theorem dX11_map_83 : decode cX11_map 83 = .ok (.iconst 0, 1) := by decide +kernel
theorem dX11_map_84 : decode cX11_map 84 = .ok (.istore 4, 2) := by decide +kernel
theorem dX11_map_86 : decode cX11_map 86 = .ok (.iload 4, 2) := by decide +kernel
theorem dX11_map_88 : decode cX11_map 88 = .ok (.aload_n 3, 1) := by decide +kernel
theorem dX11_map_89 : decode cX11_map 89 = .ok (.getfield 279, 3) := by decide +kernel
theorem dX11_map_92 : decode cX11_map 92 = .ok (.if_icmp .ge 27, 3) := by decide +kernel
theorem dX11_map_95 : decode cX11_map 95 = .ok (.aload_n 2, 1) := by decide +kernel
theorem dX11_map_96 : decode cX11_map 96 = .ok (.aload_n 3, 1) := by decide +kernel
theorem dX11_map_97 : decode cX11_map 97 = .ok (.getfield 166, 3) := by decide +kernel
theorem dX11_map_100 : decode cX11_map 100 = .ok (.iload 4, 2) := by decide +kernel
theorem dX11_map_102 : decode cX11_map 102 = .ok (.iaload, 1) := by decide +kernel
theorem dX11_map_103 : decode cX11_map 103 = .ok (.invokevirtual 236, 3) := by decide +kernel
theorem dX11_map_106 : decode cX11_map 106 = .ok (.ifCond .ne 7, 3) := by decide +kernel
theorem dX11_map_109 : decode cX11_map 109 = .ok (.sipush (-1001), 3) := by decide +kernel
theorem dX11_map_112 : decode cX11_map 112 = .ok (.ireturn, 1) := by decide +kernel
theorem dX11_map_113 : decode cX11_map 113 = .ok (.iinc 4 1, 3) := by decide +kernel
theorem dX11_map_116 : decode cX11_map 116 = .ok (.goto (-30), 3) := by decide +kernel
theorem dX11_map_119 : decode cX11_map 119 = .ok (.aload_n 0, 1) := by decide +kernel
theorem dX11_map_120 : decode cX11_map 120 = .ok (.getfield 75, 3) := by decide +kernel
theorem dX11_map_123 : decode cX11_map 123 = .ok (.aload_n 3, 1) := by decide +kernel
theorem dX11_map_124 : decode cX11_map 124 = .ok (.aload_n 2, 1) := by decide +kernel
theorem dX11_map_125 : decode cX11_map 125 = .ok (.aload_n 0, 1) := by decide +kernel
theorem dX11_map_126 : decode cX11_map 126 = .ok (.getfield 54, 3) := by decide +kernel
theorem dX11_map_129 : decode cX11_map 129 = .ok (.invokevirtual 319, 3) := by decide +kernel
theorem dX11_map_132 : decode cX11_map 132 = .ok (.ireturn, 1) := by decide +kernel
theorem dX11_broken_0 : decode cX11_broken 0 = .ok (.aload_n 0, 1) := by decide +kernel
theorem dX11_broken_1 : decode cX11_broken 1 = .ok (.getfield 75, 3) := by decide +kernel
theorem dX11_broken_4 : decode cX11_broken 4 = .ok (.getfield 323, 3) := by decide +kernel
theorem dX11_broken_7 : decode cX11_broken 7 = .ok (.ireturn, 1) := by decide +kernel
theorem dX11_space_0 : decode cX11_space 0 = .ok (.iload_n 1, 1) := by decide +kernel
theorem dX11_space_1 : decode cX11_space 1 = .ok (.iconst 1, 1) := by decide +kernel
theorem dX11_space_2 : decode cX11_space 2 = .ok (.if_icmp .lt 8, 3) := by decide +kernel
theorem dX11_space_5 : decode cX11_space 5 = .ok (.iload_n 1, 1) := by decide +kernel
theorem dX11_space_6 : decode cX11_space 6 = .ok (.iconst 3, 1) := by decide +kernel
theorem dX11_space_7 : decode cX11_space 7 = .ok (.if_icmp .le 5, 3) := by decide +kernel
theorem dX11_space_10 : decode cX11_space 10 = .ok (.iconst 0, 1) := by decide +kernel
theorem dX11_space_11 : decode cX11_space 11 = .ok (.ireturn, 1) := by decide +kernel
theorem dX11_space_12 : decode cX11_space 12 = .ok (.aload_n 0, 1) := by decide +kernel
theorem dX11_space_13 : decode cX11_space 13 = .ok (.getfield 26, 3) := by decide +kernel
theorem dX11_space_16 : decode cX11_space 16 = .ok (.iload_n 1, 1) := by decide +kernel
theorem dX11_space_17 : decode cX11_space 17 = .ok (.invokevirtual 142, 3) := by decide +kernel
theorem dX11_space_20 : decode cX11_space 20 = .ok (.iconst 1, 1) := by decide +kernel
theorem dX11_space_21 : decode cX11_space 21 = .ok (.ireturn, 1) := by decide +kernel
theorem dX11_table_0 : decode cX11_table 0 = .ok (.aload_n 0, 1) := by decide +kernel
theorem dX11_table_1 : decode cX11_table 1 = .ok (.invokevirtual 118, 3) := by decide +kernel
theorem dX11_table_4 : decode cX11_table 4 = .ok (.istore_n 2, 1) := by decide +kernel
theorem dX11_table_5 : decode cX11_table 5 = .ok (.aload_n 0, 1) := by decide +kernel
theorem dX11_table_6 : decode cX11_table 6 = .ok (.invokevirtual 152, 3) := by decide +kernel
theorem dX11_table_9 : decode cX11_table 9 = .ok (.astore_n 3, 1) := by decide +kernel
theorem dX11_table_10 : decode cX11_table 10 = .ok (.aload_n 3, 1) := by decide +kernel
theorem dX11_table_11 : decode cX11_table 11 = .ok (.iload_n 1, 1) := by decide +kernel
theorem dX11_table_12 : decode cX11_table 12 = .ok (.invokevirtual 156, 3) := by decide +kernel
theorem dX11_table_15 : decode cX11_table 15 = .ok (.ifCond .eq 25, 3) := by decide +kernel
theorem dX11_table_18 : decode cX11_table 18 = .ok (.iload_n 2, 1) := by decide +kernel
theorem dX11_table_19 : decode cX11_table 19 = .ok (.aload_n 0, 1) := by decide +kernel
theorem dX11_table_20 : decode cX11_table 20 = .ok (.getfield 26, 3) := by decide +kernel
theorem dX11_table_23 : decode cX11_table 23 = .ok (.getfield 326, 3) := by decide +kernel
theorem dX11_table_26 : decode cX11_table 26 = .ok (.aload_n 3, 1) := by decide +kernel
theorem dX11_table_27 : decode cX11_table 27 = .ok (.getfield 160, 3) := by decide +kernel
theorem dX11_table_30 : decode cX11_table 30 = .ok (.iload_n 1, 1) := by decide +kernel
theorem dX11_table_31 : decode cX11_table 31 = .ok (.iaload, 1) := by decide +kernel
theorem dX11_table_32 : decode cX11_table 32 = .ok (.iconst 1, 1) := by decide +kernel
theorem dX11_table_33 : decode cX11_table 33 = .ok (.iadd, 1) := by decide +kernel
theorem dX11_table_34 : decode cX11_table 34 = .ok (.invokestatic 329, 3) := by decide +kernel
theorem dX11_table_37 : decode cX11_table 37 = .ok (.if_icmp .eq 5, 3) := by decide +kernel
theorem dX11_table_40 : decode cX11_table 40 = .ok (.iconst 0, 1) := by decide +kernel
theorem dX11_table_41 : decode cX11_table 41 = .ok (.ireturn, 1) := by decide +kernel
theorem dX11_table_42 : decode cX11_table 42 = .ok (.iconst 0, 1) := by decide +kernel
theorem dX11_table_43 : decode cX11_table 43 = .ok (.istore 4, 2) := by decide +kernel
theorem dX11_table_45 : decode cX11_table 45 = .ok (.iload 4, 2) := by decide +kernel
theorem dX11_table_47 : decode cX11_table 47 = .ok (.iload_n 2, 1) := by decide +kernel
theorem dX11_table_48 : decode cX11_table 48 = .ok (.if_icmp .ge 37, 3) := by decide +kernel
theorem dX11_table_51 : decode cX11_table 51 = .ok (.aload_n 0, 1) := by decide +kernel
theorem dX11_table_52 : decode cX11_table 52 = .ok (.getfield 26, 3) := by decide +kernel
theorem dX11_table_55 : decode cX11_table 55 = .ok (.iload_n 1, 1) := by decide +kernel
theorem dX11_table_56 : decode cX11_table 56 = .ok (.iload 4, 2) := by decide +kernel
theorem dX11_table_58 : decode cX11_table 58 = .ok (.aload_n 0, 1) := by decide +kernel
theorem dX11_table_59 : decode cX11_table 59 = .ok (.getfield 9, 3) := by decide +kernel
theorem dX11_table_62 : decode cX11_table 62 = .ok (.iload 4, 2) := by decide +kernel
theorem dX11_table_64 : decode cX11_table 64 = .ok (.baload, 1) := by decide +kernel
theorem dX11_table_65 : decode cX11_table 65 = .ok (.sipush 255, 3) := by decide +kernel
theorem dX11_table_68 : decode cX11_table 68 = .ok (.iand, 1) := by decide +kernel
theorem dX11_table_69 : decode cX11_table 69 = .ok (.aload_n 3, 1) := by decide +kernel
theorem dX11_table_70 : decode cX11_table 70 = .ok (.getfield 259, 3) := by decide +kernel
theorem dX11_table_73 : decode cX11_table 73 = .ok (.invokestatic 332, 3) := by decide +kernel
theorem dX11_table_76 : decode cX11_table 76 = .ok (.invokevirtual 335, 3) := by decide +kernel
theorem dX11_table_79 : decode cX11_table 79 = .ok (.iinc 4 1, 3) := by decide +kernel
theorem dX11_table_82 : decode cX11_table 82 = .ok (.goto (-37), 3) := by decide +kernel
theorem dX11_table_85 : decode cX11_table 85 = .ok (.iconst 1, 1) := by decide +kernel
theorem dX11_table_86 : decode cX11_table 86 = .ok (.ireturn, 1) := by decide +kernel
theorem dX11_holds_0 : decode cX11_holds 0 = .ok (.aload_n 0, 1) := by decide +kernel
theorem dX11_holds_1 : decode cX11_holds 1 = .ok (.invokevirtual 152, 3) := by decide +kernel
theorem dX11_holds_4 : decode cX11_holds 4 = .ok (.astore_n 2, 1) := by decide +kernel
theorem dX11_holds_5 : decode cX11_holds 5 = .ok (.aload_n 2, 1) := by decide +kernel
theorem dX11_holds_6 : decode cX11_holds 6 = .ok (.iload_n 1, 1) := by decide +kernel
theorem dX11_holds_7 : decode cX11_holds 7 = .ok (.invokevirtual 163, 3) := by decide +kernel
theorem dX11_holds_10 : decode cX11_holds 10 = .ok (.ifCond .ne 5, 3) := by decide +kernel
theorem dX11_holds_13 : decode cX11_holds 13 = .ok (.iconst (-1), 1) := by decide +kernel
theorem dX11_holds_14 : decode cX11_holds 14 = .ok (.ireturn, 1) := by decide +kernel
theorem dX11_holds_15 : decode cX11_holds 15 = .ok (.aload_n 0, 1) := by decide +kernel
theorem dX11_holds_16 : decode cX11_holds 16 = .ok (.getfield 82, 3) := by decide +kernel
theorem dX11_holds_19 : decode cX11_holds 19 = .ok (.aload_n 2, 1) := by decide +kernel
theorem dX11_holds_20 : decode cX11_holds 20 = .ok (.iload_n 1, 1) := by decide +kernel
theorem dX11_holds_21 : decode cX11_holds 21 = .ok (.aload_n 0, 1) := by decide +kernel
theorem dX11_holds_22 : decode cX11_holds 22 = .ok (.getfield 26, 3) := by decide +kernel
theorem dX11_holds_25 : decode cX11_holds 25 = .ok (.invokevirtual 339, 3) := by decide +kernel
theorem dX11_holds_28 : decode cX11_holds 28 = .ok (.ifCond .eq 7, 3) := by decide +kernel
theorem dX11_holds_31 : decode cX11_holds 31 = .ok (.iconst 1, 1) := by decide +kernel
theorem dX11_holds_32 : decode cX11_holds 32 = .ok (.goto 4, 3) := by decide +kernel
theorem dX11_holds_35 : decode cX11_holds 35 = .ok (.iconst 0, 1) := by decide +kernel
theorem dX11_holds_36 : decode cX11_holds 36 = .ok (.ireturn, 1) := by decide +kernel
theorem dX11_done_0 : decode cX11_done 0 = .ok (.aload_n 0, 1) := by decide +kernel
theorem dX11_done_1 : decode cX11_done 1 = .ok (.invokevirtual 118, 3) := by decide +kernel
theorem dX11_done_4 : decode cX11_done 4 = .ok (.istore_n 2, 1) := by decide +kernel
theorem dX11_done_5 : decode cX11_done 5 = .ok (.iload_n 2, 1) := by decide +kernel
theorem dX11_done_6 : decode cX11_done 6 = .ok (.aload_n 0, 1) := by decide +kernel
theorem dX11_done_7 : decode cX11_done 7 = .ok (.getfield 37, 3) := by decide +kernel
theorem dX11_done_10 : decode cX11_done 10 = .ok (.getfield 212, 3) := by decide +kernel
theorem dX11_done_13 : decode cX11_done 13 = .ok (.if_icmp .ne 18, 3) := by decide +kernel
theorem dX11_done_16 : decode cX11_done 16 = .ok (.iload_n 1, 1) := by decide +kernel
theorem dX11_done_17 : decode cX11_done 17 = .ok (.ifCond .lt 14, 3) := by decide +kernel
theorem dX11_done_20 : decode cX11_done 20 = .ok (.iload_n 1, 1) := by decide +kernel
theorem dX11_done_21 : decode cX11_done 21 = .ok (.aload_n 0, 1) := by decide +kernel
theorem dX11_done_22 : decode cX11_done 22 = .ok (.getfield 26, 3) := by decide +kernel
theorem dX11_done_25 : decode cX11_done 25 = .ok (.getfield 326, 3) := by decide +kernel
theorem dX11_done_28 : decode cX11_done 28 = .ok (.if_icmp .lt 5, 3) := by decide +kernel
theorem dX11_done_31 : decode cX11_done 31 = .ok (.iconst (-1), 1) := by decide +kernel
theorem dX11_done_32 : decode cX11_done 32 = .ok (.ireturn, 1) := by decide +kernel
theorem dX11_done_33 : decode cX11_done 33 = .ok (.iconst 0, 1) := by decide +kernel
theorem dX11_done_34 : decode cX11_done 34 = .ok (.istore_n 3, 1) := by decide +kernel
theorem dX11_done_35 : decode cX11_done 35 = .ok (.iload_n 3, 1) := by decide +kernel
theorem dX11_done_36 : decode cX11_done 36 = .ok (.iload_n 2, 1) := by decide +kernel
theorem dX11_done_37 : decode cX11_done 37 = .ok (.if_icmp .ge 31, 3) := by decide +kernel
theorem dX11_done_40 : decode cX11_done 40 = .ok (.aload_n 0, 1) := by decide +kernel
theorem dX11_done_41 : decode cX11_done 41 = .ok (.getfield 9, 3) := by decide +kernel
theorem dX11_done_44 : decode cX11_done 44 = .ok (.iload_n 3, 1) := by decide +kernel
theorem dX11_done_45 : decode cX11_done 45 = .ok (.baload, 1) := by decide +kernel
theorem dX11_done_46 : decode cX11_done 46 = .ok (.sipush 255, 3) := by decide +kernel
theorem dX11_done_49 : decode cX11_done 49 = .ok (.iand, 1) := by decide +kernel
theorem dX11_done_50 : decode cX11_done 50 = .ok (.aload_n 0, 1) := by decide +kernel
theorem dX11_done_51 : decode cX11_done 51 = .ok (.getfield 26, 3) := by decide +kernel
theorem dX11_done_54 : decode cX11_done 54 = .ok (.getfield 326, 3) := by decide +kernel
theorem dX11_done_57 : decode cX11_done 57 = .ok (.if_icmp .lt 5, 3) := by decide +kernel
theorem dX11_done_60 : decode cX11_done 60 = .ok (.iconst (-1), 1) := by decide +kernel
theorem dX11_done_61 : decode cX11_done 61 = .ok (.ireturn, 1) := by decide +kernel
theorem dX11_done_62 : decode cX11_done 62 = .ok (.iinc 3 1, 3) := by decide +kernel
theorem dX11_done_65 : decode cX11_done 65 = .ok (.goto (-30), 3) := by decide +kernel
theorem dX11_done_68 : decode cX11_done 68 = .ok (.aload_n 0, 1) := by decide +kernel
theorem dX11_done_69 : decode cX11_done 69 = .ok (.getfield 82, 3) := by decide +kernel
theorem dX11_done_72 : decode cX11_done 72 = .ok (.aload_n 0, 1) := by decide +kernel
theorem dX11_done_73 : decode cX11_done 73 = .ok (.invokevirtual 152, 3) := by decide +kernel
theorem dX11_done_76 : decode cX11_done 76 = .ok (.aload_n 0, 1) := by decide +kernel
theorem dX11_done_77 : decode cX11_done 77 = .ok (.getfield 37, 3) := by decide +kernel
theorem dX11_done_80 : decode cX11_done 80 = .ok (.aload_n 0, 1) := by decide +kernel
theorem dX11_done_81 : decode cX11_done 81 = .ok (.getfield 26, 3) := by decide +kernel
theorem dX11_done_84 : decode cX11_done 84 = .ok (.aload_n 0, 1) := by decide +kernel
theorem dX11_done_85 : decode cX11_done 85 = .ok (.getfield 9, 3) := by decide +kernel
theorem dX11_done_88 : decode cX11_done 88 = .ok (.iload_n 1, 1) := by decide +kernel
theorem dX11_done_89 : decode cX11_done 89 = .ok (.invokevirtual 343, 3) := by decide +kernel
theorem dX11_done_92 : decode cX11_done 92 = .ok (.ireturn, 1) := by decide +kernel
theorem dX11_drawn_0 : decode cX11_drawn 0 = .ok (.aload_n 0, 1) := by decide +kernel
theorem dX11_drawn_1 : decode cX11_drawn 1 = .ok (.invokevirtual 232, 3) := by decide +kernel
theorem dX11_drawn_4 : decode cX11_drawn 4 = .ok (.astore_n 3, 1) := by decide +kernel
theorem dX11_drawn_5 : decode cX11_drawn 5 = .ok (.aload_n 3, 1) := by decide +kernel
theorem dX11_drawn_6 : decode cX11_drawn 6 = .ok (.iload_n 1, 1) := by decide +kernel
theorem dX11_drawn_7 : decode cX11_drawn 7 = .ok (.invokevirtual 236, 3) := by decide +kernel
theorem dX11_drawn_10 : decode cX11_drawn 10 = .ok (.ifCond .ne 5, 3) := by decide +kernel
theorem dX11_drawn_13 : decode cX11_drawn 13 = .ok (.iconst (-1), 1) := by decide +kernel
theorem dX11_drawn_14 : decode cX11_drawn 14 = .ok (.ireturn, 1) := by decide +kernel
theorem dX11_drawn_15 : decode cX11_drawn 15 = .ok (.aload_n 3, 1) := by decide +kernel
theorem dX11_drawn_16 : decode cX11_drawn 16 = .ok (.iload_n 1, 1) := by decide +kernel
theorem dX11_drawn_17 : decode cX11_drawn 17 = .ok (.invokevirtual 347, 3) := by decide +kernel
theorem dX11_drawn_20 : decode cX11_drawn 20 = .ok (.istore 4, 2) := by decide +kernel
theorem dX11_drawn_22 : decode cX11_drawn 22 = .ok (.iload 4, 2) := by decide +kernel
theorem dX11_drawn_24 : decode cX11_drawn 24 = .ok (.iconst 1, 1) := by decide +kernel
theorem dX11_drawn_25 : decode cX11_drawn 25 = .ok (.if_icmp .ge 5, 3) := by decide +kernel
theorem dX11_drawn_28 : decode cX11_drawn 28 = .ok (.iconst (-1), 1) := by decide +kernel
theorem dX11_drawn_29 : decode cX11_drawn 29 = .ok (.ireturn, 1) := by decide +kernel
theorem dX11_drawn_30 : decode cX11_drawn 30 = .ok (.iload_n 2, 1) := by decide +kernel
theorem dX11_drawn_31 : decode cX11_drawn 31 = .ok (.ldc_w 350, 3) := by decide +kernel
theorem dX11_drawn_34 : decode cX11_drawn 34 = .ok (.imul, 1) := by decide +kernel
theorem dX11_drawn_35 : decode cX11_drawn 35 = .ok (.sipush 12345, 3) := by decide +kernel
theorem dX11_drawn_38 : decode cX11_drawn 38 = .ok (.iadd, 1) := by decide +kernel
theorem dX11_drawn_39 : decode cX11_drawn 39 = .ok (.istore 5, 2) := by decide +kernel
theorem dX11_drawn_41 : decode cX11_drawn 41 = .ok (.aload_n 0, 1) := by decide +kernel
theorem dX11_drawn_42 : decode cX11_drawn 42 = .ok (.getfield 48, 3) := by decide +kernel
theorem dX11_drawn_45 : decode cX11_drawn 45 = .ok (.iload_n 1, 1) := by decide +kernel
theorem dX11_drawn_46 : decode cX11_drawn 46 = .ok (.invokevirtual 145, 3) := by decide +kernel
theorem dX11_drawn_49 : decode cX11_drawn 49 = .ok (.aload_n 0, 1) := by decide +kernel
theorem dX11_drawn_50 : decode cX11_drawn 50 = .ok (.getfield 48, 3) := by decide +kernel
theorem dX11_drawn_53 : decode cX11_drawn 53 = .ok (.aload_n 3, 1) := by decide +kernel
theorem dX11_drawn_54 : decode cX11_drawn 54 = .ok (.iload_n 1, 1) := by decide +kernel
theorem dX11_drawn_55 : decode cX11_drawn 55 = .ok (.iload 5, 2) := by decide +kernel
theorem dX11_drawn_57 : decode cX11_drawn 57 = .ok (.bipush 8, 2) := by decide +kernel
theorem dX11_drawn_59 : decode cX11_drawn 59 = .ok (.iushr, 1) := by decide +kernel
theorem dX11_drawn_60 : decode cX11_drawn 60 = .ok (.iload 4, 2) := by decide +kernel
theorem dX11_drawn_62 : decode cX11_drawn 62 = .ok (.irem, 1) := by decide +kernel
theorem dX11_drawn_63 : decode cX11_drawn 63 = .ok (.invokevirtual 248, 3) := by decide +kernel
theorem dX11_drawn_66 : decode cX11_drawn 66 = .ok (.iconst 1, 1) := by decide +kernel
theorem dX11_drawn_67 : decode cX11_drawn 67 = .ok (.aload_n 3, 1) := by decide +kernel
theorem dX11_drawn_68 : decode cX11_drawn 68 = .ok (.getfield 125, 3) := by decide +kernel
theorem dX11_drawn_71 : decode cX11_drawn 71 = .ok (.getfield 259, 3) := by decide +kernel
theorem dX11_drawn_74 : decode cX11_drawn 74 = .ok (.invokevirtual 351, 3) := by decide +kernel
theorem dX11_drawn_77 : decode cX11_drawn 77 = .ok (.aload_n 0, 1) := by decide +kernel
theorem dX11_drawn_78 : decode cX11_drawn 78 = .ok (.invokevirtual 176, 3) := by decide +kernel
theorem dX11_drawn_81 : decode cX11_drawn 81 = .ok (.ireturn, 1) := by decide +kernel
theorem dX11_image_0 : decode cX11_image 0 = .ok (.iload_n 1, 1) := by decide +kernel
theorem dX11_image_1 : decode cX11_image 1 = .ok (.ifCond .lt 8, 3) := by decide +kernel
theorem dX11_image_4 : decode cX11_image 4 = .ok (.iload_n 1, 1) := by decide +kernel
theorem dX11_image_5 : decode cX11_image 5 = .ok (.iconst 2, 1) := by decide +kernel
theorem dX11_image_6 : decode cX11_image 6 = .ok (.if_icmp .lt 5, 3) := by decide +kernel
theorem dX11_image_9 : decode cX11_image 9 = .ok (.iconst 0, 1) := by decide +kernel
theorem dX11_image_10 : decode cX11_image 10 = .ok (.ireturn, 1) := by decide +kernel
theorem dX11_image_11 : decode cX11_image 11 = .ok (.aload_n 0, 1) := by decide +kernel
theorem dX11_image_12 : decode cX11_image 12 = .ok (.getfield 19, 3) := by decide +kernel
theorem dX11_image_15 : decode cX11_image 15 = .ok (.iload_n 1, 1) := by decide +kernel
theorem dX11_image_16 : decode cX11_image 16 = .ok (.aload_n 0, 1) := by decide +kernel
theorem dX11_image_17 : decode cX11_image 17 = .ok (.getfield 139, 3) := by decide +kernel
theorem dX11_image_20 : decode cX11_image 20 = .ok (.iastore, 1) := by decide +kernel
theorem dX11_image_21 : decode cX11_image 21 = .ok (.aload_n 0, 1) := by decide +kernel
theorem dX11_image_22 : decode cX11_image 22 = .ok (.getfield 30, 3) := by decide +kernel
theorem dX11_image_25 : decode cX11_image 25 = .ok (.iload_n 1, 1) := by decide +kernel
theorem dX11_image_26 : decode cX11_image 26 = .ok (.aaload, 1) := by decide +kernel
theorem dX11_image_27 : decode cX11_image 27 = .ok (.aload_n 0, 1) := by decide +kernel
theorem dX11_image_28 : decode cX11_image 28 = .ok (.getfield 26, 3) := by decide +kernel
theorem dX11_image_31 : decode cX11_image 31 = .ok (.invokevirtual 354, 3) := by decide +kernel
theorem dX11_image_34 : decode cX11_image 34 = .ok (.aload_n 0, 1) := by decide +kernel
theorem dX11_image_35 : decode cX11_image 35 = .ok (.getfield 41, 3) := by decide +kernel
theorem dX11_image_38 : decode cX11_image 38 = .ok (.iload_n 1, 1) := by decide +kernel
theorem dX11_image_39 : decode cX11_image 39 = .ok (.aaload, 1) := by decide +kernel
theorem dX11_image_40 : decode cX11_image 40 = .ok (.aload_n 0, 1) := by decide +kernel
theorem dX11_image_41 : decode cX11_image 41 = .ok (.getfield 37, 3) := by decide +kernel
theorem dX11_image_44 : decode cX11_image 44 = .ok (.invokevirtual 182, 3) := by decide +kernel
theorem dX11_image_47 : decode cX11_image 47 = .ok (.iconst 1, 1) := by decide +kernel
theorem dX11_image_48 : decode cX11_image 48 = .ok (.ireturn, 1) := by decide +kernel
theorem dX11_restore_0 : decode cX11_restore 0 = .ok (.aload_n 0, 1) := by decide +kernel
theorem dX11_restore_1 : decode cX11_restore 1 = .ok (.iload_n 1, 1) := by decide +kernel
theorem dX11_restore_2 : decode cX11_restore 2 = .ok (.invokevirtual 304, 3) := by decide +kernel
theorem dX11_restore_5 : decode cX11_restore 5 = .ok (.ifnonnull 5, 3) := by decide +kernel
theorem dX11_restore_8 : decode cX11_restore 8 = .ok (.iconst 0, 1) := by decide +kernel
theorem dX11_restore_9 : decode cX11_restore 9 = .ok (.ireturn, 1) := by decide +kernel
theorem dX11_restore_10 : decode cX11_restore 10 = .ok (.aload_n 0, 1) := by decide +kernel
theorem dX11_restore_11 : decode cX11_restore 11 = .ok (.aload_n 0, 1) := by decide +kernel
theorem dX11_restore_12 : decode cX11_restore 12 = .ok (.getfield 19, 3) := by decide +kernel
theorem dX11_restore_15 : decode cX11_restore 15 = .ok (.iload_n 1, 1) := by decide +kernel
theorem dX11_restore_16 : decode cX11_restore 16 = .ok (.iaload, 1) := by decide +kernel
theorem dX11_restore_17 : decode cX11_restore 17 = .ok (.putfield 139, 3) := by decide +kernel
theorem dX11_restore_20 : decode cX11_restore 20 = .ok (.aload_n 0, 1) := by decide +kernel
theorem dX11_restore_21 : decode cX11_restore 21 = .ok (.getfield 26, 3) := by decide +kernel
theorem dX11_restore_24 : decode cX11_restore 24 = .ok (.aload_n 0, 1) := by decide +kernel
theorem dX11_restore_25 : decode cX11_restore 25 = .ok (.getfield 30, 3) := by decide +kernel
theorem dX11_restore_28 : decode cX11_restore 28 = .ok (.iload_n 1, 1) := by decide +kernel
theorem dX11_restore_29 : decode cX11_restore 29 = .ok (.aaload, 1) := by decide +kernel
theorem dX11_restore_30 : decode cX11_restore 30 = .ok (.invokevirtual 354, 3) := by decide +kernel
theorem dX11_restore_33 : decode cX11_restore 33 = .ok (.aload_n 0, 1) := by decide +kernel
theorem dX11_restore_34 : decode cX11_restore 34 = .ok (.getfield 37, 3) := by decide +kernel
theorem dX11_restore_37 : decode cX11_restore 37 = .ok (.aload_n 0, 1) := by decide +kernel
theorem dX11_restore_38 : decode cX11_restore 38 = .ok (.getfield 41, 3) := by decide +kernel
theorem dX11_restore_41 : decode cX11_restore 41 = .ok (.iload_n 1, 1) := by decide +kernel
theorem dX11_restore_42 : decode cX11_restore 42 = .ok (.aaload, 1) := by decide +kernel
theorem dX11_restore_43 : decode cX11_restore 43 = .ok (.invokevirtual 182, 3) := by decide +kernel
theorem dX11_restore_46 : decode cX11_restore 46 = .ok (.aload_n 0, 1) := by decide +kernel
theorem dX11_restore_47 : decode cX11_restore 47 = .ok (.iconst 0, 1) := by decide +kernel
theorem dX11_restore_48 : decode cX11_restore 48 = .ok (.putfield 146, 3) := by decide +kernel
theorem dX11_restore_51 : decode cX11_restore 51 = .ok (.iconst 1, 1) := by decide +kernel
theorem dX11_restore_52 : decode cX11_restore 52 = .ok (.ireturn, 1) := by decide +kernel
theorem dX11_count_0 : decode cX11_count 0 = .ok (.iload_n 1, 1) := by decide +kernel
theorem dX11_count_1 : decode cX11_count 1 = .ok (.tableswitch 84 0 5 #[39, 47, 55, 63, 71, 79], 39) := by decide +kernel
theorem dX11_count_40 : decode cX11_count 40 = .ok (.aload_n 0, 1) := by decide +kernel
theorem dX11_count_41 : decode cX11_count 41 = .ok (.invokevirtual 152, 3) := by decide +kernel
theorem dX11_count_44 : decode cX11_count 44 = .ok (.getfield 259, 3) := by decide +kernel
theorem dX11_count_47 : decode cX11_count 47 = .ok (.ireturn, 1) := by decide +kernel
theorem dX11_count_48 : decode cX11_count 48 = .ok (.aload_n 0, 1) := by decide +kernel
theorem dX11_count_49 : decode cX11_count 49 = .ok (.invokevirtual 152, 3) := by decide +kernel
theorem dX11_count_52 : decode cX11_count 52 = .ok (.getfield 357, 3) := by decide +kernel
theorem dX11_count_55 : decode cX11_count 55 = .ok (.ireturn, 1) := by decide +kernel
theorem dX11_count_56 : decode cX11_count 56 = .ok (.aload_n 0, 1) := by decide +kernel
theorem dX11_count_57 : decode cX11_count 57 = .ok (.invokevirtual 152, 3) := by decide +kernel
theorem dX11_count_60 : decode cX11_count 60 = .ok (.getfield 279, 3) := by decide +kernel
theorem dX11_count_63 : decode cX11_count 63 = .ok (.ireturn, 1) := by decide +kernel
theorem dX11_count_64 : decode cX11_count 64 = .ok (.aload_n 0, 1) := by decide +kernel
theorem dX11_count_65 : decode cX11_count 65 = .ok (.getfield 37, 3) := by decide +kernel
theorem dX11_count_68 : decode cX11_count 68 = .ok (.getfield 192, 3) := by decide +kernel
theorem dX11_count_71 : decode cX11_count 71 = .ok (.ireturn, 1) := by decide +kernel
theorem dX11_count_72 : decode cX11_count 72 = .ok (.aload_n 0, 1) := by decide +kernel
theorem dX11_count_73 : decode cX11_count 73 = .ok (.getfield 26, 3) := by decide +kernel
theorem dX11_count_76 : decode cX11_count 76 = .ok (.getfield 326, 3) := by decide +kernel
theorem dX11_count_79 : decode cX11_count 79 = .ok (.ireturn, 1) := by decide +kernel
theorem dX11_count_80 : decode cX11_count 80 = .ok (.aload_n 0, 1) := by decide +kernel
theorem dX11_count_81 : decode cX11_count 81 = .ok (.getfield 106, 3) := by decide +kernel
theorem dX11_count_84 : decode cX11_count 84 = .ok (.ireturn, 1) := by decide +kernel
theorem dX11_count_85 : decode cX11_count 85 = .ok (.iconst (-1), 1) := by decide +kernel
theorem dX11_count_86 : decode cX11_count 86 = .ok (.ireturn, 1) := by decide +kernel
theorem dX11_rest_0 : decode cX11_rest 0 = .ok (.iload_n 1, 1) := by decide +kernel
theorem dX11_rest_1 : decode cX11_rest 1 = .ok (.iconst 2, 1) := by decide +kernel
theorem dX11_rest_2 : decode cX11_rest 2 = .ok (.if_icmp .ge 5, 3) := by decide +kernel
theorem dX11_rest_5 : decode cX11_rest 5 = .ok (.iconst 0, 1) := by decide +kernel
theorem dX11_rest_6 : decode cX11_rest 6 = .ok (.ireturn, 1) := by decide +kernel
theorem dX11_rest_7 : decode cX11_rest 7 = .ok (.iload_n 0, 1) := by decide +kernel
theorem dX11_rest_8 : decode cX11_rest 8 = .ok (.iload_n 1, 1) := by decide +kernel
theorem dX11_rest_9 : decode cX11_rest 9 = .ok (.irem, 1) := by decide +kernel
theorem dX11_rest_10 : decode cX11_rest 10 = .ok (.istore_n 2, 1) := by decide +kernel
theorem dX11_rest_11 : decode cX11_rest 11 = .ok (.iload_n 2, 1) := by decide +kernel
theorem dX11_rest_12 : decode cX11_rest 12 = .ok (.ifCond .ge 9, 3) := by decide +kernel
theorem dX11_rest_15 : decode cX11_rest 15 = .ok (.iload_n 2, 1) := by decide +kernel
theorem dX11_rest_16 : decode cX11_rest 16 = .ok (.iload_n 1, 1) := by decide +kernel
theorem dX11_rest_17 : decode cX11_rest 17 = .ok (.iadd, 1) := by decide +kernel
theorem dX11_rest_18 : decode cX11_rest 18 = .ok (.goto 4, 3) := by decide +kernel
theorem dX11_rest_21 : decode cX11_rest 21 = .ok (.iload_n 2, 1) := by decide +kernel
theorem dX11_rest_22 : decode cX11_rest 22 = .ok (.ireturn, 1) := by decide +kernel
theorem dX11_inverseOf_0 : decode cX11_inverseOf 0 = .ok (.iconst 1, 1) := by decide +kernel
theorem dX11_inverseOf_1 : decode cX11_inverseOf 1 = .ok (.istore_n 2, 1) := by decide +kernel
theorem dX11_inverseOf_2 : decode cX11_inverseOf 2 = .ok (.iload_n 2, 1) := by decide +kernel
theorem dX11_inverseOf_3 : decode cX11_inverseOf 3 = .ok (.iload_n 1, 1) := by decide +kernel
theorem dX11_inverseOf_4 : decode cX11_inverseOf 4 = .ok (.if_icmp .ge 22, 3) := by decide +kernel
theorem dX11_inverseOf_7 : decode cX11_inverseOf 7 = .ok (.iload_n 2, 1) := by decide +kernel
theorem dX11_inverseOf_8 : decode cX11_inverseOf 8 = .ok (.iload_n 0, 1) := by decide +kernel
theorem dX11_inverseOf_9 : decode cX11_inverseOf 9 = .ok (.imul, 1) := by decide +kernel
theorem dX11_inverseOf_10 : decode cX11_inverseOf 10 = .ok (.iload_n 1, 1) := by decide +kernel
theorem dX11_inverseOf_11 : decode cX11_inverseOf 11 = .ok (.invokestatic 332, 3) := by decide +kernel
theorem dX11_inverseOf_14 : decode cX11_inverseOf 14 = .ok (.iconst 1, 1) := by decide +kernel
theorem dX11_inverseOf_15 : decode cX11_inverseOf 15 = .ok (.if_icmp .ne 5, 3) := by decide +kernel
theorem dX11_inverseOf_18 : decode cX11_inverseOf 18 = .ok (.iload_n 2, 1) := by decide +kernel
theorem dX11_inverseOf_19 : decode cX11_inverseOf 19 = .ok (.ireturn, 1) := by decide +kernel
theorem dX11_inverseOf_20 : decode cX11_inverseOf 20 = .ok (.iinc 2 1, 3) := by decide +kernel
theorem dX11_inverseOf_23 : decode cX11_inverseOf 23 = .ok (.goto (-21), 3) := by decide +kernel
theorem dX11_inverseOf_26 : decode cX11_inverseOf 26 = .ok (.iconst 0, 1) := by decide +kernel
theorem dX11_inverseOf_27 : decode cX11_inverseOf 27 = .ok (.ireturn, 1) := by decide +kernel
theorem dX11_power_0 : decode cX11_power 0 = .ok (.iconst 1, 1) := by decide +kernel
theorem dX11_power_1 : decode cX11_power 1 = .ok (.istore_n 2, 1) := by decide +kernel
theorem dX11_power_2 : decode cX11_power 2 = .ok (.iconst 0, 1) := by decide +kernel
theorem dX11_power_3 : decode cX11_power 3 = .ok (.istore_n 3, 1) := by decide +kernel
theorem dX11_power_4 : decode cX11_power 4 = .ok (.iload_n 3, 1) := by decide +kernel
theorem dX11_power_5 : decode cX11_power 5 = .ok (.iload_n 1, 1) := by decide +kernel
theorem dX11_power_6 : decode cX11_power 6 = .ok (.if_icmp .ge 13, 3) := by decide +kernel
theorem dX11_power_9 : decode cX11_power 9 = .ok (.iload_n 2, 1) := by decide +kernel
theorem dX11_power_10 : decode cX11_power 10 = .ok (.iload_n 0, 1) := by decide +kernel
theorem dX11_power_11 : decode cX11_power 11 = .ok (.imul, 1) := by decide +kernel
theorem dX11_power_12 : decode cX11_power 12 = .ok (.istore_n 2, 1) := by decide +kernel
theorem dX11_power_13 : decode cX11_power 13 = .ok (.iinc 3 1, 3) := by decide +kernel
theorem dX11_power_16 : decode cX11_power 16 = .ok (.goto (-12), 3) := by decide +kernel
theorem dX11_power_19 : decode cX11_power 19 = .ok (.iload_n 2, 1) := by decide +kernel
theorem dX11_power_20 : decode cX11_power 20 = .ok (.ireturn, 1) := by decide +kernel
