theorem dX12_thrown_0 : decode cX12_thrown 0 = .ok (.aload_n 0, 1) := by decide +kernel
theorem dX12_thrown_1 : decode cX12_thrown 1 = .ok (.getfield 1, 3) := by decide +kernel
theorem dX12_thrown_4 : decode cX12_thrown 4 = .ok (.ireturn, 1) := by decide +kernel
theorem dX12_throwsIf_0 : decode cX12_throwsIf 0 = .ok (.aload_n 0, 1) := by decide +kernel
theorem dX12_throwsIf_1 : decode cX12_throwsIf 1 = .ok (.iload_n 1, 1) := by decide +kernel
theorem dX12_throwsIf_2 : decode cX12_throwsIf 2 = .ok (.ifCond .eq 7, 3) := by decide +kernel
theorem dX12_throwsIf_5 : decode cX12_throwsIf 5 = .ok (.iconst 1, 1) := by decide +kernel
theorem dX12_throwsIf_6 : decode cX12_throwsIf 6 = .ok (.goto 4, 3) := by decide +kernel
theorem dX12_throwsIf_9 : decode cX12_throwsIf 9 = .ok (.iconst 0, 1) := by decide +kernel
theorem dX12_throwsIf_10 : decode cX12_throwsIf 10 = .ok (.putfield 1, 3) := by decide +kernel
theorem dX12_throwsIf_13 : decode cX12_throwsIf 13 = .ok (.iload_n 1, 1) := by decide +kernel
theorem dX12_throwsIf_14 : decode cX12_throwsIf 14 = .ok (.ireturn, 1) := by decide +kernel
theorem dX12_feed_0 : decode cX12_feed 0 = .ok (.aload_n 0, 1) := by decide +kernel
theorem dX12_feed_1 : decode cX12_feed 1 = .ok (.iconst 0, 1) := by decide +kernel
theorem dX12_feed_2 : decode cX12_feed 2 = .ok (.putfield 1, 3) := by decide +kernel
theorem dX12_feed_5 : decode cX12_feed 5 = .ok (.aload_n 0, 1) := by decide +kernel
theorem dX12_feed_6 : decode cX12_feed 6 = .ok (.getfield 7, 3) := by decide +kernel
theorem dX12_feed_9 : decode cX12_feed 9 = .ok (.bipush 20, 2) := by decide +kernel
theorem dX12_feed_11 : decode cX12_feed 11 = .ok (.iadd, 1) := by decide +kernel
theorem dX12_feed_12 : decode cX12_feed 12 = .ok (.sipush 940, 3) := by decide +kernel
theorem dX12_feed_15 : decode cX12_feed 15 = .ok (.if_icmp .le 5, 3) := by decide +kernel
theorem dX12_feed_18 : decode cX12_feed 18 = .ok (.iconst (-1), 1) := by decide +kernel
theorem dX12_feed_19 : decode cX12_feed 19 = .ok (.ireturn, 1) := by decide +kernel
theorem dX12_feed_20 : decode cX12_feed 20 = .ok (.aload_n 0, 1) := by decide +kernel
theorem dX12_feed_21 : decode cX12_feed 21 = .ok (.iload_n 1, 1) := by decide +kernel
theorem dX12_feed_22 : decode cX12_feed 22 = .ok (.invokevirtual 10, 3) := by decide +kernel
theorem dX12_feed_25 : decode cX12_feed 25 = .ok (.aload_n 0, 1) := by decide +kernel
theorem dX12_feed_26 : decode cX12_feed 26 = .ok (.iload_n 2, 1) := by decide +kernel
theorem dX12_feed_27 : decode cX12_feed 27 = .ok (.invokevirtual 10, 3) := by decide +kernel
theorem dX12_feed_30 : decode cX12_feed 30 = .ok (.aload_n 0, 1) := by decide +kernel
theorem dX12_feed_31 : decode cX12_feed 31 = .ok (.iload_n 3, 1) := by decide +kernel
theorem dX12_feed_32 : decode cX12_feed 32 = .ok (.invokevirtual 10, 3) := by decide +kernel
theorem dX12_feed_35 : decode cX12_feed 35 = .ok (.aload_n 0, 1) := by decide +kernel
theorem dX12_feed_36 : decode cX12_feed 36 = .ok (.iload 4, 2) := by decide +kernel
theorem dX12_feed_38 : decode cX12_feed 38 = .ok (.invokevirtual 10, 3) := by decide +kernel
theorem dX12_feed_41 : decode cX12_feed 41 = .ok (.aload_n 0, 1) := by decide +kernel
theorem dX12_feed_42 : decode cX12_feed 42 = .ok (.iload 5, 2) := by decide +kernel
theorem dX12_feed_44 : decode cX12_feed 44 = .ok (.invokevirtual 10, 3) := by decide +kernel
theorem dX12_feed_47 : decode cX12_feed 47 = .ok (.aload_n 0, 1) := by decide +kernel
theorem dX12_feed_48 : decode cX12_feed 48 = .ok (.getfield 7, 3) := by decide +kernel
theorem dX12_feed_51 : decode cX12_feed 51 = .ok (.ireturn, 1) := by decide +kernel
theorem dX12_four_0 : decode cX12_four 0 = .ok (.bipush 24, 2) := by decide +kernel
theorem dX12_four_2 : decode cX12_four 2 = .ok (.istore_n 2, 1) := by decide +kernel
theorem dX12_four_3 : decode cX12_four 3 = .ok (.iload_n 2, 1) := by decide +kernel
theorem dX12_four_4 : decode cX12_four 4 = .ok (.ifCond .lt 32, 3) := by decide +kernel
theorem dX12_four_7 : decode cX12_four 7 = .ok (.aload_n 0, 1) := by decide +kernel
theorem dX12_four_8 : decode cX12_four 8 = .ok (.getfield 14, 3) := by decide +kernel
theorem dX12_four_11 : decode cX12_four 11 = .ok (.aload_n 0, 1) := by decide +kernel
theorem dX12_four_12 : decode cX12_four 12 = .ok (.getfield 7, 3) := by decide +kernel
theorem dX12_four_15 : decode cX12_four 15 = .ok (.iload_n 1, 1) := by decide +kernel
theorem dX12_four_16 : decode cX12_four 16 = .ok (.iload_n 2, 1) := by decide +kernel
theorem dX12_four_17 : decode cX12_four 17 = .ok (.ishr, 1) := by decide +kernel
theorem dX12_four_18 : decode cX12_four 18 = .ok (.i2b, 1) := by decide +kernel
theorem dX12_four_19 : decode cX12_four 19 = .ok (.bastore, 1) := by decide +kernel
theorem dX12_four_20 : decode cX12_four 20 = .ok (.aload_n 0, 1) := by decide +kernel
theorem dX12_four_21 : decode cX12_four 21 = .ok (.dup, 1) := by decide +kernel
theorem dX12_four_22 : decode cX12_four 22 = .ok (.getfield 7, 3) := by decide +kernel
theorem dX12_four_25 : decode cX12_four 25 = .ok (.iconst 1, 1) := by decide +kernel
theorem dX12_four_26 : decode cX12_four 26 = .ok (.iadd, 1) := by decide +kernel
theorem dX12_four_27 : decode cX12_four 27 = .ok (.putfield 7, 3) := by decide +kernel
theorem dX12_four_30 : decode cX12_four 30 = .ok (.iinc 2 (-8), 3) := by decide +kernel
theorem dX12_four_33 : decode cX12_four 33 = .ok (.goto (-30), 3) := by decide +kernel
theorem dX12_four_36 : decode cX12_four 36 = .ok (.return_, 1) := by decide +kernel
theorem dX12_end_0 : decode cX12_end 0 = .ok (.aload_n 0, 1) := by decide +kernel
theorem dX12_end_1 : decode cX12_end 1 = .ok (.iconst 0, 1) := by decide +kernel
theorem dX12_end_2 : decode cX12_end 2 = .ok (.putfield 1, 3) := by decide +kernel
theorem dX12_end_5 : decode cX12_end 5 = .ok (.iload_n 1, 1) := by decide +kernel
theorem dX12_end_6 : decode cX12_end 6 = .ok (.ifCond .lt 11, 3) := by decide +kernel
theorem dX12_end_9 : decode cX12_end 9 = .ok (.iload_n 1, 1) := by decide +kernel
theorem dX12_end_10 : decode cX12_end 10 = .ok (.aload_n 0, 1) := by decide +kernel
theorem dX12_end_11 : decode cX12_end 11 = .ok (.getfield 7, 3) := by decide +kernel
theorem dX12_end_14 : decode cX12_end 14 = .ok (.if_icmp .le 5, 3) := by decide +kernel
theorem dX12_end_17 : decode cX12_end 17 = .ok (.iconst 0, 1) := by decide +kernel
theorem dX12_end_18 : decode cX12_end 18 = .ok (.ireturn, 1) := by decide +kernel
theorem dX12_end_19 : decode cX12_end 19 = .ok (.aload_n 0, 1) := by decide +kernel
theorem dX12_end_20 : decode cX12_end 20 = .ok (.iload_n 1, 1) := by decide +kernel
theorem dX12_end_21 : decode cX12_end 21 = .ok (.putfield 7, 3) := by decide +kernel
theorem dX12_end_24 : decode cX12_end 24 = .ok (.iconst 1, 1) := by decide +kernel
theorem dX12_end_25 : decode cX12_end 25 = .ok (.ireturn, 1) := by decide +kernel
theorem dX12_taken_0 : decode cX12_taken 0 = .ok (.aload_n 0, 1) := by decide +kernel
theorem dX12_taken_1 : decode cX12_taken 1 = .ok (.aload_n 0, 1) := by decide +kernel
theorem dX12_taken_2 : decode cX12_taken 2 = .ok (.getfield 7, 3) := by decide +kernel
theorem dX12_taken_5 : decode cX12_taken 5 = .ok (.putfield 18, 3) := by decide +kernel
theorem dX12_taken_8 : decode cX12_taken 8 = .ok (.aload_n 0, 1) := by decide +kernel
theorem dX12_taken_9 : decode cX12_taken 9 = .ok (.iconst 0, 1) := by decide +kernel
theorem dX12_taken_10 : decode cX12_taken 10 = .ok (.putfield 7, 3) := by decide +kernel
theorem dX12_taken_13 : decode cX12_taken 13 = .ok (.aload_n 0, 1) := by decide +kernel
theorem dX12_taken_14 : decode cX12_taken 14 = .ok (.iconst 0, 1) := by decide +kernel
theorem dX12_taken_15 : decode cX12_taken 15 = .ok (.putfield 21, 3) := by decide +kernel
theorem dX12_taken_18 : decode cX12_taken 18 = .ok (.aload_n 0, 1) := by decide +kernel
theorem dX12_taken_19 : decode cX12_taken 19 = .ok (.iload_n 1, 1) := by decide +kernel
theorem dX12_taken_20 : decode cX12_taken 20 = .ok (.putfield 24, 3) := by decide +kernel
theorem dX12_taken_23 : decode cX12_taken 23 = .ok (.return_, 1) := by decide +kernel
theorem dX12_isIn_0 : decode cX12_isIn 0 = .ok (.iload_n 0, 1) := by decide +kernel
theorem dX12_isIn_1 : decode cX12_isIn 1 = .ok (.iload_n 1, 1) := by decide +kernel
theorem dX12_isIn_2 : decode cX12_isIn 2 = .ok (.if_icmp .lt 12, 3) := by decide +kernel
theorem dX12_isIn_5 : decode cX12_isIn 5 = .ok (.iload_n 0, 1) := by decide +kernel
theorem dX12_isIn_6 : decode cX12_isIn 6 = .ok (.iload_n 2, 1) := by decide +kernel
theorem dX12_isIn_7 : decode cX12_isIn 7 = .ok (.if_icmp .gt 7, 3) := by decide +kernel
theorem dX12_isIn_10 : decode cX12_isIn 10 = .ok (.iconst 1, 1) := by decide +kernel
theorem dX12_isIn_11 : decode cX12_isIn 11 = .ok (.goto 4, 3) := by decide +kernel
theorem dX12_isIn_14 : decode cX12_isIn 14 = .ok (.iconst 0, 1) := by decide +kernel
theorem dX12_isIn_15 : decode cX12_isIn 15 = .ok (.ireturn, 1) := by decide +kernel
theorem dX12_octet_0 : decode cX12_octet 0 = .ok (.aload_n 0, 1) := by decide +kernel
theorem dX12_octet_1 : decode cX12_octet 1 = .ok (.getfield 14, 3) := by decide +kernel
theorem dX12_octet_4 : decode cX12_octet 4 = .ok (.iload_n 1, 1) := by decide +kernel
theorem dX12_octet_5 : decode cX12_octet 5 = .ok (.baload, 1) := by decide +kernel
theorem dX12_octet_6 : decode cX12_octet 6 = .ok (.sipush 255, 3) := by decide +kernel
theorem dX12_octet_9 : decode cX12_octet 9 = .ok (.iand, 1) := by decide +kernel
theorem dX12_octet_10 : decode cX12_octet 10 = .ok (.ireturn, 1) := by decide +kernel
theorem dX12_init_0 : decode cX12_init 0 = .ok (.aload_n 0, 1) := by decide +kernel
theorem dX12_init_1 : decode cX12_init 1 = .ok (.invokespecial 27, 3) := by decide +kernel
theorem dX12_init_4 : decode cX12_init 4 = .ok (.aload_n 0, 1) := by decide +kernel
theorem dX12_init_5 : decode cX12_init 5 = .ok (.sipush 940, 3) := by decide +kernel
theorem dX12_init_8 : decode cX12_init 8 = .ok (.newarray .byte, 2) := by decide +kernel
theorem dX12_init_10 : decode cX12_init 10 = .ok (.putfield 14, 3) := by decide +kernel
theorem dX12_init_13 : decode cX12_init 13 = .ok (.aload_n 0, 1) := by decide +kernel
theorem dX12_init_14 : decode cX12_init 14 = .ok (.sipush 3775, 3) := by decide +kernel
theorem dX12_init_17 : decode cX12_init 17 = .ok (.newarray .int, 2) := by decide +kernel
theorem dX12_init_19 : decode cX12_init 19 = .ok (.putfield 33, 3) := by decide +kernel
theorem dX12_init_22 : decode cX12_init 22 = .ok (.aload_n 0, 1) := by decide +kernel
theorem dX12_init_23 : decode cX12_init 23 = .ok (.sipush 1173, 3) := by decide +kernel
theorem dX12_init_26 : decode cX12_init 26 = .ok (.newarray .int, 2) := by decide +kernel
theorem dX12_init_28 : decode cX12_init 28 = .ok (.putfield 37, 3) := by decide +kernel
theorem dX12_init_31 : decode cX12_init 31 = .ok (.aload_n 0, 1) := by decide +kernel
theorem dX12_init_32 : decode cX12_init 32 = .ok (.bipush 6, 2) := by decide +kernel
theorem dX12_init_34 : decode cX12_init 34 = .ok (.newarray .long, 2) := by decide +kernel
theorem dX12_init_36 : decode cX12_init 36 = .ok (.putfield 40, 3) := by decide +kernel
theorem dX12_init_39 : decode cX12_init 39 = .ok (.aload_n 0, 1) := by decide +kernel
theorem dX12_init_40 : decode cX12_init 40 = .ok (.bipush 16, 2) := by decide +kernel
theorem dX12_init_42 : decode cX12_init 42 = .ok (.newarray .int, 2) := by decide +kernel
theorem dX12_init_44 : decode cX12_init 44 = .ok (.putfield 44, 3) := by decide +kernel
theorem dX12_init_47 : decode cX12_init 47 = .ok (.aload_n 0, 1) := by decide +kernel
theorem dX12_init_48 : decode cX12_init 48 = .ok (.bipush 8, 2) := by decide +kernel
theorem dX12_init_50 : decode cX12_init 50 = .ok (.newarray .int, 2) := by decide +kernel
theorem dX12_init_52 : decode cX12_init 52 = .ok (.putfield 47, 3) := by decide +kernel
theorem dX12_init_55 : decode cX12_init 55 = .ok (.aload_n 0, 1) := by decide +kernel
theorem dX12_init_56 : decode cX12_init 56 = .ok (.bipush 8, 2) := by decide +kernel
theorem dX12_init_58 : decode cX12_init 58 = .ok (.newarray .int, 2) := by decide +kernel
theorem dX12_init_60 : decode cX12_init 60 = .ok (.putfield 50, 3) := by decide +kernel
theorem dX12_init_63 : decode cX12_init 63 = .ok (.aload_n 0, 1) := by decide +kernel
theorem dX12_init_64 : decode cX12_init 64 = .ok (.bipush 8, 2) := by decide +kernel
theorem dX12_init_66 : decode cX12_init 66 = .ok (.newarray .int, 2) := by decide +kernel
theorem dX12_init_68 : decode cX12_init 68 = .ok (.putfield 53, 3) := by decide +kernel
theorem dX12_init_71 : decode cX12_init 71 = .ok (.aload_n 0, 1) := by decide +kernel
theorem dX12_init_72 : decode cX12_init 72 = .ok (.sipush 2346, 3) := by decide +kernel
theorem dX12_init_75 : decode cX12_init 75 = .ok (.newarray .int, 2) := by decide +kernel
theorem dX12_init_77 : decode cX12_init 77 = .ok (.putfield 56, 3) := by decide +kernel
theorem dX12_init_80 : decode cX12_init 80 = .ok (.aload_n 0, 1) := by decide +kernel
theorem dX12_init_81 : decode cX12_init 81 = .ok (.iconst 2, 1) := by decide +kernel
theorem dX12_init_82 : decode cX12_init 82 = .ok (.newarray .int, 2) := by decide +kernel
theorem dX12_init_84 : decode cX12_init 84 = .ok (.putfield 59, 3) := by decide +kernel
theorem dX12_init_87 : decode cX12_init 87 = .ok (.aload_n 0, 1) := by decide +kernel
theorem dX12_init_88 : decode cX12_init 88 = .ok (.bipush 16, 2) := by decide +kernel
theorem dX12_init_90 : decode cX12_init 90 = .ok (.newarray .int, 2) := by decide +kernel
theorem dX12_init_92 : decode cX12_init 92 = .ok (.putfield 62, 3) := by decide +kernel
theorem dX12_init_95 : decode cX12_init 95 = .ok (.aload_n 0, 1) := by decide +kernel
theorem dX12_init_96 : decode cX12_init 96 = .ok (.bipush 16, 2) := by decide +kernel
theorem dX12_init_98 : decode cX12_init 98 = .ok (.newarray .int, 2) := by decide +kernel
theorem dX12_init_100 : decode cX12_init 100 = .ok (.putfield 65, 3) := by decide +kernel
theorem dX12_init_103 : decode cX12_init 103 = .ok (.aload_n 0, 1) := by decide +kernel
theorem dX12_init_104 : decode cX12_init 104 = .ok (.bipush 16, 2) := by decide +kernel
theorem dX12_init_106 : decode cX12_init 106 = .ok (.newarray .int, 2) := by decide +kernel
theorem dX12_init_108 : decode cX12_init 108 = .ok (.putfield 68, 3) := by decide +kernel
theorem dX12_init_111 : decode cX12_init 111 = .ok (.aload_n 0, 1) := by decide +kernel
theorem dX12_init_112 : decode cX12_init 112 = .ok (.bipush 16, 2) := by decide +kernel
theorem dX12_init_114 : decode cX12_init 114 = .ok (.newarray .int, 2) := by decide +kernel
theorem dX12_init_116 : decode cX12_init 116 = .ok (.putfield 71, 3) := by decide +kernel
theorem dX12_init_119 : decode cX12_init 119 = .ok (.aload_n 0, 1) := by decide +kernel
theorem dX12_init_120 : decode cX12_init 120 = .ok (.sipush 4400, 3) := by decide +kernel
theorem dX12_init_123 : decode cX12_init 123 = .ok (.newarray .int, 2) := by decide +kernel
theorem dX12_init_125 : decode cX12_init 125 = .ok (.putfield 74, 3) := by decide +kernel
theorem dX12_init_128 : decode cX12_init 128 = .ok (.aload_n 0, 1) := by decide +kernel
theorem dX12_init_129 : decode cX12_init 129 = .ok (.sipush 30800, 3) := by decide +kernel
theorem dX12_init_132 : decode cX12_init 132 = .ok (.newarray .int, 2) := by decide +kernel
theorem dX12_init_134 : decode cX12_init 134 = .ok (.putfield 77, 3) := by decide +kernel
theorem dX12_init_137 : decode cX12_init 137 = .ok (.aload_n 0, 1) := by decide +kernel
theorem dX12_init_138 : decode cX12_init 138 = .ok (.sipush 4400, 3) := by decide +kernel
theorem dX12_init_141 : decode cX12_init 141 = .ok (.newarray .int, 2) := by decide +kernel
theorem dX12_init_143 : decode cX12_init 143 = .ok (.putfield 80, 3) := by decide +kernel
theorem dX12_init_146 : decode cX12_init 146 = .ok (.aload_n 0, 1) := by decide +kernel
theorem dX12_init_147 : decode cX12_init 147 = .ok (.ldc 83, 2) := by decide +kernel
theorem dX12_init_149 : decode cX12_init 149 = .ok (.newarray .int, 2) := by decide +kernel
theorem dX12_init_151 : decode cX12_init 151 = .ok (.putfield 84, 3) := by decide +kernel
theorem dX12_init_154 : decode cX12_init 154 = .ok (.aload_n 0, 1) := by decide +kernel
theorem dX12_init_155 : decode cX12_init 155 = .ok (.sipush 4400, 3) := by decide +kernel
theorem dX12_init_158 : decode cX12_init 158 = .ok (.newarray .boolean, 2) := by decide +kernel
theorem dX12_init_160 : decode cX12_init 160 = .ok (.putfield 87, 3) := by decide +kernel
theorem dX12_init_163 : decode cX12_init 163 = .ok (.aload_n 0, 1) := by decide +kernel
theorem dX12_init_164 : decode cX12_init 164 = .ok (.iconst (-1), 1) := by decide +kernel
theorem dX12_init_165 : decode cX12_init 165 = .ok (.putfield 91, 3) := by decide +kernel
theorem dX12_init_168 : decode cX12_init 168 = .ok (.aload_n 0, 1) := by decide +kernel
theorem dX12_init_169 : decode cX12_init 169 = .ok (.bipush 22, 2) := by decide +kernel
theorem dX12_init_171 : decode cX12_init 171 = .ok (.newarray .long, 2) := by decide +kernel
theorem dX12_init_173 : decode cX12_init 173 = .ok (.putfield 94, 3) := by decide +kernel
theorem dX12_init_176 : decode cX12_init 176 = .ok (.aload_n 0, 1) := by decide +kernel
theorem dX12_init_177 : decode cX12_init 177 = .ok (.bipush 55, 2) := by decide +kernel
theorem dX12_init_179 : decode cX12_init 179 = .ok (.newarray .long, 2) := by decide +kernel
theorem dX12_init_181 : decode cX12_init 181 = .ok (.putfield 97, 3) := by decide +kernel
theorem dX12_init_184 : decode cX12_init 184 = .ok (.aload_n 0, 1) := by decide +kernel
theorem dX12_init_185 : decode cX12_init 185 = .ok (.bipush 8, 2) := by decide +kernel
theorem dX12_init_187 : decode cX12_init 187 = .ok (.newarray .int, 2) := by decide +kernel
theorem dX12_init_189 : decode cX12_init 189 = .ok (.putfield 100, 3) := by decide +kernel
theorem dX12_init_192 : decode cX12_init 192 = .ok (.aload_n 0, 1) := by decide +kernel
theorem dX12_init_193 : decode cX12_init 193 = .ok (.bipush 8, 2) := by decide +kernel
theorem dX12_init_195 : decode cX12_init 195 = .ok (.newarray .int, 2) := by decide +kernel
theorem dX12_init_197 : decode cX12_init 197 = .ok (.putfield 103, 3) := by decide +kernel
theorem dX12_init_200 : decode cX12_init 200 = .ok (.aload_n 0, 1) := by decide +kernel
theorem dX12_init_201 : decode cX12_init 201 = .ok (.sipush 300, 3) := by decide +kernel
theorem dX12_init_204 : decode cX12_init 204 = .ok (.newarray .int, 2) := by decide +kernel
theorem dX12_init_206 : decode cX12_init 206 = .ok (.putfield 106, 3) := by decide +kernel
theorem dX12_init_209 : decode cX12_init 209 = .ok (.aload_n 0, 1) := by decide +kernel
theorem dX12_init_210 : decode cX12_init 210 = .ok (.bipush 98, 2) := by decide +kernel
theorem dX12_init_212 : decode cX12_init 212 = .ok (.newarray .int, 2) := by decide +kernel
theorem dX12_init_214 : decode cX12_init 214 = .ok (.putfield 109, 3) := by decide +kernel
theorem dX12_init_217 : decode cX12_init 217 = .ok (.aload_n 0, 1) := by decide +kernel
theorem dX12_init_218 : decode cX12_init 218 = .ok (.sipush 1400, 3) := by decide +kernel
theorem dX12_init_221 : decode cX12_init 221 = .ok (.newarray .int, 2) := by decide +kernel
theorem dX12_init_223 : decode cX12_init 223 = .ok (.putfield 112, 3) := by decide +kernel
theorem dX12_init_226 : decode cX12_init 226 = .ok (.aload_n 0, 1) := by decide +kernel
theorem dX12_init_227 : decode cX12_init 227 = .ok (.sipush 1400, 3) := by decide +kernel
theorem dX12_init_230 : decode cX12_init 230 = .ok (.newarray .int, 2) := by decide +kernel
theorem dX12_init_232 : decode cX12_init 232 = .ok (.putfield 115, 3) := by decide +kernel
theorem dX12_init_235 : decode cX12_init 235 = .ok (.aload_n 0, 1) := by decide +kernel
theorem dX12_init_236 : decode cX12_init 236 = .ok (.sipush 9800, 3) := by decide +kernel
theorem dX12_init_239 : decode cX12_init 239 = .ok (.newarray .int, 2) := by decide +kernel
theorem dX12_init_241 : decode cX12_init 241 = .ok (.putfield 118, 3) := by decide +kernel
theorem dX12_init_244 : decode cX12_init 244 = .ok (.aload_n 0, 1) := by decide +kernel
theorem dX12_init_245 : decode cX12_init 245 = .ok (.sipush 460, 3) := by decide +kernel
theorem dX12_init_248 : decode cX12_init 248 = .ok (.newarray .int, 2) := by decide +kernel
theorem dX12_init_250 : decode cX12_init 250 = .ok (.putfield 121, 3) := by decide +kernel
theorem dX12_init_253 : decode cX12_init 253 = .ok (.aload_n 0, 1) := by decide +kernel
theorem dX12_init_254 : decode cX12_init 254 = .ok (.sipush 20816, 3) := by decide +kernel
theorem dX12_init_257 : decode cX12_init 257 = .ok (.newarray .int, 2) := by decide +kernel
theorem dX12_init_259 : decode cX12_init 259 = .ok (.putfield 124, 3) := by decide +kernel
theorem dX12_init_262 : decode cX12_init 262 = .ok (.aload_n 0, 1) := by decide +kernel
theorem dX12_init_263 : decode cX12_init 263 = .ok (.bipush 120, 2) := by decide +kernel
theorem dX12_init_265 : decode cX12_init 265 = .ok (.newarray .int, 2) := by decide +kernel
theorem dX12_init_267 : decode cX12_init 267 = .ok (.putfield 127, 3) := by decide +kernel
theorem dX12_init_270 : decode cX12_init 270 = .ok (.aload_n 0, 1) := by decide +kernel
theorem dX12_init_271 : decode cX12_init 271 = .ok (.bipush 8, 2) := by decide +kernel
theorem dX12_init_273 : decode cX12_init 273 = .ok (.newarray .int, 2) := by decide +kernel
theorem dX12_init_275 : decode cX12_init 275 = .ok (.putfield 130, 3) := by decide +kernel
theorem dX12_init_278 : decode cX12_init 278 = .ok (.aload_n 0, 1) := by decide +kernel
theorem dX12_init_279 : decode cX12_init 279 = .ok (.bipush 16, 2) := by decide +kernel
theorem dX12_init_281 : decode cX12_init 281 = .ok (.newarray .int, 2) := by decide +kernel
theorem dX12_init_283 : decode cX12_init 283 = .ok (.putfield 133, 3) := by decide +kernel
theorem dX12_init_286 : decode cX12_init 286 = .ok (.aload_n 0, 1) := by decide +kernel
theorem dX12_init_287 : decode cX12_init 287 = .ok (.sipush 1400, 3) := by decide +kernel
theorem dX12_init_290 : decode cX12_init 290 = .ok (.newarray .int, 2) := by decide +kernel
theorem dX12_init_292 : decode cX12_init 292 = .ok (.putfield 136, 3) := by decide +kernel
theorem dX12_init_295 : decode cX12_init 295 = .ok (.aload_n 0, 1) := by decide +kernel
theorem dX12_init_296 : decode cX12_init 296 = .ok (.sipush 1400, 3) := by decide +kernel
theorem dX12_init_299 : decode cX12_init 299 = .ok (.newarray .int, 2) := by decide +kernel
theorem dX12_init_301 : decode cX12_init 301 = .ok (.putfield 139, 3) := by decide +kernel
theorem dX12_init_304 : decode cX12_init 304 = .ok (.aload_n 0, 1) := by decide +kernel
theorem dX12_init_305 : decode cX12_init 305 = .ok (.sipush 324, 3) := by decide +kernel
theorem dX12_init_308 : decode cX12_init 308 = .ok (.newarray .int, 2) := by decide +kernel
theorem dX12_init_310 : decode cX12_init 310 = .ok (.putfield 142, 3) := by decide +kernel
theorem dX12_init_313 : decode cX12_init 313 = .ok (.aload_n 0, 1) := by decide +kernel
theorem dX12_init_314 : decode cX12_init 314 = .ok (.bipush 18, 2) := by decide +kernel
theorem dX12_init_316 : decode cX12_init 316 = .ok (.newarray .int, 2) := by decide +kernel
theorem dX12_init_318 : decode cX12_init 318 = .ok (.putfield 145, 3) := by decide +kernel
theorem dX12_init_321 : decode cX12_init 321 = .ok (.aload_n 0, 1) := by decide +kernel
theorem dX12_init_322 : decode cX12_init 322 = .ok (.bipush 18, 2) := by decide +kernel
theorem dX12_init_324 : decode cX12_init 324 = .ok (.newarray .int, 2) := by decide +kernel
theorem dX12_init_326 : decode cX12_init 326 = .ok (.putfield 148, 3) := by decide +kernel
theorem dX12_init_329 : decode cX12_init 329 = .ok (.aload_n 0, 1) := by decide +kernel
theorem dX12_init_330 : decode cX12_init 330 = .ok (.bipush 8, 2) := by decide +kernel
theorem dX12_init_332 : decode cX12_init 332 = .ok (.newarray .long, 2) := by decide +kernel
theorem dX12_init_334 : decode cX12_init 334 = .ok (.putfield 151, 3) := by decide +kernel
theorem dX12_init_337 : decode cX12_init 337 = .ok (.aload_n 0, 1) := by decide +kernel
theorem dX12_init_338 : decode cX12_init 338 = .ok (.bipush 8, 2) := by decide +kernel
theorem dX12_init_340 : decode cX12_init 340 = .ok (.newarray .long, 2) := by decide +kernel
theorem dX12_init_342 : decode cX12_init 342 = .ok (.putfield 154, 3) := by decide +kernel
theorem dX12_init_345 : decode cX12_init 345 = .ok (.aload_n 0, 1) := by decide +kernel
theorem dX12_init_346 : decode cX12_init 346 = .ok (.bipush 8, 2) := by decide +kernel
theorem dX12_init_348 : decode cX12_init 348 = .ok (.newarray .long, 2) := by decide +kernel
theorem dX12_init_350 : decode cX12_init 350 = .ok (.putfield 157, 3) := by decide +kernel
theorem dX12_init_353 : decode cX12_init 353 = .ok (.aload_n 0, 1) := by decide +kernel
theorem dX12_init_354 : decode cX12_init 354 = .ok (.sipush 192, 3) := by decide +kernel
theorem dX12_init_357 : decode cX12_init 357 = .ok (.newarray .int, 2) := by decide +kernel
theorem dX12_init_359 : decode cX12_init 359 = .ok (.putfield 160, 3) := by decide +kernel
theorem dX12_init_362 : decode cX12_init 362 = .ok (.aload_n 0, 1) := by decide +kernel
theorem dX12_init_363 : decode cX12_init 363 = .ok (.sipush 192, 3) := by decide +kernel
theorem dX12_init_366 : decode cX12_init 366 = .ok (.newarray .int, 2) := by decide +kernel
theorem dX12_init_368 : decode cX12_init 368 = .ok (.putfield 163, 3) := by decide +kernel
theorem dX12_init_371 : decode cX12_init 371 = .ok (.aload_n 0, 1) := by decide +kernel
theorem dX12_init_372 : decode cX12_init 372 = .ok (.iconst 3, 1) := by decide +kernel
theorem dX12_init_373 : decode cX12_init 373 = .ok (.newarray .int, 2) := by decide +kernel
theorem dX12_init_375 : decode cX12_init 375 = .ok (.putfield 166, 3) := by decide +kernel
theorem dX12_init_378 : decode cX12_init 378 = .ok (.aload_n 0, 1) := by decide +kernel
theorem dX12_init_379 : decode cX12_init 379 = .ok (.sipush 2400, 3) := by decide +kernel
theorem dX12_init_382 : decode cX12_init 382 = .ok (.newarray .int, 2) := by decide +kernel
theorem dX12_init_384 : decode cX12_init 384 = .ok (.putfield 169, 3) := by decide +kernel
theorem dX12_init_387 : decode cX12_init 387 = .ok (.aload_n 0, 1) := by decide +kernel
theorem dX12_init_388 : decode cX12_init 388 = .ok (.bipush 8, 2) := by decide +kernel
theorem dX12_init_390 : decode cX12_init 390 = .ok (.newarray .int, 2) := by decide +kernel
theorem dX12_init_392 : decode cX12_init 392 = .ok (.putfield 172, 3) := by decide +kernel
theorem dX12_init_395 : decode cX12_init 395 = .ok (.aload_n 0, 1) := by decide +kernel
theorem dX12_init_396 : decode cX12_init 396 = .ok (.sipush 2400, 3) := by decide +kernel
theorem dX12_init_399 : decode cX12_init 399 = .ok (.newarray .int, 2) := by decide +kernel
theorem dX12_init_401 : decode cX12_init 401 = .ok (.putfield 175, 3) := by decide +kernel
theorem dX12_init_404 : decode cX12_init 404 = .ok (.aload_n 0, 1) := by decide +kernel
theorem dX12_init_405 : decode cX12_init 405 = .ok (.bipush 8, 2) := by decide +kernel
theorem dX12_init_407 : decode cX12_init 407 = .ok (.newarray .int, 2) := by decide +kernel
theorem dX12_init_409 : decode cX12_init 409 = .ok (.putfield 178, 3) := by decide +kernel
theorem dX12_init_412 : decode cX12_init 412 = .ok (.aload_n 0, 1) := by decide +kernel
theorem dX12_init_413 : decode cX12_init 413 = .ok (.sipush 300, 3) := by decide +kernel
theorem dX12_init_416 : decode cX12_init 416 = .ok (.newarray .int, 2) := by decide +kernel
theorem dX12_init_418 : decode cX12_init 418 = .ok (.putfield 181, 3) := by decide +kernel
theorem dX12_init_421 : decode cX12_init 421 = .ok (.aload_n 0, 1) := by decide +kernel
theorem dX12_init_422 : decode cX12_init 422 = .ok (.bipush 16, 2) := by decide +kernel
theorem dX12_init_424 : decode cX12_init 424 = .ok (.newarray .int, 2) := by decide +kernel
theorem dX12_init_426 : decode cX12_init 426 = .ok (.putfield 184, 3) := by decide +kernel
theorem dX12_init_429 : decode cX12_init 429 = .ok (.aload_n 0, 1) := by decide +kernel
theorem dX12_init_430 : decode cX12_init 430 = .ok (.iconst 4, 1) := by decide +kernel
theorem dX12_init_431 : decode cX12_init 431 = .ok (.newarray .int, 2) := by decide +kernel
theorem dX12_init_433 : decode cX12_init 433 = .ok (.putfield 187, 3) := by decide +kernel
theorem dX12_init_436 : decode cX12_init 436 = .ok (.aload_n 0, 1) := by decide +kernel
theorem dX12_init_437 : decode cX12_init 437 = .ok (.iconst (-1), 1) := by decide +kernel
theorem dX12_init_438 : decode cX12_init 438 = .ok (.putfield 190, 3) := by decide +kernel
theorem dX12_init_441 : decode cX12_init 441 = .ok (.aload_n 0, 1) := by decide +kernel
theorem dX12_init_442 : decode cX12_init 442 = .ok (.sipush 300, 3) := by decide +kernel
theorem dX12_init_445 : decode cX12_init 445 = .ok (.newarray .int, 2) := by decide +kernel
theorem dX12_init_447 : decode cX12_init 447 = .ok (.putfield 193, 3) := by decide +kernel
theorem dX12_init_450 : decode cX12_init 450 = .ok (.aload_n 0, 1) := by decide +kernel
theorem dX12_init_451 : decode cX12_init 451 = .ok (.sipush 300, 3) := by decide +kernel
theorem dX12_init_454 : decode cX12_init 454 = .ok (.newarray .int, 2) := by decide +kernel
theorem dX12_init_456 : decode cX12_init 456 = .ok (.putfield 196, 3) := by decide +kernel
theorem dX12_init_459 : decode cX12_init 459 = .ok (.aload_n 0, 1) := by decide +kernel
theorem dX12_init_460 : decode cX12_init 460 = .ok (.bipush 24, 2) := by decide +kernel
theorem dX12_init_462 : decode cX12_init 462 = .ok (.newarray .int, 2) := by decide +kernel
theorem dX12_init_464 : decode cX12_init 464 = .ok (.putfield 199, 3) := by decide +kernel
theorem dX12_init_467 : decode cX12_init 467 = .ok (.aload_n 0, 1) := by decide +kernel
theorem dX12_init_468 : decode cX12_init 468 = .ok (.iconst 3, 1) := by decide +kernel
theorem dX12_init_469 : decode cX12_init 469 = .ok (.newarray .int, 2) := by decide +kernel
theorem dX12_init_471 : decode cX12_init 471 = .ok (.putfield 202, 3) := by decide +kernel
theorem dX12_init_474 : decode cX12_init 474 = .ok (.aload_n 0, 1) := by decide +kernel
theorem dX12_init_475 : decode cX12_init 475 = .ok (.bipush 8, 2) := by decide +kernel
theorem dX12_init_477 : decode cX12_init 477 = .ok (.newarray .int, 2) := by decide +kernel
theorem dX12_init_479 : decode cX12_init 479 = .ok (.putfield 205, 3) := by decide +kernel
theorem dX12_init_482 : decode cX12_init 482 = .ok (.aload_n 0, 1) := by decide +kernel
theorem dX12_init_483 : decode cX12_init 483 = .ok (.iconst 4, 1) := by decide +kernel
theorem dX12_init_484 : decode cX12_init 484 = .ok (.newarray .int, 2) := by decide +kernel
theorem dX12_init_486 : decode cX12_init 486 = .ok (.putfield 208, 3) := by decide +kernel
theorem dX12_init_489 : decode cX12_init 489 = .ok (.aload_n 0, 1) := by decide +kernel
theorem dX12_init_490 : decode cX12_init 490 = .ok (.iconst 3, 1) := by decide +kernel
theorem dX12_init_491 : decode cX12_init 491 = .ok (.newarray .int, 2) := by decide +kernel
theorem dX12_init_493 : decode cX12_init 493 = .ok (.putfield 211, 3) := by decide +kernel
theorem dX12_init_496 : decode cX12_init 496 = .ok (.aload_n 0, 1) := by decide +kernel
theorem dX12_init_497 : decode cX12_init 497 = .ok (.sipush 7550, 3) := by decide +kernel
theorem dX12_init_500 : decode cX12_init 500 = .ok (.newarray .int, 2) := by decide +kernel
theorem dX12_init_502 : decode cX12_init 502 = .ok (.putfield 214, 3) := by decide +kernel
theorem dX12_init_505 : decode cX12_init 505 = .ok (.aload_n 0, 1) := by decide +kernel
theorem dX12_init_506 : decode cX12_init 506 = .ok (.bipush 6, 2) := by decide +kernel
theorem dX12_init_508 : decode cX12_init 508 = .ok (.newarray .long, 2) := by decide +kernel
theorem dX12_init_510 : decode cX12_init 510 = .ok (.putfield 217, 3) := by decide +kernel
theorem dX12_init_513 : decode cX12_init 513 = .ok (.aload_n 0, 1) := by decide +kernel
theorem dX12_init_514 : decode cX12_init 514 = .ok (.iconst 2, 1) := by decide +kernel
theorem dX12_init_515 : decode cX12_init 515 = .ok (.newarray .boolean, 2) := by decide +kernel
theorem dX12_init_517 : decode cX12_init 517 = .ok (.putfield 220, 3) := by decide +kernel
theorem dX12_init_520 : decode cX12_init 520 = .ok (.aload_n 0, 1) := by decide +kernel
theorem dX12_init_521 : decode cX12_init 521 = .ok (.invokevirtual 223, 3) := by decide +kernel
theorem dX12_init_524 : decode cX12_init 524 = .ok (.iconst 0, 1) := by decide +kernel
theorem dX12_init_525 : decode cX12_init 525 = .ok (.istore_n 1, 1) := by decide +kernel
theorem dX12_init_526 : decode cX12_init 526 = .ok (.iload_n 1, 1) := by decide +kernel
theorem dX12_init_527 : decode cX12_init 527 = .ok (.sipush 1173, 3) := by decide +kernel
theorem dX12_init_530 : decode cX12_init 530 = .ok (.if_icmp .ge 21, 3) := by decide +kernel
theorem dX12_init_533 : decode cX12_init 533 = .ok (.aload_n 0, 1) := by decide +kernel
theorem dX12_init_534 : decode cX12_init 534 = .ok (.getfield 33, 3) := by decide +kernel
theorem dX12_init_537 : decode cX12_init 537 = .ok (.iload_n 1, 1) := by decide +kernel
theorem dX12_init_538 : decode cX12_init 538 = .ok (.aload_n 0, 1) := by decide +kernel
theorem dX12_init_539 : decode cX12_init 539 = .ok (.getfield 37, 3) := by decide +kernel
theorem dX12_init_542 : decode cX12_init 542 = .ok (.iload_n 1, 1) := by decide +kernel
theorem dX12_init_543 : decode cX12_init 543 = .ok (.iaload, 1) := by decide +kernel
theorem dX12_init_544 : decode cX12_init 544 = .ok (.iastore, 1) := by decide +kernel
theorem dX12_init_545 : decode cX12_init 545 = .ok (.iinc 1 1, 3) := by decide +kernel
theorem dX12_init_548 : decode cX12_init 548 = .ok (.goto (-22), 3) := by decide +kernel
theorem dX12_init_551 : decode cX12_init 551 = .ok (.aload_n 0, 1) := by decide +kernel
theorem dX12_init_552 : decode cX12_init 552 = .ok (.invokevirtual 226, 3) := by decide +kernel
theorem dX12_init_555 : decode cX12_init 555 = .ok (.return_, 1) := by decide +kernel
theorem dX12_plainWorld_0 : decode cX12_plainWorld 0 = .ok (.iconst 0, 1) := by decide +kernel
theorem dX12_plainWorld_1 : decode cX12_plainWorld 1 = .ok (.istore_n 1, 1) := by decide +kernel
theorem dX12_plainWorld_2 : decode cX12_plainWorld 2 = .ok (.iload_n 1, 1) := by decide +kernel
theorem dX12_plainWorld_3 : decode cX12_plainWorld 3 = .ok (.sipush 1173, 3) := by decide +kernel
theorem dX12_plainWorld_6 : decode cX12_plainWorld 6 = .ok (.if_icmp .ge 16, 3) := by decide +kernel
theorem dX12_plainWorld_9 : decode cX12_plainWorld 9 = .ok (.aload_n 0, 1) := by decide +kernel
theorem dX12_plainWorld_10 : decode cX12_plainWorld 10 = .ok (.getfield 37, 3) := by decide +kernel
theorem dX12_plainWorld_13 : decode cX12_plainWorld 13 = .ok (.iload_n 1, 1) := by decide +kernel
theorem dX12_plainWorld_14 : decode cX12_plainWorld 14 = .ok (.iconst 0, 1) := by decide +kernel
theorem dX12_plainWorld_15 : decode cX12_plainWorld 15 = .ok (.iastore, 1) := by decide +kernel
theorem dX12_plainWorld_16 : decode cX12_plainWorld 16 = .ok (.iinc 1 1, 3) := by decide +kernel
theorem dX12_plainWorld_19 : decode cX12_plainWorld 19 = .ok (.goto (-17), 3) := by decide +kernel
theorem dX12_plainWorld_22 : decode cX12_plainWorld 22 = .ok (.aload_n 0, 1) := by decide +kernel
theorem dX12_plainWorld_23 : decode cX12_plainWorld 23 = .ok (.getfield 37, 3) := by decide +kernel
theorem dX12_plainWorld_26 : decode cX12_plainWorld 26 = .ok (.iconst 0, 1) := by decide +kernel
theorem dX12_plainWorld_27 : decode cX12_plainWorld 27 = .ok (.bipush 97, 2) := by decide +kernel
theorem dX12_plainWorld_29 : decode cX12_plainWorld 29 = .ok (.iastore, 1) := by decide +kernel
theorem dX12_plainWorld_30 : decode cX12_plainWorld 30 = .ok (.aload_n 0, 1) := by decide +kernel
theorem dX12_plainWorld_31 : decode cX12_plainWorld 31 = .ok (.getfield 37, 3) := by decide +kernel
theorem dX12_plainWorld_34 : decode cX12_plainWorld 34 = .ok (.iconst 3, 1) := by decide +kernel
theorem dX12_plainWorld_35 : decode cX12_plainWorld 35 = .ok (.iconst 1, 1) := by decide +kernel
theorem dX12_plainWorld_36 : decode cX12_plainWorld 36 = .ok (.iastore, 1) := by decide +kernel
theorem dX12_plainWorld_37 : decode cX12_plainWorld 37 = .ok (.return_, 1) := by decide +kernel
theorem dX12_plainSum_0 : decode cX12_plainSum 0 = .ok (.aload_n 0, 1) := by decide +kernel
theorem dX12_plainSum_1 : decode cX12_plainSum 1 = .ok (.getfield 33, 3) := by decide +kernel
theorem dX12_plainSum_4 : decode cX12_plainSum 4 = .ok (.sipush 1173, 3) := by decide +kernel
theorem dX12_plainSum_7 : decode cX12_plainSum 7 = .ok (.iconst 1, 1) := by decide +kernel
theorem dX12_plainSum_8 : decode cX12_plainSum 8 = .ok (.iastore, 1) := by decide +kernel
theorem dX12_plainSum_9 : decode cX12_plainSum 9 = .ok (.aload_n 0, 1) := by decide +kernel
theorem dX12_plainSum_10 : decode cX12_plainSum 10 = .ok (.getfield 33, 3) := by decide +kernel
theorem dX12_plainSum_13 : decode cX12_plainSum 13 = .ok (.sipush 1174, 3) := by decide +kernel
theorem dX12_plainSum_16 : decode cX12_plainSum 16 = .ok (.iconst 0, 1) := by decide +kernel
theorem dX12_plainSum_17 : decode cX12_plainSum 17 = .ok (.iastore, 1) := by decide +kernel
theorem dX12_plainSum_18 : decode cX12_plainSum 18 = .ok (.aload_n 0, 1) := by decide +kernel
theorem dX12_plainSum_19 : decode cX12_plainSum 19 = .ok (.iconst 0, 1) := by decide +kernel
theorem dX12_plainSum_20 : decode cX12_plainSum 20 = .ok (.putfield 229, 3) := by decide +kernel
theorem dX12_plainSum_23 : decode cX12_plainSum 23 = .ok (.return_, 1) := by decide +kernel
theorem dX12_peek_0 : decode cX12_peek 0 = .ok (.aload_n 0, 1) := by decide +kernel
theorem dX12_peek_1 : decode cX12_peek 1 = .ok (.getfield 21, 3) := by decide +kernel
theorem dX12_peek_4 : decode cX12_peek 4 = .ok (.aload_n 0, 1) := by decide +kernel
theorem dX12_peek_5 : decode cX12_peek 5 = .ok (.getfield 18, 3) := by decide +kernel
theorem dX12_peek_8 : decode cX12_peek 8 = .ok (.if_icmp .ge 19, 3) := by decide +kernel
theorem dX12_peek_11 : decode cX12_peek 11 = .ok (.aload_n 0, 1) := by decide +kernel
theorem dX12_peek_12 : decode cX12_peek 12 = .ok (.getfield 14, 3) := by decide +kernel
theorem dX12_peek_15 : decode cX12_peek 15 = .ok (.aload_n 0, 1) := by decide +kernel
theorem dX12_peek_16 : decode cX12_peek 16 = .ok (.getfield 21, 3) := by decide +kernel
theorem dX12_peek_19 : decode cX12_peek 19 = .ok (.baload, 1) := by decide +kernel
theorem dX12_peek_20 : decode cX12_peek 20 = .ok (.sipush 255, 3) := by decide +kernel
theorem dX12_peek_23 : decode cX12_peek 23 = .ok (.iand, 1) := by decide +kernel
theorem dX12_peek_24 : decode cX12_peek 24 = .ok (.goto 4, 3) := by decide +kernel
theorem dX12_peek_27 : decode cX12_peek 27 = .ok (.iconst (-1), 1) := by decide +kernel
theorem dX12_peek_28 : decode cX12_peek 28 = .ok (.ireturn, 1) := by decide +kernel
theorem dX12_isSmall_0 : decode cX12_isSmall 0 = .ok (.iload_n 0, 1) := by decide +kernel
theorem dX12_isSmall_1 : decode cX12_isSmall 1 = .ok (.bipush 97, 2) := by decide +kernel
theorem dX12_isSmall_3 : decode cX12_isSmall 3 = .ok (.if_icmp .lt 13, 3) := by decide +kernel
theorem dX12_isSmall_6 : decode cX12_isSmall 6 = .ok (.iload_n 0, 1) := by decide +kernel
theorem dX12_isSmall_7 : decode cX12_isSmall 7 = .ok (.bipush 122, 2) := by decide +kernel
theorem dX12_isSmall_9 : decode cX12_isSmall 9 = .ok (.if_icmp .gt 7, 3) := by decide +kernel
theorem dX12_isSmall_12 : decode cX12_isSmall 12 = .ok (.iconst 1, 1) := by decide +kernel
theorem dX12_isSmall_13 : decode cX12_isSmall 13 = .ok (.goto 4, 3) := by decide +kernel
theorem dX12_isSmall_16 : decode cX12_isSmall 16 = .ok (.iconst 0, 1) := by decide +kernel
theorem dX12_isSmall_17 : decode cX12_isSmall 17 = .ok (.ireturn, 1) := by decide +kernel
theorem dX12_isDigit_0 : decode cX12_isDigit 0 = .ok (.iload_n 0, 1) := by decide +kernel
theorem dX12_isDigit_1 : decode cX12_isDigit 1 = .ok (.bipush 48, 2) := by decide +kernel
theorem dX12_isDigit_3 : decode cX12_isDigit 3 = .ok (.if_icmp .lt 13, 3) := by decide +kernel
theorem dX12_isDigit_6 : decode cX12_isDigit 6 = .ok (.iload_n 0, 1) := by decide +kernel
theorem dX12_isDigit_7 : decode cX12_isDigit 7 = .ok (.bipush 57, 2) := by decide +kernel
theorem dX12_isDigit_9 : decode cX12_isDigit 9 = .ok (.if_icmp .gt 7, 3) := by decide +kernel
theorem dX12_isDigit_12 : decode cX12_isDigit 12 = .ok (.iconst 1, 1) := by decide +kernel
theorem dX12_isDigit_13 : decode cX12_isDigit 13 = .ok (.goto 4, 3) := by decide +kernel
theorem dX12_isDigit_16 : decode cX12_isDigit 16 = .ok (.iconst 0, 1) := by decide +kernel
theorem dX12_isDigit_17 : decode cX12_isDigit 17 = .ok (.ireturn, 1) := by decide +kernel
theorem dX12_next_0 : decode cX12_next 0 = .ok (.aload_n 0, 1) := by decide +kernel
theorem dX12_next_1 : decode cX12_next 1 = .ok (.invokevirtual 232, 3) := by decide +kernel
theorem dX12_next_4 : decode cX12_next 4 = .ok (.bipush 32, 2) := by decide +kernel
theorem dX12_next_6 : decode cX12_next 6 = .ok (.if_icmp .eq 12, 3) := by decide +kernel
theorem dX12_next_9 : decode cX12_next 9 = .ok (.aload_n 0, 1) := by decide +kernel
theorem dX12_next_10 : decode cX12_next 10 = .ok (.invokevirtual 232, 3) := by decide +kernel
theorem dX12_next_13 : decode cX12_next 13 = .ok (.bipush 10, 2) := by decide +kernel
theorem dX12_next_15 : decode cX12_next 15 = .ok (.if_icmp .ne 16, 3) := by decide +kernel
theorem dX12_next_18 : decode cX12_next 18 = .ok (.aload_n 0, 1) := by decide +kernel
theorem dX12_next_19 : decode cX12_next 19 = .ok (.dup, 1) := by decide +kernel
theorem dX12_next_20 : decode cX12_next 20 = .ok (.getfield 21, 3) := by decide +kernel
theorem dX12_next_23 : decode cX12_next 23 = .ok (.iconst 1, 1) := by decide +kernel
theorem dX12_next_24 : decode cX12_next 24 = .ok (.iadd, 1) := by decide +kernel
theorem dX12_next_25 : decode cX12_next 25 = .ok (.putfield 21, 3) := by decide +kernel
theorem dX12_next_28 : decode cX12_next 28 = .ok (.goto (-28), 3) := by decide +kernel
theorem dX12_next_31 : decode cX12_next 31 = .ok (.aload_n 0, 1) := by decide +kernel
theorem dX12_next_32 : decode cX12_next 32 = .ok (.aload_n 0, 1) := by decide +kernel
theorem dX12_next_33 : decode cX12_next 33 = .ok (.getfield 21, 3) := by decide +kernel
theorem dX12_next_36 : decode cX12_next 36 = .ok (.putfield 236, 3) := by decide +kernel
theorem dX12_next_39 : decode cX12_next 39 = .ok (.aload_n 0, 1) := by decide +kernel
theorem dX12_next_40 : decode cX12_next 40 = .ok (.iconst 0, 1) := by decide +kernel
theorem dX12_next_41 : decode cX12_next 41 = .ok (.putfield 239, 3) := by decide +kernel
theorem dX12_next_44 : decode cX12_next 44 = .ok (.aload_n 0, 1) := by decide +kernel
theorem dX12_next_45 : decode cX12_next 45 = .ok (.getfield 18, 3) := by decide +kernel
theorem dX12_next_48 : decode cX12_next 48 = .ok (.aload_n 0, 1) := by decide +kernel
theorem dX12_next_49 : decode cX12_next 49 = .ok (.getfield 24, 3) := by decide +kernel
theorem dX12_next_52 : decode cX12_next 52 = .ok (.if_icmp .le 28, 3) := by decide +kernel
theorem dX12_next_55 : decode cX12_next 55 = .ok (.aload_n 0, 1) := by decide +kernel
theorem dX12_next_56 : decode cX12_next 56 = .ok (.getfield 21, 3) := by decide +kernel
theorem dX12_next_59 : decode cX12_next 59 = .ok (.aload_n 0, 1) := by decide +kernel
theorem dX12_next_60 : decode cX12_next 60 = .ok (.getfield 24, 3) := by decide +kernel
theorem dX12_next_63 : decode cX12_next 63 = .ok (.if_icmp .lt 17, 3) := by decide +kernel
theorem dX12_next_66 : decode cX12_next 66 = .ok (.aload_n 0, 1) := by decide +kernel
theorem dX12_next_67 : decode cX12_next 67 = .ok (.aload_n 0, 1) := by decide +kernel
theorem dX12_next_68 : decode cX12_next 68 = .ok (.getfield 24, 3) := by decide +kernel
theorem dX12_next_71 : decode cX12_next 71 = .ok (.putfield 236, 3) := by decide +kernel
theorem dX12_next_74 : decode cX12_next 74 = .ok (.aload_n 0, 1) := by decide +kernel
theorem dX12_next_75 : decode cX12_next 75 = .ok (.iconst 4, 1) := by decide +kernel
theorem dX12_next_76 : decode cX12_next 76 = .ok (.putfield 242, 3) := by decide +kernel
theorem dX12_next_79 : decode cX12_next 79 = .ok (.return_, 1) := by decide +kernel
theorem dX12_next_80 : decode cX12_next 80 = .ok (.aload_n 0, 1) := by decide +kernel
theorem dX12_next_81 : decode cX12_next 81 = .ok (.invokevirtual 232, 3) := by decide +kernel
theorem dX12_next_84 : decode cX12_next 84 = .ok (.istore_n 1, 1) := by decide +kernel
theorem dX12_next_85 : decode cX12_next 85 = .ok (.iload_n 1, 1) := by decide +kernel
theorem dX12_next_86 : decode cX12_next 86 = .ok (.ifCond .ge 9, 3) := by decide +kernel
theorem dX12_next_89 : decode cX12_next 89 = .ok (.aload_n 0, 1) := by decide +kernel
theorem dX12_next_90 : decode cX12_next 90 = .ok (.iconst 0, 1) := by decide +kernel
theorem dX12_next_91 : decode cX12_next 91 = .ok (.putfield 242, 3) := by decide +kernel
theorem dX12_next_94 : decode cX12_next 94 = .ok (.return_, 1) := by decide +kernel
theorem dX12_next_95 : decode cX12_next 95 = .ok (.iload_n 1, 1) := by decide +kernel
theorem dX12_next_96 : decode cX12_next 96 = .ok (.invokestatic 245, 3) := by decide +kernel
theorem dX12_next_99 : decode cX12_next 99 = .ok (.ifCond .ne 65, 3) := by decide +kernel
theorem dX12_next_102 : decode cX12_next 102 = .ok (.iload_n 1, 1) := by decide +kernel
theorem dX12_next_103 : decode cX12_next 103 = .ok (.invokestatic 249, 3) := by decide +kernel
theorem dX12_next_106 : decode cX12_next 106 = .ok (.ifCond .ne 58, 3) := by decide +kernel
theorem dX12_next_109 : decode cX12_next 109 = .ok (.aload_n 0, 1) := by decide +kernel
theorem dX12_next_110 : decode cX12_next 110 = .ok (.iload_n 1, 1) := by decide +kernel
theorem dX12_next_111 : decode cX12_next 111 = .ok (.bipush 59, 2) := by decide +kernel
theorem dX12_next_113 : decode cX12_next 113 = .ok (.if_icmp .eq 27, 3) := by decide +kernel
theorem dX12_next_116 : decode cX12_next 116 = .ok (.iload_n 1, 1) := by decide +kernel
theorem dX12_next_117 : decode cX12_next 117 = .ok (.bipush 40, 2) := by decide +kernel
theorem dX12_next_119 : decode cX12_next 119 = .ok (.if_icmp .lt 15, 3) := by decide +kernel
theorem dX12_next_122 : decode cX12_next 122 = .ok (.iload_n 1, 1) := by decide +kernel
theorem dX12_next_123 : decode cX12_next 123 = .ok (.bipush 45, 2) := by decide +kernel
theorem dX12_next_125 : decode cX12_next 125 = .ok (.if_icmp .gt 9, 3) := by decide +kernel
theorem dX12_next_128 : decode cX12_next 128 = .ok (.iload_n 1, 1) := by decide +kernel
theorem dX12_next_129 : decode cX12_next 129 = .ok (.bipush 42, 2) := by decide +kernel
theorem dX12_next_131 : decode cX12_next 131 = .ok (.if_icmp .ne 9, 3) := by decide +kernel
theorem dX12_next_134 : decode cX12_next 134 = .ok (.iload_n 1, 1) := by decide +kernel
theorem dX12_next_135 : decode cX12_next 135 = .ok (.bipush 61, 2) := by decide +kernel
theorem dX12_next_137 : decode cX12_next 137 = .ok (.if_icmp .ne 7, 3) := by decide +kernel
theorem dX12_next_140 : decode cX12_next 140 = .ok (.iconst 3, 1) := by decide +kernel
theorem dX12_next_141 : decode cX12_next 141 = .ok (.goto 4, 3) := by decide +kernel
theorem dX12_next_144 : decode cX12_next 144 = .ok (.iconst 4, 1) := by decide +kernel
theorem dX12_next_145 : decode cX12_next 145 = .ok (.putfield 242, 3) := by decide +kernel
theorem dX12_next_148 : decode cX12_next 148 = .ok (.aload_n 0, 1) := by decide +kernel
theorem dX12_next_149 : decode cX12_next 149 = .ok (.iload_n 1, 1) := by decide +kernel
theorem dX12_next_150 : decode cX12_next 150 = .ok (.putfield 252, 3) := by decide +kernel
theorem dX12_next_153 : decode cX12_next 153 = .ok (.aload_n 0, 1) := by decide +kernel
theorem dX12_next_154 : decode cX12_next 154 = .ok (.dup, 1) := by decide +kernel
theorem dX12_next_155 : decode cX12_next 155 = .ok (.getfield 21, 3) := by decide +kernel
theorem dX12_next_158 : decode cX12_next 158 = .ok (.iconst 1, 1) := by decide +kernel
theorem dX12_next_159 : decode cX12_next 159 = .ok (.iadd, 1) := by decide +kernel
theorem dX12_next_160 : decode cX12_next 160 = .ok (.putfield 21, 3) := by decide +kernel
theorem dX12_next_163 : decode cX12_next 163 = .ok (.return_, 1) := by decide +kernel
theorem dX12_next_164 : decode cX12_next 164 = .ok (.iload_n 1, 1) := by decide +kernel
theorem dX12_next_165 : decode cX12_next 165 = .ok (.invokestatic 245, 3) := by decide +kernel
theorem dX12_next_168 : decode cX12_next 168 = .ok (.istore_n 2, 1) := by decide +kernel
theorem dX12_next_169 : decode cX12_next 169 = .ok (.iconst 1, 1) := by decide +kernel
theorem dX12_next_170 : decode cX12_next 170 = .ok (.istore_n 3, 1) := by decide +kernel
theorem dX12_next_171 : decode cX12_next 171 = .ok (.aload_n 0, 1) := by decide +kernel
theorem dX12_next_172 : decode cX12_next 172 = .ok (.lconst 0, 1) := by decide +kernel
theorem dX12_next_173 : decode cX12_next 173 = .ok (.putfield 255, 3) := by decide +kernel
theorem dX12_next_176 : decode cX12_next 176 = .ok (.aload_n 0, 1) := by decide +kernel
theorem dX12_next_177 : decode cX12_next 177 = .ok (.iconst 0, 1) := by decide +kernel
theorem dX12_next_178 : decode cX12_next 178 = .ok (.putfield 252, 3) := by decide +kernel
theorem dX12_next_181 : decode cX12_next 181 = .ok (.aload_n 0, 1) := by decide +kernel
theorem dX12_next_182 : decode cX12_next 182 = .ok (.invokevirtual 232, 3) := by decide +kernel
theorem dX12_next_185 : decode cX12_next 185 = .ok (.invokestatic 245, 3) := by decide +kernel
theorem dX12_next_188 : decode cX12_next 188 = .ok (.ifCond .ne 13, 3) := by decide +kernel
theorem dX12_next_191 : decode cX12_next 191 = .ok (.aload_n 0, 1) := by decide +kernel
theorem dX12_next_192 : decode cX12_next 192 = .ok (.invokevirtual 232, 3) := by decide +kernel
theorem dX12_next_195 : decode cX12_next 195 = .ok (.invokestatic 249, 3) := by decide +kernel
theorem dX12_next_198 : decode cX12_next 198 = .ok (.ifCond .eq 100, 3) := by decide +kernel
theorem dX12_next_201 : decode cX12_next 201 = .ok (.iload_n 3, 1) := by decide +kernel
theorem dX12_next_202 : decode cX12_next 202 = .ok (.ifCond .eq 18, 3) := by decide +kernel
theorem dX12_next_205 : decode cX12_next 205 = .ok (.aload_n 0, 1) := by decide +kernel
theorem dX12_next_206 : decode cX12_next 206 = .ok (.invokevirtual 232, 3) := by decide +kernel
theorem dX12_next_209 : decode cX12_next 209 = .ok (.invokestatic 245, 3) := by decide +kernel
theorem dX12_next_212 : decode cX12_next 212 = .ok (.iload_n 2, 1) := by decide +kernel
theorem dX12_next_213 : decode cX12_next 213 = .ok (.if_icmp .ne 7, 3) := by decide +kernel
theorem dX12_next_216 : decode cX12_next 216 = .ok (.iconst 1, 1) := by decide +kernel
theorem dX12_next_217 : decode cX12_next 217 = .ok (.goto 4, 3) := by decide +kernel
theorem dX12_next_220 : decode cX12_next 220 = .ok (.iconst 0, 1) := by decide +kernel
theorem dX12_next_221 : decode cX12_next 221 = .ok (.istore_n 3, 1) := by decide +kernel
theorem dX12_next_222 : decode cX12_next 222 = .ok (.aload_n 0, 1) := by decide +kernel
theorem dX12_next_223 : decode cX12_next 223 = .ok (.getfield 239, 3) := by decide +kernel
theorem dX12_next_226 : decode cX12_next 226 = .ok (.bipush 6, 2) := by decide +kernel
theorem dX12_next_228 : decode cX12_next 228 = .ok (.if_icmp .ge 20, 3) := by decide +kernel
theorem dX12_next_231 : decode cX12_next 231 = .ok (.aload_n 0, 1) := by decide +kernel
theorem dX12_next_232 : decode cX12_next 232 = .ok (.aload_n 0, 1) := by decide +kernel
theorem dX12_next_233 : decode cX12_next 233 = .ok (.getfield 255, 3) := by decide +kernel
theorem dX12_next_236 : decode cX12_next 236 = .ok (.bipush 8, 2) := by decide +kernel
theorem dX12_next_238 : decode cX12_next 238 = .ok (.lshl, 1) := by decide +kernel
theorem dX12_next_239 : decode cX12_next 239 = .ok (.aload_n 0, 1) := by decide +kernel
theorem dX12_next_240 : decode cX12_next 240 = .ok (.invokevirtual 232, 3) := by decide +kernel
theorem dX12_next_243 : decode cX12_next 243 = .ok (.i2l, 1) := by decide +kernel
theorem dX12_next_244 : decode cX12_next 244 = .ok (.lor, 1) := by decide +kernel
theorem dX12_next_245 : decode cX12_next 245 = .ok (.putfield 255, 3) := by decide +kernel
theorem dX12_next_248 : decode cX12_next 248 = .ok (.aload_n 0, 1) := by decide +kernel
theorem dX12_next_249 : decode cX12_next 249 = .ok (.getfield 239, 3) := by decide +kernel
theorem dX12_next_252 : decode cX12_next 252 = .ok (.iconst 2, 1) := by decide +kernel
theorem dX12_next_253 : decode cX12_next 253 = .ok (.if_icmp .ge 22, 3) := by decide +kernel
theorem dX12_next_256 : decode cX12_next 256 = .ok (.aload_n 0, 1) := by decide +kernel
theorem dX12_next_257 : decode cX12_next 257 = .ok (.bipush 10, 2) := by decide +kernel
theorem dX12_next_259 : decode cX12_next 259 = .ok (.aload_n 0, 1) := by decide +kernel
theorem dX12_next_260 : decode cX12_next 260 = .ok (.getfield 252, 3) := by decide +kernel
theorem dX12_next_263 : decode cX12_next 263 = .ok (.imul, 1) := by decide +kernel
theorem dX12_next_264 : decode cX12_next 264 = .ok (.aload_n 0, 1) := by decide +kernel
theorem dX12_next_265 : decode cX12_next 265 = .ok (.invokevirtual 232, 3) := by decide +kernel
theorem dX12_next_268 : decode cX12_next 268 = .ok (.iadd, 1) := by decide +kernel
theorem dX12_next_269 : decode cX12_next 269 = .ok (.bipush 48, 2) := by decide +kernel
theorem dX12_next_271 : decode cX12_next 271 = .ok (.isub, 1) := by decide +kernel
theorem dX12_next_272 : decode cX12_next 272 = .ok (.putfield 252, 3) := by decide +kernel
theorem dX12_next_275 : decode cX12_next 275 = .ok (.aload_n 0, 1) := by decide +kernel
theorem dX12_next_276 : decode cX12_next 276 = .ok (.dup, 1) := by decide +kernel
theorem dX12_next_277 : decode cX12_next 277 = .ok (.getfield 239, 3) := by decide +kernel
theorem dX12_next_280 : decode cX12_next 280 = .ok (.iconst 1, 1) := by decide +kernel
theorem dX12_next_281 : decode cX12_next 281 = .ok (.iadd, 1) := by decide +kernel
theorem dX12_next_282 : decode cX12_next 282 = .ok (.putfield 239, 3) := by decide +kernel
theorem dX12_next_285 : decode cX12_next 285 = .ok (.aload_n 0, 1) := by decide +kernel
theorem dX12_next_286 : decode cX12_next 286 = .ok (.dup, 1) := by decide +kernel
theorem dX12_next_287 : decode cX12_next 287 = .ok (.getfield 21, 3) := by decide +kernel
theorem dX12_next_290 : decode cX12_next 290 = .ok (.iconst 1, 1) := by decide +kernel
theorem dX12_next_291 : decode cX12_next 291 = .ok (.iadd, 1) := by decide +kernel
theorem dX12_next_292 : decode cX12_next 292 = .ok (.putfield 21, 3) := by decide +kernel
theorem dX12_next_295 : decode cX12_next 295 = .ok (.goto (-114), 3) := by decide +kernel
theorem dX12_next_298 : decode cX12_next 298 = .ok (.aload_n 0, 1) := by decide +kernel
theorem dX12_next_299 : decode cX12_next 299 = .ok (.iload_n 3, 1) := by decide +kernel
theorem dX12_next_300 : decode cX12_next 300 = .ok (.ifCond .eq 20, 3) := by decide +kernel
theorem dX12_next_303 : decode cX12_next 303 = .ok (.aload_n 0, 1) := by decide +kernel
theorem dX12_next_304 : decode cX12_next 304 = .ok (.getfield 239, 3) := by decide +kernel
theorem dX12_next_307 : decode cX12_next 307 = .ok (.iload_n 2, 1) := by decide +kernel
theorem dX12_next_308 : decode cX12_next 308 = .ok (.ifCond .eq 8, 3) := by decide +kernel
theorem dX12_next_311 : decode cX12_next 311 = .ok (.bipush 6, 2) := by decide +kernel
theorem dX12_next_313 : decode cX12_next 313 = .ok (.goto 4, 3) := by decide +kernel
theorem dX12_next_316 : decode cX12_next 316 = .ok (.iconst 2, 1) := by decide +kernel
theorem dX12_next_317 : decode cX12_next 317 = .ok (.if_icmp .le 7, 3) := by decide +kernel
theorem dX12_next_320 : decode cX12_next 320 = .ok (.iconst 4, 1) := by decide +kernel
theorem dX12_next_321 : decode cX12_next 321 = .ok (.goto 12, 3) := by decide +kernel
theorem dX12_next_324 : decode cX12_next 324 = .ok (.iload_n 2, 1) := by decide +kernel
theorem dX12_next_325 : decode cX12_next 325 = .ok (.ifCond .eq 7, 3) := by decide +kernel
theorem dX12_next_328 : decode cX12_next 328 = .ok (.iconst 1, 1) := by decide +kernel
theorem dX12_next_329 : decode cX12_next 329 = .ok (.goto 4, 3) := by decide +kernel
theorem dX12_next_332 : decode cX12_next 332 = .ok (.iconst 2, 1) := by decide +kernel
theorem dX12_next_333 : decode cX12_next 333 = .ok (.putfield 242, 3) := by decide +kernel
theorem dX12_next_336 : decode cX12_next 336 = .ok (.return_, 1) := by decide +kernel
theorem dX12_bad_0 : decode cX12_bad 0 = .ok (.aload_n 0, 1) := by decide +kernel
theorem dX12_bad_1 : decode cX12_bad 1 = .ok (.iload_n 1, 1) := by decide +kernel
theorem dX12_bad_2 : decode cX12_bad 2 = .ok (.putfield 259, 3) := by decide +kernel
theorem dX12_bad_5 : decode cX12_bad 5 = .ok (.aload_n 0, 1) := by decide +kernel
theorem dX12_bad_6 : decode cX12_bad 6 = .ok (.aload_n 0, 1) := by decide +kernel
theorem dX12_bad_7 : decode cX12_bad 7 = .ok (.getfield 236, 3) := by decide +kernel
theorem dX12_bad_10 : decode cX12_bad 10 = .ok (.putfield 262, 3) := by decide +kernel
theorem dX12_bad_13 : decode cX12_bad 13 = .ok (.iconst 0, 1) := by decide +kernel
theorem dX12_bad_14 : decode cX12_bad 14 = .ok (.ireturn, 1) := by decide +kernel
theorem dX12_isWord_0 : decode cX12_isWord 0 = .ok (.aload_n 0, 1) := by decide +kernel
theorem dX12_isWord_1 : decode cX12_isWord 1 = .ok (.getfield 242, 3) := by decide +kernel
theorem dX12_isWord_4 : decode cX12_isWord 4 = .ok (.iconst 1, 1) := by decide +kernel
theorem dX12_isWord_5 : decode cX12_isWord 5 = .ok (.if_icmp .ne 16, 3) := by decide +kernel
theorem dX12_isWord_8 : decode cX12_isWord 8 = .ok (.aload_n 0, 1) := by decide +kernel
theorem dX12_isWord_9 : decode cX12_isWord 9 = .ok (.getfield 255, 3) := by decide +kernel
theorem dX12_isWord_12 : decode cX12_isWord 12 = .ok (.lload_n 1, 1) := by decide +kernel
theorem dX12_isWord_13 : decode cX12_isWord 13 = .ok (.lcmp, 1) := by decide +kernel
theorem dX12_isWord_14 : decode cX12_isWord 14 = .ok (.ifCond .ne 7, 3) := by decide +kernel
theorem dX12_isWord_17 : decode cX12_isWord 17 = .ok (.iconst 1, 1) := by decide +kernel
theorem dX12_isWord_18 : decode cX12_isWord 18 = .ok (.goto 4, 3) := by decide +kernel
theorem dX12_isWord_21 : decode cX12_isWord 21 = .ok (.iconst 0, 1) := by decide +kernel
theorem dX12_isWord_22 : decode cX12_isWord 22 = .ok (.ireturn, 1) := by decide +kernel
theorem dX12_isSign_0 : decode cX12_isSign 0 = .ok (.aload_n 0, 1) := by decide +kernel
theorem dX12_isSign_1 : decode cX12_isSign 1 = .ok (.getfield 242, 3) := by decide +kernel
theorem dX12_isSign_4 : decode cX12_isSign 4 = .ok (.iconst 3, 1) := by decide +kernel
theorem dX12_isSign_5 : decode cX12_isSign 5 = .ok (.if_icmp .ne 15, 3) := by decide +kernel
theorem dX12_isSign_8 : decode cX12_isSign 8 = .ok (.aload_n 0, 1) := by decide +kernel
theorem dX12_isSign_9 : decode cX12_isSign 9 = .ok (.getfield 252, 3) := by decide +kernel
theorem dX12_isSign_12 : decode cX12_isSign 12 = .ok (.iload_n 1, 1) := by decide +kernel
theorem dX12_isSign_13 : decode cX12_isSign 13 = .ok (.if_icmp .ne 7, 3) := by decide +kernel
theorem dX12_isSign_16 : decode cX12_isSign 16 = .ok (.iconst 1, 1) := by decide +kernel
theorem dX12_isSign_17 : decode cX12_isSign 17 = .ok (.goto 4, 3) := by decide +kernel
theorem dX12_isSign_20 : decode cX12_isSign 20 = .ok (.iconst 0, 1) := by decide +kernel
theorem dX12_isSign_21 : decode cX12_isSign 21 = .ok (.ireturn, 1) := by decide +kernel
theorem dX12_sign_0 : decode cX12_sign 0 = .ok (.aload_n 0, 1) := by decide +kernel
theorem dX12_sign_1 : decode cX12_sign 1 = .ok (.iload_n 1, 1) := by decide +kernel
theorem dX12_sign_2 : decode cX12_sign 2 = .ok (.invokevirtual 265, 3) := by decide +kernel
theorem dX12_sign_5 : decode cX12_sign 5 = .ok (.ifCond .ne 9, 3) := by decide +kernel
theorem dX12_sign_8 : decode cX12_sign 8 = .ok (.aload_n 0, 1) := by decide +kernel
theorem dX12_sign_9 : decode cX12_sign 9 = .ok (.iconst 1, 1) := by decide +kernel
theorem dX12_sign_10 : decode cX12_sign 10 = .ok (.invokevirtual 268, 3) := by decide +kernel
theorem dX12_sign_13 : decode cX12_sign 13 = .ok (.ireturn, 1) := by decide +kernel
theorem dX12_sign_14 : decode cX12_sign 14 = .ok (.aload_n 0, 1) := by decide +kernel
theorem dX12_sign_15 : decode cX12_sign 15 = .ok (.invokevirtual 271, 3) := by decide +kernel
theorem dX12_sign_18 : decode cX12_sign 18 = .ok (.iconst 1, 1) := by decide +kernel
theorem dX12_sign_19 : decode cX12_sign 19 = .ok (.ireturn, 1) := by decide +kernel
theorem dX12_tokens_0 : decode cX12_tokens 0 = .ok (.aload_n 0, 1) := by decide +kernel
theorem dX12_tokens_1 : decode cX12_tokens 1 = .ok (.iconst 0, 1) := by decide +kernel
theorem dX12_tokens_2 : decode cX12_tokens 2 = .ok (.putfield 274, 3) := by decide +kernel
theorem dX12_tokens_5 : decode cX12_tokens 5 = .ok (.iload_n 1, 1) := by decide +kernel
theorem dX12_tokens_6 : decode cX12_tokens 6 = .ok (.istore_n 2, 1) := by decide +kernel
theorem dX12_tokens_7 : decode cX12_tokens 7 = .ok (.iload_n 2, 1) := by decide +kernel
theorem dX12_tokens_8 : decode cX12_tokens 8 = .ok (.iconst 1, 1) := by decide +kernel
theorem dX12_tokens_9 : decode cX12_tokens 9 = .ok (.if_icmp .le 20, 3) := by decide +kernel
theorem dX12_tokens_12 : decode cX12_tokens 12 = .ok (.aload_n 0, 1) := by decide +kernel
theorem dX12_tokens_13 : decode cX12_tokens 13 = .ok (.dup, 1) := by decide +kernel
theorem dX12_tokens_14 : decode cX12_tokens 14 = .ok (.getfield 274, 3) := by decide +kernel
theorem dX12_tokens_17 : decode cX12_tokens 17 = .ok (.iconst 1, 1) := by decide +kernel
theorem dX12_tokens_18 : decode cX12_tokens 18 = .ok (.iadd, 1) := by decide +kernel
theorem dX12_tokens_19 : decode cX12_tokens 19 = .ok (.putfield 274, 3) := by decide +kernel
theorem dX12_tokens_22 : decode cX12_tokens 22 = .ok (.iload_n 2, 1) := by decide +kernel
theorem dX12_tokens_23 : decode cX12_tokens 23 = .ok (.iconst 2, 1) := by decide +kernel
theorem dX12_tokens_24 : decode cX12_tokens 24 = .ok (.ishr, 1) := by decide +kernel
theorem dX12_tokens_25 : decode cX12_tokens 25 = .ok (.istore_n 2, 1) := by decide +kernel
theorem dX12_tokens_26 : decode cX12_tokens 26 = .ok (.goto (-19), 3) := by decide +kernel
theorem dX12_tokens_29 : decode cX12_tokens 29 = .ok (.iconst 0, 1) := by decide +kernel
theorem dX12_tokens_30 : decode cX12_tokens 30 = .ok (.istore_n 2, 1) := by decide +kernel
theorem dX12_tokens_31 : decode cX12_tokens 31 = .ok (.iload_n 2, 1) := by decide +kernel
theorem dX12_tokens_32 : decode cX12_tokens 32 = .ok (.aload_n 0, 1) := by decide +kernel
theorem dX12_tokens_33 : decode cX12_tokens 33 = .ok (.getfield 274, 3) := by decide +kernel
theorem dX12_tokens_36 : decode cX12_tokens 36 = .ok (.if_icmp .ge 29, 3) := by decide +kernel
theorem dX12_tokens_39 : decode cX12_tokens 39 = .ok (.aload_n 0, 1) := by decide +kernel
theorem dX12_tokens_40 : decode cX12_tokens 40 = .ok (.getfield 44, 3) := by decide +kernel
theorem dX12_tokens_43 : decode cX12_tokens 43 = .ok (.iload_n 2, 1) := by decide +kernel
theorem dX12_tokens_44 : decode cX12_tokens 44 = .ok (.iload_n 1, 1) := by decide +kernel
theorem dX12_tokens_45 : decode cX12_tokens 45 = .ok (.iconst 2, 1) := by decide +kernel
theorem dX12_tokens_46 : decode cX12_tokens 46 = .ok (.aload_n 0, 1) := by decide +kernel
theorem dX12_tokens_47 : decode cX12_tokens 47 = .ok (.getfield 274, 3) := by decide +kernel
theorem dX12_tokens_50 : decode cX12_tokens 50 = .ok (.iconst 1, 1) := by decide +kernel
theorem dX12_tokens_51 : decode cX12_tokens 51 = .ok (.isub, 1) := by decide +kernel
theorem dX12_tokens_52 : decode cX12_tokens 52 = .ok (.iload_n 2, 1) := by decide +kernel
theorem dX12_tokens_53 : decode cX12_tokens 53 = .ok (.isub, 1) := by decide +kernel
theorem dX12_tokens_54 : decode cX12_tokens 54 = .ok (.imul, 1) := by decide +kernel
theorem dX12_tokens_55 : decode cX12_tokens 55 = .ok (.ishr, 1) := by decide +kernel
theorem dX12_tokens_56 : decode cX12_tokens 56 = .ok (.iconst 3, 1) := by decide +kernel
theorem dX12_tokens_57 : decode cX12_tokens 57 = .ok (.iand, 1) := by decide +kernel
theorem dX12_tokens_58 : decode cX12_tokens 58 = .ok (.iastore, 1) := by decide +kernel
theorem dX12_tokens_59 : decode cX12_tokens 59 = .ok (.iinc 2 1, 3) := by decide +kernel
theorem dX12_tokens_62 : decode cX12_tokens 62 = .ok (.goto (-31), 3) := by decide +kernel
theorem dX12_tokens_65 : decode cX12_tokens 65 = .ok (.return_, 1) := by decide +kernel
theorem dX12_join_0 : decode cX12_join 0 = .ok (.iconst 0, 1) := by decide +kernel
theorem dX12_join_1 : decode cX12_join 1 = .ok (.istore_n 2, 1) := by decide +kernel
theorem dX12_join_2 : decode cX12_join 2 = .ok (.iload_n 1, 1) := by decide +kernel
theorem dX12_join_3 : decode cX12_join 3 = .ok (.iload_n 2, 1) := by decide +kernel
theorem dX12_join_4 : decode cX12_join 4 = .ok (.ishr, 1) := by decide +kernel
theorem dX12_join_5 : decode cX12_join 5 = .ok (.iconst 1, 1) := by decide +kernel
theorem dX12_join_6 : decode cX12_join 6 = .ok (.if_icmp .le 9, 3) := by decide +kernel
theorem dX12_join_9 : decode cX12_join 9 = .ok (.iinc 2 2, 3) := by decide +kernel
theorem dX12_join_12 : decode cX12_join 12 = .ok (.goto (-10), 3) := by decide +kernel
theorem dX12_join_15 : decode cX12_join 15 = .ok (.iload_n 0, 1) := by decide +kernel
theorem dX12_join_16 : decode cX12_join 16 = .ok (.iload_n 2, 1) := by decide +kernel
theorem dX12_join_17 : decode cX12_join 17 = .ok (.ishl, 1) := by decide +kernel
theorem dX12_join_18 : decode cX12_join 18 = .ok (.iload_n 1, 1) := by decide +kernel
theorem dX12_join_19 : decode cX12_join 19 = .ok (.iconst 1, 1) := by decide +kernel
theorem dX12_join_20 : decode cX12_join 20 = .ok (.iload_n 2, 1) := by decide +kernel
theorem dX12_join_21 : decode cX12_join 21 = .ok (.ishl, 1) := by decide +kernel
theorem dX12_join_22 : decode cX12_join 22 = .ok (.iconst 1, 1) := by decide +kernel
theorem dX12_join_23 : decode cX12_join 23 = .ok (.isub, 1) := by decide +kernel
theorem dX12_join_24 : decode cX12_join 24 = .ok (.iand, 1) := by decide +kernel
theorem dX12_join_25 : decode cX12_join 25 = .ok (.ior, 1) := by decide +kernel
theorem dX12_join_26 : decode cX12_join 26 = .ok (.ireturn, 1) := by decide +kernel
theorem dX12_paths_0 : decode cX12_paths 0 = .ok (.aload_n 0, 1) := by decide +kernel
theorem dX12_paths_1 : decode cX12_paths 1 = .ok (.iload_n 1, 1) := by decide +kernel
theorem dX12_paths_2 : decode cX12_paths 2 = .ok (.invokevirtual 277, 3) := by decide +kernel
theorem dX12_paths_5 : decode cX12_paths 5 = .ok (.aload_n 0, 1) := by decide +kernel
theorem dX12_paths_6 : decode cX12_paths 6 = .ok (.iconst 0, 1) := by decide +kernel
theorem dX12_paths_7 : decode cX12_paths 7 = .ok (.putfield 280, 3) := by decide +kernel
theorem dX12_paths_10 : decode cX12_paths 10 = .ok (.iconst 0, 1) := by decide +kernel
theorem dX12_paths_11 : decode cX12_paths 11 = .ok (.istore_n 3, 1) := by decide +kernel
theorem dX12_paths_12 : decode cX12_paths 12 = .ok (.iconst 1, 1) := by decide +kernel
theorem dX12_paths_13 : decode cX12_paths 13 = .ok (.istore 4, 2) := by decide +kernel
theorem dX12_paths_15 : decode cX12_paths 15 = .ok (.iconst 0, 1) := by decide +kernel
theorem dX12_paths_16 : decode cX12_paths 16 = .ok (.istore 5, 2) := by decide +kernel
theorem dX12_paths_18 : decode cX12_paths 18 = .ok (.iload 5, 2) := by decide +kernel
theorem dX12_paths_20 : decode cX12_paths 20 = .ok (.aload_n 0, 1) := by decide +kernel
theorem dX12_paths_21 : decode cX12_paths 21 = .ok (.getfield 274, 3) := by decide +kernel
theorem dX12_paths_24 : decode cX12_paths 24 = .ok (.if_icmp .ge 136, 3) := by decide +kernel
theorem dX12_paths_27 : decode cX12_paths 27 = .ok (.aload_n 0, 1) := by decide +kernel
theorem dX12_paths_28 : decode cX12_paths 28 = .ok (.getfield 44, 3) := by decide +kernel
theorem dX12_paths_31 : decode cX12_paths 31 = .ok (.iload 5, 2) := by decide +kernel
theorem dX12_paths_33 : decode cX12_paths 33 = .ok (.iaload, 1) := by decide +kernel
theorem dX12_paths_34 : decode cX12_paths 34 = .ok (.ifCond .le 55, 3) := by decide +kernel
theorem dX12_paths_37 : decode cX12_paths 37 = .ok (.aload_n 0, 1) := by decide +kernel
theorem dX12_paths_38 : decode cX12_paths 38 = .ok (.getfield 50, 3) := by decide +kernel
theorem dX12_paths_41 : decode cX12_paths 41 = .ok (.iload_n 3, 1) := by decide +kernel
theorem dX12_paths_42 : decode cX12_paths 42 = .ok (.iload 4, 2) := by decide +kernel
theorem dX12_paths_44 : decode cX12_paths 44 = .ok (.iastore, 1) := by decide +kernel
theorem dX12_paths_45 : decode cX12_paths 45 = .ok (.aload_n 0, 1) := by decide +kernel
theorem dX12_paths_46 : decode cX12_paths 46 = .ok (.getfield 53, 3) := by decide +kernel
theorem dX12_paths_49 : decode cX12_paths 49 = .ok (.iload_n 3, 1) := by decide +kernel
theorem dX12_paths_50 : decode cX12_paths 50 = .ok (.aload_n 0, 1) := by decide +kernel
theorem dX12_paths_51 : decode cX12_paths 51 = .ok (.getfield 56, 3) := by decide +kernel
theorem dX12_paths_54 : decode cX12_paths 54 = .ok (.iload_n 2, 1) := by decide +kernel
theorem dX12_paths_55 : decode cX12_paths 55 = .ok (.iconst 4, 1) := by decide +kernel
theorem dX12_paths_56 : decode cX12_paths 56 = .ok (.iadd, 1) := by decide +kernel
theorem dX12_paths_57 : decode cX12_paths 57 = .ok (.aload_n 0, 1) := by decide +kernel
theorem dX12_paths_58 : decode cX12_paths 58 = .ok (.getfield 44, 3) := by decide +kernel
theorem dX12_paths_61 : decode cX12_paths 61 = .ok (.iload 5, 2) := by decide +kernel
theorem dX12_paths_63 : decode cX12_paths 63 = .ok (.iaload, 1) := by decide +kernel
theorem dX12_paths_64 : decode cX12_paths 64 = .ok (.iadd, 1) := by decide +kernel
theorem dX12_paths_65 : decode cX12_paths 65 = .ok (.iconst 1, 1) := by decide +kernel
theorem dX12_paths_66 : decode cX12_paths 66 = .ok (.isub, 1) := by decide +kernel
theorem dX12_paths_67 : decode cX12_paths 67 = .ok (.iaload, 1) := by decide +kernel
theorem dX12_paths_68 : decode cX12_paths 68 = .ok (.iastore, 1) := by decide +kernel
theorem dX12_paths_69 : decode cX12_paths 69 = .ok (.iinc 3 1, 3) := by decide +kernel
theorem dX12_paths_72 : decode cX12_paths 72 = .ok (.iload 4, 2) := by decide +kernel
theorem dX12_paths_74 : decode cX12_paths 74 = .ok (.iconst 2, 1) := by decide +kernel
theorem dX12_paths_75 : decode cX12_paths 75 = .ok (.ishl, 1) := by decide +kernel
theorem dX12_paths_76 : decode cX12_paths 76 = .ok (.aload_n 0, 1) := by decide +kernel
theorem dX12_paths_77 : decode cX12_paths 77 = .ok (.getfield 44, 3) := by decide +kernel
theorem dX12_paths_80 : decode cX12_paths 80 = .ok (.iload 5, 2) := by decide +kernel
theorem dX12_paths_82 : decode cX12_paths 82 = .ok (.iaload, 1) := by decide +kernel
theorem dX12_paths_83 : decode cX12_paths 83 = .ok (.ior, 1) := by decide +kernel
theorem dX12_paths_84 : decode cX12_paths 84 = .ok (.istore 4, 2) := by decide +kernel
theorem dX12_paths_86 : decode cX12_paths 86 = .ok (.goto 68, 3) := by decide +kernel
theorem dX12_paths_89 : decode cX12_paths 89 = .ok (.aload_n 0, 1) := by decide +kernel
theorem dX12_paths_90 : decode cX12_paths 90 = .ok (.getfield 47, 3) := by decide +kernel
theorem dX12_paths_93 : decode cX12_paths 93 = .ok (.aload_n 0, 1) := by decide +kernel
theorem dX12_paths_94 : decode cX12_paths 94 = .ok (.getfield 280, 3) := by decide +kernel
theorem dX12_paths_97 : decode cX12_paths 97 = .ok (.iload 4, 2) := by decide +kernel
theorem dX12_paths_99 : decode cX12_paths 99 = .ok (.iastore, 1) := by decide +kernel
theorem dX12_paths_100 : decode cX12_paths 100 = .ok (.aload_n 0, 1) := by decide +kernel
theorem dX12_paths_101 : decode cX12_paths 101 = .ok (.dup, 1) := by decide +kernel
theorem dX12_paths_102 : decode cX12_paths 102 = .ok (.getfield 280, 3) := by decide +kernel
theorem dX12_paths_105 : decode cX12_paths 105 = .ok (.iconst 1, 1) := by decide +kernel
theorem dX12_paths_106 : decode cX12_paths 106 = .ok (.iadd, 1) := by decide +kernel
theorem dX12_paths_107 : decode cX12_paths 107 = .ok (.putfield 280, 3) := by decide +kernel
theorem dX12_paths_110 : decode cX12_paths 110 = .ok (.iload_n 3, 1) := by decide +kernel
theorem dX12_paths_111 : decode cX12_paths 111 = .ok (.ifCond .le 43, 3) := by decide +kernel
theorem dX12_paths_114 : decode cX12_paths 114 = .ok (.aload_n 0, 1) := by decide +kernel
theorem dX12_paths_115 : decode cX12_paths 115 = .ok (.getfield 53, 3) := by decide +kernel
theorem dX12_paths_118 : decode cX12_paths 118 = .ok (.iload_n 3, 1) := by decide +kernel
theorem dX12_paths_119 : decode cX12_paths 119 = .ok (.iconst 1, 1) := by decide +kernel
theorem dX12_paths_120 : decode cX12_paths 120 = .ok (.isub, 1) := by decide +kernel
theorem dX12_paths_121 : decode cX12_paths 121 = .ok (.dup2, 1) := by decide +kernel
theorem dX12_paths_122 : decode cX12_paths 122 = .ok (.iaload, 1) := by decide +kernel
theorem dX12_paths_123 : decode cX12_paths 123 = .ok (.iconst 1, 1) := by decide +kernel
theorem dX12_paths_124 : decode cX12_paths 124 = .ok (.isub, 1) := by decide +kernel
theorem dX12_paths_125 : decode cX12_paths 125 = .ok (.iastore, 1) := by decide +kernel
theorem dX12_paths_126 : decode cX12_paths 126 = .ok (.aload_n 0, 1) := by decide +kernel
theorem dX12_paths_127 : decode cX12_paths 127 = .ok (.getfield 53, 3) := by decide +kernel
theorem dX12_paths_130 : decode cX12_paths 130 = .ok (.iload_n 3, 1) := by decide +kernel
theorem dX12_paths_131 : decode cX12_paths 131 = .ok (.iconst 1, 1) := by decide +kernel
theorem dX12_paths_132 : decode cX12_paths 132 = .ok (.isub, 1) := by decide +kernel
theorem dX12_paths_133 : decode cX12_paths 133 = .ok (.iaload, 1) := by decide +kernel
theorem dX12_paths_134 : decode cX12_paths 134 = .ok (.ifCond .le 6, 3) := by decide +kernel
theorem dX12_paths_137 : decode cX12_paths 137 = .ok (.goto 17, 3) := by decide +kernel
theorem dX12_paths_140 : decode cX12_paths 140 = .ok (.iinc 3 (-1), 3) := by decide +kernel
theorem dX12_paths_143 : decode cX12_paths 143 = .ok (.aload_n 0, 1) := by decide +kernel
theorem dX12_paths_144 : decode cX12_paths 144 = .ok (.getfield 50, 3) := by decide +kernel
theorem dX12_paths_147 : decode cX12_paths 147 = .ok (.iload_n 3, 1) := by decide +kernel
theorem dX12_paths_148 : decode cX12_paths 148 = .ok (.iaload, 1) := by decide +kernel
theorem dX12_paths_149 : decode cX12_paths 149 = .ok (.istore 4, 2) := by decide +kernel
theorem dX12_paths_151 : decode cX12_paths 151 = .ok (.goto (-41), 3) := by decide +kernel
theorem dX12_paths_154 : decode cX12_paths 154 = .ok (.iinc 5 1, 3) := by decide +kernel
theorem dX12_paths_157 : decode cX12_paths 157 = .ok (.goto (-139), 3) := by decide +kernel
theorem dX12_paths_160 : decode cX12_paths 160 = .ok (.return_, 1) := by decide +kernel
theorem dX12_ownWorld_0 : decode cX12_ownWorld 0 = .ok (.aload_n 0, 1) := by decide +kernel
theorem dX12_ownWorld_1 : decode cX12_ownWorld 1 = .ok (.getfield 91, 3) := by decide +kernel
theorem dX12_ownWorld_4 : decode cX12_ownWorld 4 = .ok (.iconst 1, 1) := by decide +kernel
theorem dX12_ownWorld_5 : decode cX12_ownWorld 5 = .ok (.if_icmp .ne 4, 3) := by decide +kernel
theorem dX12_ownWorld_8 : decode cX12_ownWorld 8 = .ok (.return_, 1) := by decide +kernel
theorem dX12_ownWorld_9 : decode cX12_ownWorld 9 = .ok (.aload_n 0, 1) := by decide +kernel
theorem dX12_ownWorld_10 : decode cX12_ownWorld 10 = .ok (.iconst 1, 1) := by decide +kernel
theorem dX12_ownWorld_11 : decode cX12_ownWorld 11 = .ok (.putfield 91, 3) := by decide +kernel
theorem dX12_ownWorld_14 : decode cX12_ownWorld 14 = .ok (.iconst 0, 1) := by decide +kernel
theorem dX12_ownWorld_15 : decode cX12_ownWorld 15 = .ok (.istore_n 1, 1) := by decide +kernel
theorem dX12_ownWorld_16 : decode cX12_ownWorld 16 = .ok (.iload_n 1, 1) := by decide +kernel
theorem dX12_ownWorld_17 : decode cX12_ownWorld 17 = .ok (.sipush 1173, 3) := by decide +kernel
theorem dX12_ownWorld_20 : decode cX12_ownWorld 20 = .ok (.if_icmp .ge 21, 3) := by decide +kernel
theorem dX12_ownWorld_23 : decode cX12_ownWorld 23 = .ok (.aload_n 0, 1) := by decide +kernel
theorem dX12_ownWorld_24 : decode cX12_ownWorld 24 = .ok (.getfield 56, 3) := by decide +kernel
theorem dX12_ownWorld_27 : decode cX12_ownWorld 27 = .ok (.iload_n 1, 1) := by decide +kernel
theorem dX12_ownWorld_28 : decode cX12_ownWorld 28 = .ok (.aload_n 0, 1) := by decide +kernel
theorem dX12_ownWorld_29 : decode cX12_ownWorld 29 = .ok (.getfield 33, 3) := by decide +kernel
theorem dX12_ownWorld_32 : decode cX12_ownWorld 32 = .ok (.iload_n 1, 1) := by decide +kernel
theorem dX12_ownWorld_33 : decode cX12_ownWorld 33 = .ok (.iaload, 1) := by decide +kernel
theorem dX12_ownWorld_34 : decode cX12_ownWorld 34 = .ok (.iastore, 1) := by decide +kernel
theorem dX12_ownWorld_35 : decode cX12_ownWorld 35 = .ok (.iinc 1 1, 3) := by decide +kernel
theorem dX12_ownWorld_38 : decode cX12_ownWorld 38 = .ok (.goto (-22), 3) := by decide +kernel
theorem dX12_ownWorld_41 : decode cX12_ownWorld 41 = .ok (.aload_n 0, 1) := by decide +kernel
theorem dX12_ownWorld_42 : decode cX12_ownWorld 42 = .ok (.getfield 59, 3) := by decide +kernel
theorem dX12_ownWorld_45 : decode cX12_ownWorld 45 = .ok (.iconst 0, 1) := by decide +kernel
theorem dX12_ownWorld_46 : decode cX12_ownWorld 46 = .ok (.iconst 0, 1) := by decide +kernel
theorem dX12_ownWorld_47 : decode cX12_ownWorld 47 = .ok (.iastore, 1) := by decide +kernel
theorem dX12_ownWorld_48 : decode cX12_ownWorld 48 = .ok (.return_, 1) := by decide +kernel
theorem dX12_otherWorld_0 : decode cX12_otherWorld 0 = .ok (.aload_n 0, 1) := by decide +kernel
theorem dX12_otherWorld_1 : decode cX12_otherWorld 1 = .ok (.getfield 59, 3) := by decide +kernel
theorem dX12_otherWorld_4 : decode cX12_otherWorld 4 = .ok (.iconst 1, 1) := by decide +kernel
theorem dX12_otherWorld_5 : decode cX12_otherWorld 5 = .ok (.iconst 0, 1) := by decide +kernel
theorem dX12_otherWorld_6 : decode cX12_otherWorld 6 = .ok (.iastore, 1) := by decide +kernel
theorem dX12_otherWorld_7 : decode cX12_otherWorld 7 = .ok (.return_, 1) := by decide +kernel
theorem dX12_totals_0 : decode cX12_totals 0 = .ok (.iconst 1, 1) := by decide +kernel
theorem dX12_totals_1 : decode cX12_totals 1 = .ok (.istore_n 2, 1) := by decide +kernel
theorem dX12_totals_2 : decode cX12_totals 2 = .ok (.iload_n 2, 1) := by decide +kernel
theorem dX12_totals_3 : decode cX12_totals 3 = .ok (.bipush 10, 2) := by decide +kernel
theorem dX12_totals_5 : decode cX12_totals 5 = .ok (.if_icmp .gt 82, 3) := by decide +kernel
theorem dX12_totals_8 : decode cX12_totals 8 = .ok (.iload_n 2, 1) := by decide +kernel
theorem dX12_totals_9 : decode cX12_totals 9 = .ok (.iconst 1, 1) := by decide +kernel
theorem dX12_totals_10 : decode cX12_totals 10 = .ok (.if_icmp .ne 7, 3) := by decide +kernel
theorem dX12_totals_13 : decode cX12_totals 13 = .ok (.lconst 1, 1) := by decide +kernel
theorem dX12_totals_14 : decode cX12_totals 14 = .ok (.goto 4, 3) := by decide +kernel
theorem dX12_totals_17 : decode cX12_totals 17 = .ok (.lconst 0, 1) := by decide +kernel
theorem dX12_totals_18 : decode cX12_totals 18 = .ok (.lstore_n 3, 1) := by decide +kernel
theorem dX12_totals_19 : decode cX12_totals 19 = .ok (.iconst 0, 1) := by decide +kernel
theorem dX12_totals_20 : decode cX12_totals 20 = .ok (.istore 5, 2) := by decide +kernel
theorem dX12_totals_22 : decode cX12_totals 22 = .ok (.iload 5, 2) := by decide +kernel
theorem dX12_totals_24 : decode cX12_totals 24 = .ok (.aload_n 0, 1) := by decide +kernel
theorem dX12_totals_25 : decode cX12_totals 25 = .ok (.getfield 56, 3) := by decide +kernel
theorem dX12_totals_28 : decode cX12_totals 28 = .ok (.sipush 1173, 3) := by decide +kernel
theorem dX12_totals_31 : decode cX12_totals 31 = .ok (.iload_n 1, 1) := by decide +kernel
theorem dX12_totals_32 : decode cX12_totals 32 = .ok (.imul, 1) := by decide +kernel
theorem dX12_totals_33 : decode cX12_totals 33 = .ok (.iconst 1, 1) := by decide +kernel
theorem dX12_totals_34 : decode cX12_totals 34 = .ok (.iadd, 1) := by decide +kernel
theorem dX12_totals_35 : decode cX12_totals 35 = .ok (.iaload, 1) := by decide +kernel
theorem dX12_totals_36 : decode cX12_totals 36 = .ok (.if_icmp .ge 33, 3) := by decide +kernel
theorem dX12_totals_39 : decode cX12_totals 39 = .ok (.lload_n 3, 1) := by decide +kernel
theorem dX12_totals_40 : decode cX12_totals 40 = .ok (.aload_n 0, 1) := by decide +kernel
theorem dX12_totals_41 : decode cX12_totals 41 = .ok (.iload_n 1, 1) := by decide +kernel
theorem dX12_totals_42 : decode cX12_totals 42 = .ok (.aload_n 0, 1) := by decide +kernel
theorem dX12_totals_43 : decode cX12_totals 43 = .ok (.getfield 56, 3) := by decide +kernel
theorem dX12_totals_46 : decode cX12_totals 46 = .ok (.sipush 1173, 3) := by decide +kernel
theorem dX12_totals_49 : decode cX12_totals 49 = .ok (.iload_n 1, 1) := by decide +kernel
theorem dX12_totals_50 : decode cX12_totals 50 = .ok (.imul, 1) := by decide +kernel
theorem dX12_totals_51 : decode cX12_totals 51 = .ok (.iconst 4, 1) := by decide +kernel
theorem dX12_totals_52 : decode cX12_totals 52 = .ok (.iadd, 1) := by decide +kernel
theorem dX12_totals_53 : decode cX12_totals 53 = .ok (.iload 5, 2) := by decide +kernel
theorem dX12_totals_55 : decode cX12_totals 55 = .ok (.iadd, 1) := by decide +kernel
theorem dX12_totals_56 : decode cX12_totals 56 = .ok (.iaload, 1) := by decide +kernel
theorem dX12_totals_57 : decode cX12_totals 57 = .ok (.iload_n 2, 1) := by decide +kernel
theorem dX12_totals_58 : decode cX12_totals 58 = .ok (.invokevirtual 283, 3) := by decide +kernel
theorem dX12_totals_61 : decode cX12_totals 61 = .ok (.ladd, 1) := by decide +kernel
theorem dX12_totals_62 : decode cX12_totals 62 = .ok (.lstore_n 3, 1) := by decide +kernel
theorem dX12_totals_63 : decode cX12_totals 63 = .ok (.iinc 5 1, 3) := by decide +kernel
theorem dX12_totals_66 : decode cX12_totals 66 = .ok (.goto (-44), 3) := by decide +kernel
theorem dX12_totals_69 : decode cX12_totals 69 = .ok (.aload_n 0, 1) := by decide +kernel
theorem dX12_totals_70 : decode cX12_totals 70 = .ok (.getfield 94, 3) := by decide +kernel
theorem dX12_totals_73 : decode cX12_totals 73 = .ok (.bipush 11, 2) := by decide +kernel
theorem dX12_totals_75 : decode cX12_totals 75 = .ok (.iload_n 1, 1) := by decide +kernel
theorem dX12_totals_76 : decode cX12_totals 76 = .ok (.imul, 1) := by decide +kernel
theorem dX12_totals_77 : decode cX12_totals 77 = .ok (.iload_n 2, 1) := by decide +kernel
theorem dX12_totals_78 : decode cX12_totals 78 = .ok (.iadd, 1) := by decide +kernel
theorem dX12_totals_79 : decode cX12_totals 79 = .ok (.lload_n 3, 1) := by decide +kernel
theorem dX12_totals_80 : decode cX12_totals 80 = .ok (.lastore, 1) := by decide +kernel
theorem dX12_totals_81 : decode cX12_totals 81 = .ok (.iinc 2 1, 3) := by decide +kernel
theorem dX12_totals_84 : decode cX12_totals 84 = .ok (.goto (-82), 3) := by decide +kernel
theorem dX12_totals_87 : decode cX12_totals 87 = .ok (.return_, 1) := by decide +kernel
theorem dX12_forests_0 : decode cX12_forests 0 = .ok (.iconst 0, 1) := by decide +kernel
theorem dX12_forests_1 : decode cX12_forests 1 = .ok (.istore 4, 2) := by decide +kernel
theorem dX12_forests_3 : decode cX12_forests 3 = .ok (.iload 4, 2) := by decide +kernel
theorem dX12_forests_5 : decode cX12_forests 5 = .ok (.bipush 55, 2) := by decide +kernel
theorem dX12_forests_7 : decode cX12_forests 7 = .ok (.if_icmp .ge 17, 3) := by decide +kernel
theorem dX12_forests_10 : decode cX12_forests 10 = .ok (.aload_n 0, 1) := by decide +kernel
theorem dX12_forests_11 : decode cX12_forests 11 = .ok (.getfield 97, 3) := by decide +kernel
theorem dX12_forests_14 : decode cX12_forests 14 = .ok (.iload 4, 2) := by decide +kernel
theorem dX12_forests_16 : decode cX12_forests 16 = .ok (.lconst 0, 1) := by decide +kernel
theorem dX12_forests_17 : decode cX12_forests 17 = .ok (.lastore, 1) := by decide +kernel
theorem dX12_forests_18 : decode cX12_forests 18 = .ok (.iinc 4 1, 3) := by decide +kernel
theorem dX12_forests_21 : decode cX12_forests 21 = .ok (.goto (-18), 3) := by decide +kernel
theorem dX12_forests_24 : decode cX12_forests 24 = .ok (.aload_n 0, 1) := by decide +kernel
theorem dX12_forests_25 : decode cX12_forests 25 = .ok (.getfield 97, 3) := by decide +kernel
theorem dX12_forests_28 : decode cX12_forests 28 = .ok (.iconst 0, 1) := by decide +kernel
theorem dX12_forests_29 : decode cX12_forests 29 = .ok (.lconst 1, 1) := by decide +kernel
theorem dX12_forests_30 : decode cX12_forests 30 = .ok (.lastore, 1) := by decide +kernel
theorem dX12_forests_31 : decode cX12_forests 31 = .ok (.iconst 1, 1) := by decide +kernel
theorem dX12_forests_32 : decode cX12_forests 32 = .ok (.istore 4, 2) := by decide +kernel
theorem dX12_forests_34 : decode cX12_forests 34 = .ok (.iload 4, 2) := by decide +kernel
theorem dX12_forests_36 : decode cX12_forests 36 = .ok (.iload_n 2, 1) := by decide +kernel
theorem dX12_forests_37 : decode cX12_forests 37 = .ok (.if_icmp .gt 93, 3) := by decide +kernel
theorem dX12_forests_40 : decode cX12_forests 40 = .ok (.iconst 1, 1) := by decide +kernel
theorem dX12_forests_41 : decode cX12_forests 41 = .ok (.istore 5, 2) := by decide +kernel
theorem dX12_forests_43 : decode cX12_forests 43 = .ok (.iload 5, 2) := by decide +kernel
theorem dX12_forests_45 : decode cX12_forests 45 = .ok (.iload_n 3, 1) := by decide +kernel
theorem dX12_forests_46 : decode cX12_forests 46 = .ok (.if_icmp .gt 78, 3) := by decide +kernel
theorem dX12_forests_49 : decode cX12_forests 49 = .ok (.iconst 1, 1) := by decide +kernel
theorem dX12_forests_50 : decode cX12_forests 50 = .ok (.istore 6, 2) := by decide +kernel
theorem dX12_forests_52 : decode cX12_forests 52 = .ok (.iload 6, 2) := by decide +kernel
theorem dX12_forests_54 : decode cX12_forests 54 = .ok (.iload_n 3, 1) := by decide +kernel
theorem dX12_forests_55 : decode cX12_forests 55 = .ok (.if_icmp .ge 63, 3) := by decide +kernel
theorem dX12_forests_58 : decode cX12_forests 58 = .ok (.iload 6, 2) := by decide +kernel
theorem dX12_forests_60 : decode cX12_forests 60 = .ok (.iload 5, 2) := by decide +kernel
theorem dX12_forests_62 : decode cX12_forests 62 = .ok (.if_icmp .gt 56, 3) := by decide +kernel
theorem dX12_forests_65 : decode cX12_forests 65 = .ok (.aload_n 0, 1) := by decide +kernel
theorem dX12_forests_66 : decode cX12_forests 66 = .ok (.getfield 97, 3) := by decide +kernel
theorem dX12_forests_69 : decode cX12_forests 69 = .ok (.bipush 11, 2) := by decide +kernel
theorem dX12_forests_71 : decode cX12_forests 71 = .ok (.iload 4, 2) := by decide +kernel
theorem dX12_forests_73 : decode cX12_forests 73 = .ok (.imul, 1) := by decide +kernel
theorem dX12_forests_74 : decode cX12_forests 74 = .ok (.iload 5, 2) := by decide +kernel
theorem dX12_forests_76 : decode cX12_forests 76 = .ok (.iadd, 1) := by decide +kernel
theorem dX12_forests_77 : decode cX12_forests 77 = .ok (.dup2, 1) := by decide +kernel
theorem dX12_forests_78 : decode cX12_forests 78 = .ok (.laload, 1) := by decide +kernel
theorem dX12_forests_79 : decode cX12_forests 79 = .ok (.aload_n 0, 1) := by decide +kernel
theorem dX12_forests_80 : decode cX12_forests 80 = .ok (.getfield 97, 3) := by decide +kernel
theorem dX12_forests_83 : decode cX12_forests 83 = .ok (.bipush 11, 2) := by decide +kernel
theorem dX12_forests_85 : decode cX12_forests 85 = .ok (.iload 4, 2) := by decide +kernel
theorem dX12_forests_87 : decode cX12_forests 87 = .ok (.iconst 1, 1) := by decide +kernel
theorem dX12_forests_88 : decode cX12_forests 88 = .ok (.isub, 1) := by decide +kernel
theorem dX12_forests_89 : decode cX12_forests 89 = .ok (.imul, 1) := by decide +kernel
theorem dX12_forests_90 : decode cX12_forests 90 = .ok (.iload 5, 2) := by decide +kernel
theorem dX12_forests_92 : decode cX12_forests 92 = .ok (.iadd, 1) := by decide +kernel
theorem dX12_forests_93 : decode cX12_forests 93 = .ok (.iload 6, 2) := by decide +kernel
theorem dX12_forests_95 : decode cX12_forests 95 = .ok (.isub, 1) := by decide +kernel
theorem dX12_forests_96 : decode cX12_forests 96 = .ok (.laload, 1) := by decide +kernel
theorem dX12_forests_97 : decode cX12_forests 97 = .ok (.aload_n 0, 1) := by decide +kernel
theorem dX12_forests_98 : decode cX12_forests 98 = .ok (.getfield 94, 3) := by decide +kernel
theorem dX12_forests_101 : decode cX12_forests 101 = .ok (.bipush 11, 2) := by decide +kernel
theorem dX12_forests_103 : decode cX12_forests 103 = .ok (.iload_n 1, 1) := by decide +kernel
theorem dX12_forests_104 : decode cX12_forests 104 = .ok (.imul, 1) := by decide +kernel
theorem dX12_forests_105 : decode cX12_forests 105 = .ok (.iload 6, 2) := by decide +kernel
theorem dX12_forests_107 : decode cX12_forests 107 = .ok (.iadd, 1) := by decide +kernel
theorem dX12_forests_108 : decode cX12_forests 108 = .ok (.laload, 1) := by decide +kernel
theorem dX12_forests_109 : decode cX12_forests 109 = .ok (.lmul, 1) := by decide +kernel
theorem dX12_forests_110 : decode cX12_forests 110 = .ok (.ladd, 1) := by decide +kernel
theorem dX12_forests_111 : decode cX12_forests 111 = .ok (.lastore, 1) := by decide +kernel
theorem dX12_forests_112 : decode cX12_forests 112 = .ok (.iinc 6 1, 3) := by decide +kernel
theorem dX12_forests_115 : decode cX12_forests 115 = .ok (.goto (-63), 3) := by decide +kernel
theorem dX12_forests_118 : decode cX12_forests 118 = .ok (.iinc 5 1, 3) := by decide +kernel
theorem dX12_forests_121 : decode cX12_forests 121 = .ok (.goto (-78), 3) := by decide +kernel
theorem dX12_forests_124 : decode cX12_forests 124 = .ok (.iinc 4 1, 3) := by decide +kernel
theorem dX12_forests_127 : decode cX12_forests 127 = .ok (.goto (-93), 3) := by decide +kernel
theorem dX12_forests_130 : decode cX12_forests 130 = .ok (.aload_n 0, 1) := by decide +kernel
theorem dX12_forests_131 : decode cX12_forests 131 = .ok (.getfield 97, 3) := by decide +kernel
theorem dX12_forests_134 : decode cX12_forests 134 = .ok (.bipush 11, 2) := by decide +kernel
theorem dX12_forests_136 : decode cX12_forests 136 = .ok (.iload_n 2, 1) := by decide +kernel
theorem dX12_forests_137 : decode cX12_forests 137 = .ok (.imul, 1) := by decide +kernel
theorem dX12_forests_138 : decode cX12_forests 138 = .ok (.iload_n 3, 1) := by decide +kernel
theorem dX12_forests_139 : decode cX12_forests 139 = .ok (.iadd, 1) := by decide +kernel
theorem dX12_forests_140 : decode cX12_forests 140 = .ok (.laload, 1) := by decide +kernel
theorem dX12_forests_141 : decode cX12_forests 141 = .ok (.lreturn, 1) := by decide +kernel
theorem dX12_firstParts_0 : decode cX12_firstParts 0 = .ok (.aload_n 0, 1) := by decide +kernel
theorem dX12_firstParts_1 : decode cX12_firstParts 1 = .ok (.iload_n 1, 1) := by decide +kernel
theorem dX12_firstParts_2 : decode cX12_firstParts 2 = .ok (.putfield 287, 3) := by decide +kernel
theorem dX12_firstParts_5 : decode cX12_firstParts 5 = .ok (.aload_n 0, 1) := by decide +kernel
theorem dX12_firstParts_6 : decode cX12_firstParts 6 = .ok (.iload_n 2, 1) := by decide +kernel
theorem dX12_firstParts_7 : decode cX12_firstParts 7 = .ok (.putfield 290, 3) := by decide +kernel
theorem dX12_firstParts_10 : decode cX12_firstParts 10 = .ok (.aload_n 0, 1) := by decide +kernel
theorem dX12_firstParts_11 : decode cX12_firstParts 11 = .ok (.iload_n 3, 1) := by decide +kernel
theorem dX12_firstParts_12 : decode cX12_firstParts 12 = .ok (.putfield 293, 3) := by decide +kernel
theorem dX12_firstParts_15 : decode cX12_firstParts 15 = .ok (.iload_n 2, 1) := by decide +kernel
theorem dX12_firstParts_16 : decode cX12_firstParts 16 = .ok (.iload_n 3, 1) := by decide +kernel
theorem dX12_firstParts_17 : decode cX12_firstParts 17 = .ok (.if_icmp .le 5, 3) := by decide +kernel
theorem dX12_firstParts_20 : decode cX12_firstParts 20 = .ok (.iconst 0, 1) := by decide +kernel
theorem dX12_firstParts_21 : decode cX12_firstParts 21 = .ok (.ireturn, 1) := by decide +kernel
theorem dX12_firstParts_22 : decode cX12_firstParts 22 = .ok (.iconst 0, 1) := by decide +kernel
theorem dX12_firstParts_23 : decode cX12_firstParts 23 = .ok (.istore 4, 2) := by decide +kernel
theorem dX12_firstParts_25 : decode cX12_firstParts 25 = .ok (.iload 4, 2) := by decide +kernel
theorem dX12_firstParts_27 : decode cX12_firstParts 27 = .ok (.iload_n 2, 1) := by decide +kernel
theorem dX12_firstParts_28 : decode cX12_firstParts 28 = .ok (.if_icmp .ge 33, 3) := by decide +kernel
theorem dX12_firstParts_31 : decode cX12_firstParts 31 = .ok (.aload_n 0, 1) := by decide +kernel
theorem dX12_firstParts_32 : decode cX12_firstParts 32 = .ok (.getfield 100, 3) := by decide +kernel
theorem dX12_firstParts_35 : decode cX12_firstParts 35 = .ok (.iload 4, 2) := by decide +kernel
theorem dX12_firstParts_37 : decode cX12_firstParts 37 = .ok (.iload 4, 2) := by decide +kernel
theorem dX12_firstParts_39 : decode cX12_firstParts 39 = .ok (.iload_n 2, 1) := by decide +kernel
theorem dX12_firstParts_40 : decode cX12_firstParts 40 = .ok (.iconst 1, 1) := by decide +kernel
theorem dX12_firstParts_41 : decode cX12_firstParts 41 = .ok (.isub, 1) := by decide +kernel
theorem dX12_firstParts_42 : decode cX12_firstParts 42 = .ok (.if_icmp .ne 11, 3) := by decide +kernel
theorem dX12_firstParts_45 : decode cX12_firstParts 45 = .ok (.iload_n 3, 1) := by decide +kernel
theorem dX12_firstParts_46 : decode cX12_firstParts 46 = .ok (.iload_n 2, 1) := by decide +kernel
theorem dX12_firstParts_47 : decode cX12_firstParts 47 = .ok (.isub, 1) := by decide +kernel
theorem dX12_firstParts_48 : decode cX12_firstParts 48 = .ok (.iconst 1, 1) := by decide +kernel
theorem dX12_firstParts_49 : decode cX12_firstParts 49 = .ok (.iadd, 1) := by decide +kernel
theorem dX12_firstParts_50 : decode cX12_firstParts 50 = .ok (.goto 4, 3) := by decide +kernel
theorem dX12_firstParts_53 : decode cX12_firstParts 53 = .ok (.iconst 1, 1) := by decide +kernel
theorem dX12_firstParts_54 : decode cX12_firstParts 54 = .ok (.iastore, 1) := by decide +kernel
theorem dX12_firstParts_55 : decode cX12_firstParts 55 = .ok (.iinc 4 1, 3) := by decide +kernel
theorem dX12_firstParts_58 : decode cX12_firstParts 58 = .ok (.goto (-33), 3) := by decide +kernel
theorem dX12_firstParts_61 : decode cX12_firstParts 61 = .ok (.iconst 0, 1) := by decide +kernel
theorem dX12_firstParts_62 : decode cX12_firstParts 62 = .ok (.istore 4, 2) := by decide +kernel
theorem dX12_firstParts_64 : decode cX12_firstParts 64 = .ok (.iload 4, 2) := by decide +kernel
theorem dX12_firstParts_66 : decode cX12_firstParts 66 = .ok (.iload_n 2, 1) := by decide +kernel
theorem dX12_firstParts_67 : decode cX12_firstParts 67 = .ok (.if_icmp .ge 17, 3) := by decide +kernel
theorem dX12_firstParts_70 : decode cX12_firstParts 70 = .ok (.aload_n 0, 1) := by decide +kernel
theorem dX12_firstParts_71 : decode cX12_firstParts 71 = .ok (.getfield 103, 3) := by decide +kernel
theorem dX12_firstParts_74 : decode cX12_firstParts 74 = .ok (.iload 4, 2) := by decide +kernel
theorem dX12_firstParts_76 : decode cX12_firstParts 76 = .ok (.iconst 0, 1) := by decide +kernel
theorem dX12_firstParts_77 : decode cX12_firstParts 77 = .ok (.iastore, 1) := by decide +kernel
theorem dX12_firstParts_78 : decode cX12_firstParts 78 = .ok (.iinc 4 1, 3) := by decide +kernel
theorem dX12_firstParts_81 : decode cX12_firstParts 81 = .ok (.goto (-17), 3) := by decide +kernel
theorem dX12_firstParts_84 : decode cX12_firstParts 84 = .ok (.aload_n 0, 1) := by decide +kernel
theorem dX12_firstParts_85 : decode cX12_firstParts 85 = .ok (.invokevirtual 296, 3) := by decide +kernel
theorem dX12_firstParts_88 : decode cX12_firstParts 88 = .ok (.ifCond .ne 10, 3) := by decide +kernel
theorem dX12_firstParts_91 : decode cX12_firstParts 91 = .ok (.aload_n 0, 1) := by decide +kernel
theorem dX12_firstParts_92 : decode cX12_firstParts 92 = .ok (.invokevirtual 300, 3) := by decide +kernel
theorem dX12_firstParts_95 : decode cX12_firstParts 95 = .ok (.ifCond .eq 7, 3) := by decide +kernel
theorem dX12_firstParts_98 : decode cX12_firstParts 98 = .ok (.iconst 1, 1) := by decide +kernel
theorem dX12_firstParts_99 : decode cX12_firstParts 99 = .ok (.goto 4, 3) := by decide +kernel
theorem dX12_firstParts_102 : decode cX12_firstParts 102 = .ok (.iconst 0, 1) := by decide +kernel
theorem dX12_firstParts_103 : decode cX12_firstParts 103 = .ok (.ireturn, 1) := by decide +kernel
theorem dX12_hasParts_0 : decode cX12_hasParts 0 = .ok (.iconst 0, 1) := by decide +kernel
theorem dX12_hasParts_1 : decode cX12_hasParts 1 = .ok (.istore_n 1, 1) := by decide +kernel
theorem dX12_hasParts_2 : decode cX12_hasParts 2 = .ok (.iload_n 1, 1) := by decide +kernel
theorem dX12_hasParts_3 : decode cX12_hasParts 3 = .ok (.aload_n 0, 1) := by decide +kernel
theorem dX12_hasParts_4 : decode cX12_hasParts 4 = .ok (.getfield 290, 3) := by decide +kernel
theorem dX12_hasParts_7 : decode cX12_hasParts 7 = .ok (.if_icmp .ge 33, 3) := by decide +kernel
theorem dX12_hasParts_10 : decode cX12_hasParts 10 = .ok (.aload_n 0, 1) := by decide +kernel
theorem dX12_hasParts_11 : decode cX12_hasParts 11 = .ok (.getfield 62, 3) := by decide +kernel
theorem dX12_hasParts_14 : decode cX12_hasParts 14 = .ok (.bipush 8, 2) := by decide +kernel
theorem dX12_hasParts_16 : decode cX12_hasParts 16 = .ok (.aload_n 0, 1) := by decide +kernel
theorem dX12_hasParts_17 : decode cX12_hasParts 17 = .ok (.getfield 287, 3) := by decide +kernel
theorem dX12_hasParts_20 : decode cX12_hasParts 20 = .ok (.imul, 1) := by decide +kernel
theorem dX12_hasParts_21 : decode cX12_hasParts 21 = .ok (.aload_n 0, 1) := by decide +kernel
theorem dX12_hasParts_22 : decode cX12_hasParts 22 = .ok (.getfield 100, 3) := by decide +kernel
theorem dX12_hasParts_25 : decode cX12_hasParts 25 = .ok (.iload_n 1, 1) := by decide +kernel
theorem dX12_hasParts_26 : decode cX12_hasParts 26 = .ok (.iaload, 1) := by decide +kernel
theorem dX12_hasParts_27 : decode cX12_hasParts 27 = .ok (.iadd, 1) := by decide +kernel
theorem dX12_hasParts_28 : decode cX12_hasParts 28 = .ok (.iaload, 1) := by decide +kernel
theorem dX12_hasParts_29 : decode cX12_hasParts 29 = .ok (.ifCond .ne 5, 3) := by decide +kernel
theorem dX12_hasParts_32 : decode cX12_hasParts 32 = .ok (.iconst 0, 1) := by decide +kernel
theorem dX12_hasParts_33 : decode cX12_hasParts 33 = .ok (.ireturn, 1) := by decide +kernel
theorem dX12_hasParts_34 : decode cX12_hasParts 34 = .ok (.iinc 1 1, 3) := by decide +kernel
theorem dX12_hasParts_37 : decode cX12_hasParts 37 = .ok (.goto (-35), 3) := by decide +kernel
theorem dX12_hasParts_40 : decode cX12_hasParts 40 = .ok (.iconst 1, 1) := by decide +kernel
theorem dX12_hasParts_41 : decode cX12_hasParts 41 = .ok (.ireturn, 1) := by decide +kernel
theorem dX12_nextParts_0 : decode cX12_nextParts 0 = .ok (.aload_n 0, 1) := by decide +kernel
theorem dX12_nextParts_1 : decode cX12_nextParts 1 = .ok (.getfield 290, 3) := by decide +kernel
theorem dX12_nextParts_4 : decode cX12_nextParts 4 = .ok (.iconst 1, 1) := by decide +kernel
theorem dX12_nextParts_5 : decode cX12_nextParts 5 = .ok (.isub, 1) := by decide +kernel
theorem dX12_nextParts_6 : decode cX12_nextParts 6 = .ok (.istore_n 1, 1) := by decide +kernel
theorem dX12_nextParts_7 : decode cX12_nextParts 7 = .ok (.iload_n 1, 1) := by decide +kernel
theorem dX12_nextParts_8 : decode cX12_nextParts 8 = .ok (.ifCond .lt 56, 3) := by decide +kernel
theorem dX12_nextParts_11 : decode cX12_nextParts 11 = .ok (.aload_n 0, 1) := by decide +kernel
theorem dX12_nextParts_12 : decode cX12_nextParts 12 = .ok (.getfield 103, 3) := by decide +kernel
theorem dX12_nextParts_15 : decode cX12_nextParts 15 = .ok (.iload_n 1, 1) := by decide +kernel
theorem dX12_nextParts_16 : decode cX12_nextParts 16 = .ok (.dup2, 1) := by decide +kernel
theorem dX12_nextParts_17 : decode cX12_nextParts 17 = .ok (.iaload, 1) := by decide +kernel
theorem dX12_nextParts_18 : decode cX12_nextParts 18 = .ok (.iconst 1, 1) := by decide +kernel
theorem dX12_nextParts_19 : decode cX12_nextParts 19 = .ok (.iadd, 1) := by decide +kernel
theorem dX12_nextParts_20 : decode cX12_nextParts 20 = .ok (.iastore, 1) := by decide +kernel
theorem dX12_nextParts_21 : decode cX12_nextParts 21 = .ok (.aload_n 0, 1) := by decide +kernel
theorem dX12_nextParts_22 : decode cX12_nextParts 22 = .ok (.getfield 103, 3) := by decide +kernel
theorem dX12_nextParts_25 : decode cX12_nextParts 25 = .ok (.iload_n 1, 1) := by decide +kernel
theorem dX12_nextParts_26 : decode cX12_nextParts 26 = .ok (.iaload, 1) := by decide +kernel
theorem dX12_nextParts_27 : decode cX12_nextParts 27 = .ok (.aload_n 0, 1) := by decide +kernel
theorem dX12_nextParts_28 : decode cX12_nextParts 28 = .ok (.getfield 62, 3) := by decide +kernel
theorem dX12_nextParts_31 : decode cX12_nextParts 31 = .ok (.bipush 8, 2) := by decide +kernel
theorem dX12_nextParts_33 : decode cX12_nextParts 33 = .ok (.aload_n 0, 1) := by decide +kernel
theorem dX12_nextParts_34 : decode cX12_nextParts 34 = .ok (.getfield 287, 3) := by decide +kernel
theorem dX12_nextParts_37 : decode cX12_nextParts 37 = .ok (.imul, 1) := by decide +kernel
theorem dX12_nextParts_38 : decode cX12_nextParts 38 = .ok (.aload_n 0, 1) := by decide +kernel
theorem dX12_nextParts_39 : decode cX12_nextParts 39 = .ok (.getfield 100, 3) := by decide +kernel
theorem dX12_nextParts_42 : decode cX12_nextParts 42 = .ok (.iload_n 1, 1) := by decide +kernel
theorem dX12_nextParts_43 : decode cX12_nextParts 43 = .ok (.iaload, 1) := by decide +kernel
theorem dX12_nextParts_44 : decode cX12_nextParts 44 = .ok (.iadd, 1) := by decide +kernel
theorem dX12_nextParts_45 : decode cX12_nextParts 45 = .ok (.iaload, 1) := by decide +kernel
theorem dX12_nextParts_46 : decode cX12_nextParts 46 = .ok (.if_icmp .ge 5, 3) := by decide +kernel
theorem dX12_nextParts_49 : decode cX12_nextParts 49 = .ok (.iconst 1, 1) := by decide +kernel
theorem dX12_nextParts_50 : decode cX12_nextParts 50 = .ok (.ireturn, 1) := by decide +kernel
theorem dX12_nextParts_51 : decode cX12_nextParts 51 = .ok (.aload_n 0, 1) := by decide +kernel
theorem dX12_nextParts_52 : decode cX12_nextParts 52 = .ok (.getfield 103, 3) := by decide +kernel
theorem dX12_nextParts_55 : decode cX12_nextParts 55 = .ok (.iload_n 1, 1) := by decide +kernel
theorem dX12_nextParts_56 : decode cX12_nextParts 56 = .ok (.iconst 0, 1) := by decide +kernel
theorem dX12_nextParts_57 : decode cX12_nextParts 57 = .ok (.iastore, 1) := by decide +kernel
theorem dX12_nextParts_58 : decode cX12_nextParts 58 = .ok (.iinc 1 (-1), 3) := by decide +kernel
theorem dX12_nextParts_61 : decode cX12_nextParts 61 = .ok (.goto (-54), 3) := by decide +kernel
theorem dX12_nextParts_64 : decode cX12_nextParts 64 = .ok (.aload_n 0, 1) := by decide +kernel
theorem dX12_nextParts_65 : decode cX12_nextParts 65 = .ok (.invokevirtual 300, 3) := by decide +kernel
theorem dX12_nextParts_68 : decode cX12_nextParts 68 = .ok (.ireturn, 1) := by decide +kernel
theorem dX12_nextSizes_0 : decode cX12_nextSizes 0 = .ok (.aload_n 0, 1) := by decide +kernel
theorem dX12_nextSizes_1 : decode cX12_nextSizes 1 = .ok (.getfield 290, 3) := by decide +kernel
theorem dX12_nextSizes_4 : decode cX12_nextSizes 4 = .ok (.iconst 2, 1) := by decide +kernel
theorem dX12_nextSizes_5 : decode cX12_nextSizes 5 = .ok (.isub, 1) := by decide +kernel
theorem dX12_nextSizes_6 : decode cX12_nextSizes 6 = .ok (.istore_n 1, 1) := by decide +kernel
theorem dX12_nextSizes_7 : decode cX12_nextSizes 7 = .ok (.aload_n 0, 1) := by decide +kernel
theorem dX12_nextSizes_8 : decode cX12_nextSizes 8 = .ok (.getfield 290, 3) := by decide +kernel
theorem dX12_nextSizes_11 : decode cX12_nextSizes 11 = .ok (.ifCond .le 17, 3) := by decide +kernel
theorem dX12_nextSizes_14 : decode cX12_nextSizes 14 = .ok (.aload_n 0, 1) := by decide +kernel
theorem dX12_nextSizes_15 : decode cX12_nextSizes 15 = .ok (.getfield 100, 3) := by decide +kernel
theorem dX12_nextSizes_18 : decode cX12_nextSizes 18 = .ok (.aload_n 0, 1) := by decide +kernel
theorem dX12_nextSizes_19 : decode cX12_nextSizes 19 = .ok (.getfield 290, 3) := by decide +kernel
theorem dX12_nextSizes_22 : decode cX12_nextSizes 22 = .ok (.iconst 1, 1) := by decide +kernel
theorem dX12_nextSizes_23 : decode cX12_nextSizes 23 = .ok (.isub, 1) := by decide +kernel
theorem dX12_nextSizes_24 : decode cX12_nextSizes 24 = .ok (.iaload, 1) := by decide +kernel
theorem dX12_nextSizes_25 : decode cX12_nextSizes 25 = .ok (.goto 4, 3) := by decide +kernel
theorem dX12_nextSizes_28 : decode cX12_nextSizes 28 = .ok (.iconst 0, 1) := by decide +kernel
theorem dX12_nextSizes_29 : decode cX12_nextSizes 29 = .ok (.istore_n 2, 1) := by decide +kernel
theorem dX12_nextSizes_30 : decode cX12_nextSizes 30 = .ok (.iload_n 1, 1) := by decide +kernel
theorem dX12_nextSizes_31 : decode cX12_nextSizes 31 = .ok (.ifCond .lt 30, 3) := by decide +kernel
theorem dX12_nextSizes_34 : decode cX12_nextSizes 34 = .ok (.iload_n 2, 1) := by decide +kernel
theorem dX12_nextSizes_35 : decode cX12_nextSizes 35 = .ok (.aload_n 0, 1) := by decide +kernel
theorem dX12_nextSizes_36 : decode cX12_nextSizes 36 = .ok (.getfield 290, 3) := by decide +kernel
theorem dX12_nextSizes_39 : decode cX12_nextSizes 39 = .ok (.iconst 1, 1) := by decide +kernel
theorem dX12_nextSizes_40 : decode cX12_nextSizes 40 = .ok (.isub, 1) := by decide +kernel
theorem dX12_nextSizes_41 : decode cX12_nextSizes 41 = .ok (.iload_n 1, 1) := by decide +kernel
theorem dX12_nextSizes_42 : decode cX12_nextSizes 42 = .ok (.isub, 1) := by decide +kernel
theorem dX12_nextSizes_43 : decode cX12_nextSizes 43 = .ok (.if_icmp .ne 18, 3) := by decide +kernel
theorem dX12_nextSizes_46 : decode cX12_nextSizes 46 = .ok (.iload_n 2, 1) := by decide +kernel
theorem dX12_nextSizes_47 : decode cX12_nextSizes 47 = .ok (.aload_n 0, 1) := by decide +kernel
theorem dX12_nextSizes_48 : decode cX12_nextSizes 48 = .ok (.getfield 100, 3) := by decide +kernel
theorem dX12_nextSizes_51 : decode cX12_nextSizes 51 = .ok (.iload_n 1, 1) := by decide +kernel
theorem dX12_nextSizes_52 : decode cX12_nextSizes 52 = .ok (.iaload, 1) := by decide +kernel
theorem dX12_nextSizes_53 : decode cX12_nextSizes 53 = .ok (.iadd, 1) := by decide +kernel
theorem dX12_nextSizes_54 : decode cX12_nextSizes 54 = .ok (.istore_n 2, 1) := by decide +kernel
theorem dX12_nextSizes_55 : decode cX12_nextSizes 55 = .ok (.iinc 1 (-1), 3) := by decide +kernel
theorem dX12_nextSizes_58 : decode cX12_nextSizes 58 = .ok (.goto (-28), 3) := by decide +kernel
theorem dX12_nextSizes_61 : decode cX12_nextSizes 61 = .ok (.iload_n 1, 1) := by decide +kernel
theorem dX12_nextSizes_62 : decode cX12_nextSizes 62 = .ok (.ifCond .ge 5, 3) := by decide +kernel
theorem dX12_nextSizes_65 : decode cX12_nextSizes 65 = .ok (.iconst 0, 1) := by decide +kernel
theorem dX12_nextSizes_66 : decode cX12_nextSizes 66 = .ok (.ireturn, 1) := by decide +kernel
theorem dX12_nextSizes_67 : decode cX12_nextSizes 67 = .ok (.aload_n 0, 1) := by decide +kernel
theorem dX12_nextSizes_68 : decode cX12_nextSizes 68 = .ok (.getfield 100, 3) := by decide +kernel
theorem dX12_nextSizes_71 : decode cX12_nextSizes 71 = .ok (.iload_n 1, 1) := by decide +kernel
theorem dX12_nextSizes_72 : decode cX12_nextSizes 72 = .ok (.dup2, 1) := by decide +kernel
theorem dX12_nextSizes_73 : decode cX12_nextSizes 73 = .ok (.iaload, 1) := by decide +kernel
theorem dX12_nextSizes_74 : decode cX12_nextSizes 74 = .ok (.iconst 1, 1) := by decide +kernel
theorem dX12_nextSizes_75 : decode cX12_nextSizes 75 = .ok (.iadd, 1) := by decide +kernel
theorem dX12_nextSizes_76 : decode cX12_nextSizes 76 = .ok (.iastore, 1) := by decide +kernel
theorem dX12_nextSizes_77 : decode cX12_nextSizes 77 = .ok (.iinc 2 (-1), 3) := by decide +kernel
theorem dX12_nextSizes_80 : decode cX12_nextSizes 80 = .ok (.iload_n 1, 1) := by decide +kernel
theorem dX12_nextSizes_81 : decode cX12_nextSizes 81 = .ok (.iconst 1, 1) := by decide +kernel
theorem dX12_nextSizes_82 : decode cX12_nextSizes 82 = .ok (.iadd, 1) := by decide +kernel
theorem dX12_nextSizes_83 : decode cX12_nextSizes 83 = .ok (.istore_n 3, 1) := by decide +kernel
theorem dX12_nextSizes_84 : decode cX12_nextSizes 84 = .ok (.iload_n 3, 1) := by decide +kernel
theorem dX12_nextSizes_85 : decode cX12_nextSizes 85 = .ok (.aload_n 0, 1) := by decide +kernel
theorem dX12_nextSizes_86 : decode cX12_nextSizes 86 = .ok (.getfield 290, 3) := by decide +kernel
theorem dX12_nextSizes_89 : decode cX12_nextSizes 89 = .ok (.iconst 1, 1) := by decide +kernel
theorem dX12_nextSizes_90 : decode cX12_nextSizes 90 = .ok (.isub, 1) := by decide +kernel
theorem dX12_nextSizes_91 : decode cX12_nextSizes 91 = .ok (.if_icmp .ge 19, 3) := by decide +kernel
theorem dX12_nextSizes_94 : decode cX12_nextSizes 94 = .ok (.aload_n 0, 1) := by decide +kernel
theorem dX12_nextSizes_95 : decode cX12_nextSizes 95 = .ok (.getfield 100, 3) := by decide +kernel
theorem dX12_nextSizes_98 : decode cX12_nextSizes 98 = .ok (.iload_n 3, 1) := by decide +kernel
theorem dX12_nextSizes_99 : decode cX12_nextSizes 99 = .ok (.iconst 1, 1) := by decide +kernel
theorem dX12_nextSizes_100 : decode cX12_nextSizes 100 = .ok (.iastore, 1) := by decide +kernel
theorem dX12_nextSizes_101 : decode cX12_nextSizes 101 = .ok (.iinc 2 (-1), 3) := by decide +kernel
theorem dX12_nextSizes_104 : decode cX12_nextSizes 104 = .ok (.iinc 3 1, 3) := by decide +kernel
theorem dX12_nextSizes_107 : decode cX12_nextSizes 107 = .ok (.goto (-23), 3) := by decide +kernel
theorem dX12_nextSizes_110 : decode cX12_nextSizes 110 = .ok (.aload_n 0, 1) := by decide +kernel
theorem dX12_nextSizes_111 : decode cX12_nextSizes 111 = .ok (.getfield 100, 3) := by decide +kernel
theorem dX12_nextSizes_114 : decode cX12_nextSizes 114 = .ok (.aload_n 0, 1) := by decide +kernel
theorem dX12_nextSizes_115 : decode cX12_nextSizes 115 = .ok (.getfield 290, 3) := by decide +kernel
theorem dX12_nextSizes_118 : decode cX12_nextSizes 118 = .ok (.iconst 1, 1) := by decide +kernel
theorem dX12_nextSizes_119 : decode cX12_nextSizes 119 = .ok (.isub, 1) := by decide +kernel
theorem dX12_nextSizes_120 : decode cX12_nextSizes 120 = .ok (.iload_n 2, 1) := by decide +kernel
theorem dX12_nextSizes_121 : decode cX12_nextSizes 121 = .ok (.iastore, 1) := by decide +kernel
theorem dX12_nextSizes_122 : decode cX12_nextSizes 122 = .ok (.iconst 0, 1) := by decide +kernel
theorem dX12_nextSizes_123 : decode cX12_nextSizes 123 = .ok (.istore_n 3, 1) := by decide +kernel
theorem dX12_nextSizes_124 : decode cX12_nextSizes 124 = .ok (.iload_n 3, 1) := by decide +kernel
theorem dX12_nextSizes_125 : decode cX12_nextSizes 125 = .ok (.aload_n 0, 1) := by decide +kernel
theorem dX12_nextSizes_126 : decode cX12_nextSizes 126 = .ok (.getfield 290, 3) := by decide +kernel
theorem dX12_nextSizes_129 : decode cX12_nextSizes 129 = .ok (.if_icmp .ge 16, 3) := by decide +kernel
theorem dX12_nextSizes_132 : decode cX12_nextSizes 132 = .ok (.aload_n 0, 1) := by decide +kernel
theorem dX12_nextSizes_133 : decode cX12_nextSizes 133 = .ok (.getfield 103, 3) := by decide +kernel
theorem dX12_nextSizes_136 : decode cX12_nextSizes 136 = .ok (.iload_n 3, 1) := by decide +kernel
theorem dX12_nextSizes_137 : decode cX12_nextSizes 137 = .ok (.iconst 0, 1) := by decide +kernel
theorem dX12_nextSizes_138 : decode cX12_nextSizes 138 = .ok (.iastore, 1) := by decide +kernel
theorem dX12_nextSizes_139 : decode cX12_nextSizes 139 = .ok (.iinc 3 1, 3) := by decide +kernel
theorem dX12_nextSizes_142 : decode cX12_nextSizes 142 = .ok (.goto (-18), 3) := by decide +kernel
theorem dX12_nextSizes_145 : decode cX12_nextSizes 145 = .ok (.aload_n 0, 1) := by decide +kernel
theorem dX12_nextSizes_146 : decode cX12_nextSizes 146 = .ok (.invokevirtual 296, 3) := by decide +kernel
theorem dX12_nextSizes_149 : decode cX12_nextSizes 149 = .ok (.ifCond .eq 5, 3) := by decide +kernel
theorem dX12_nextSizes_152 : decode cX12_nextSizes 152 = .ok (.iconst 1, 1) := by decide +kernel
theorem dX12_nextSizes_153 : decode cX12_nextSizes 153 = .ok (.ireturn, 1) := by decide +kernel
theorem dX12_nextSizes_154 : decode cX12_nextSizes 154 = .ok (.goto (-154), 3) := by decide +kernel
theorem dX12_partCode_0 : decode cX12_partCode 0 = .ok (.aload_n 0, 1) := by decide +kernel
theorem dX12_partCode_1 : decode cX12_partCode 1 = .ok (.getfield 74, 3) := by decide +kernel
theorem dX12_partCode_4 : decode cX12_partCode 4 = .ok (.aload_n 0, 1) := by decide +kernel
theorem dX12_partCode_5 : decode cX12_partCode 5 = .ok (.getfield 65, 3) := by decide +kernel
theorem dX12_partCode_8 : decode cX12_partCode 8 = .ok (.bipush 8, 2) := by decide +kernel
theorem dX12_partCode_10 : decode cX12_partCode 10 = .ok (.aload_n 0, 1) := by decide +kernel
theorem dX12_partCode_11 : decode cX12_partCode 11 = .ok (.getfield 287, 3) := by decide +kernel
theorem dX12_partCode_14 : decode cX12_partCode 14 = .ok (.imul, 1) := by decide +kernel
theorem dX12_partCode_15 : decode cX12_partCode 15 = .ok (.aload_n 0, 1) := by decide +kernel
theorem dX12_partCode_16 : decode cX12_partCode 16 = .ok (.getfield 100, 3) := by decide +kernel
theorem dX12_partCode_19 : decode cX12_partCode 19 = .ok (.iload_n 1, 1) := by decide +kernel
theorem dX12_partCode_20 : decode cX12_partCode 20 = .ok (.iaload, 1) := by decide +kernel
theorem dX12_partCode_21 : decode cX12_partCode 21 = .ok (.iadd, 1) := by decide +kernel
theorem dX12_partCode_22 : decode cX12_partCode 22 = .ok (.iaload, 1) := by decide +kernel
theorem dX12_partCode_23 : decode cX12_partCode 23 = .ok (.aload_n 0, 1) := by decide +kernel
theorem dX12_partCode_24 : decode cX12_partCode 24 = .ok (.getfield 103, 3) := by decide +kernel
theorem dX12_partCode_27 : decode cX12_partCode 27 = .ok (.iload_n 1, 1) := by decide +kernel
theorem dX12_partCode_28 : decode cX12_partCode 28 = .ok (.iaload, 1) := by decide +kernel
theorem dX12_partCode_29 : decode cX12_partCode 29 = .ok (.iadd, 1) := by decide +kernel
theorem dX12_partCode_30 : decode cX12_partCode 30 = .ok (.iaload, 1) := by decide +kernel
theorem dX12_partCode_31 : decode cX12_partCode 31 = .ok (.ireturn, 1) := by decide +kernel
theorem dX12_list_0 : decode cX12_list 0 = .ok (.bipush 8, 2) := by decide +kernel
theorem dX12_list_2 : decode cX12_list 2 = .ok (.iload_n 1, 1) := by decide +kernel
theorem dX12_list_3 : decode cX12_list 3 = .ok (.imul, 1) := by decide +kernel
theorem dX12_list_4 : decode cX12_list 4 = .ok (.iload_n 2, 1) := by decide +kernel
theorem dX12_list_5 : decode cX12_list 5 = .ok (.iadd, 1) := by decide +kernel
theorem dX12_list_6 : decode cX12_list 6 = .ok (.istore_n 3, 1) := by decide +kernel
theorem dX12_list_7 : decode cX12_list 7 = .ok (.aload_n 0, 1) := by decide +kernel
theorem dX12_list_8 : decode cX12_list 8 = .ok (.getfield 65, 3) := by decide +kernel
theorem dX12_list_11 : decode cX12_list 11 = .ok (.iload_n 3, 1) := by decide +kernel
theorem dX12_list_12 : decode cX12_list 12 = .ok (.iload_n 2, 1) := by decide +kernel
theorem dX12_list_13 : decode cX12_list 13 = .ok (.iconst 1, 1) := by decide +kernel
theorem dX12_list_14 : decode cX12_list 14 = .ok (.if_icmp .ne 11, 3) := by decide +kernel
theorem dX12_list_17 : decode cX12_list 17 = .ok (.sipush 2200, 3) := by decide +kernel
theorem dX12_list_20 : decode cX12_list 20 = .ok (.iload_n 1, 1) := by decide +kernel
theorem dX12_list_21 : decode cX12_list 21 = .ok (.imul, 1) := by decide +kernel
theorem dX12_list_22 : decode cX12_list 22 = .ok (.goto 20, 3) := by decide +kernel
theorem dX12_list_25 : decode cX12_list 25 = .ok (.aload_n 0, 1) := by decide +kernel
theorem dX12_list_26 : decode cX12_list 26 = .ok (.getfield 65, 3) := by decide +kernel
theorem dX12_list_29 : decode cX12_list 29 = .ok (.iload_n 3, 1) := by decide +kernel
theorem dX12_list_30 : decode cX12_list 30 = .ok (.iconst 1, 1) := by decide +kernel
theorem dX12_list_31 : decode cX12_list 31 = .ok (.isub, 1) := by decide +kernel
theorem dX12_list_32 : decode cX12_list 32 = .ok (.iaload, 1) := by decide +kernel
theorem dX12_list_33 : decode cX12_list 33 = .ok (.aload_n 0, 1) := by decide +kernel
theorem dX12_list_34 : decode cX12_list 34 = .ok (.getfield 62, 3) := by decide +kernel
theorem dX12_list_37 : decode cX12_list 37 = .ok (.iload_n 3, 1) := by decide +kernel
theorem dX12_list_38 : decode cX12_list 38 = .ok (.iconst 1, 1) := by decide +kernel
theorem dX12_list_39 : decode cX12_list 39 = .ok (.isub, 1) := by decide +kernel
theorem dX12_list_40 : decode cX12_list 40 = .ok (.iaload, 1) := by decide +kernel
theorem dX12_list_41 : decode cX12_list 41 = .ok (.iadd, 1) := by decide +kernel
theorem dX12_list_42 : decode cX12_list 42 = .ok (.iastore, 1) := by decide +kernel
theorem dX12_list_43 : decode cX12_list 43 = .ok (.aload_n 0, 1) := by decide +kernel
theorem dX12_list_44 : decode cX12_list 44 = .ok (.getfield 62, 3) := by decide +kernel
theorem dX12_list_47 : decode cX12_list 47 = .ok (.iload_n 3, 1) := by decide +kernel
theorem dX12_list_48 : decode cX12_list 48 = .ok (.iconst 0, 1) := by decide +kernel
theorem dX12_list_49 : decode cX12_list 49 = .ok (.iastore, 1) := by decide +kernel
theorem dX12_list_50 : decode cX12_list 50 = .ok (.iload_n 2, 1) := by decide +kernel
theorem dX12_list_51 : decode cX12_list 51 = .ok (.iconst 1, 1) := by decide +kernel
theorem dX12_list_52 : decode cX12_list 52 = .ok (.if_icmp .ne 10, 3) := by decide +kernel
theorem dX12_list_55 : decode cX12_list 55 = .ok (.aload_n 0, 1) := by decide +kernel
theorem dX12_list_56 : decode cX12_list 56 = .ok (.iload_n 1, 1) := by decide +kernel
theorem dX12_list_57 : decode cX12_list 57 = .ok (.iconst 1, 1) := by decide +kernel
theorem dX12_list_58 : decode cX12_list 58 = .ok (.iconst 4, 1) := by decide +kernel
theorem dX12_list_59 : decode cX12_list 59 = .ok (.invokevirtual 303, 3) := by decide +kernel
theorem dX12_list_62 : decode cX12_list 62 = .ok (.iconst 0, 1) := by decide +kernel
theorem dX12_list_63 : decode cX12_list 63 = .ok (.istore 4, 2) := by decide +kernel
theorem dX12_list_65 : decode cX12_list 65 = .ok (.iload 4, 2) := by decide +kernel
theorem dX12_list_67 : decode cX12_list 67 = .ok (.aload_n 0, 1) := by decide +kernel
theorem dX12_list_68 : decode cX12_list 68 = .ok (.getfield 56, 3) := by decide +kernel
theorem dX12_list_71 : decode cX12_list 71 = .ok (.sipush 1173, 3) := by decide +kernel
theorem dX12_list_74 : decode cX12_list 74 = .ok (.iload_n 1, 1) := by decide +kernel
theorem dX12_list_75 : decode cX12_list 75 = .ok (.imul, 1) := by decide +kernel
theorem dX12_list_76 : decode cX12_list 76 = .ok (.iconst 1, 1) := by decide +kernel
theorem dX12_list_77 : decode cX12_list 77 = .ok (.iadd, 1) := by decide +kernel
theorem dX12_list_78 : decode cX12_list 78 = .ok (.iaload, 1) := by decide +kernel
theorem dX12_list_79 : decode cX12_list 79 = .ok (.if_icmp .ge 118, 3) := by decide +kernel
theorem dX12_list_82 : decode cX12_list 82 = .ok (.aload_n 0, 1) := by decide +kernel
theorem dX12_list_83 : decode cX12_list 83 = .ok (.getfield 94, 3) := by decide +kernel
theorem dX12_list_86 : decode cX12_list 86 = .ok (.bipush 11, 2) := by decide +kernel
theorem dX12_list_88 : decode cX12_list 88 = .ok (.iload_n 1, 1) := by decide +kernel
theorem dX12_list_89 : decode cX12_list 89 = .ok (.imul, 1) := by decide +kernel
theorem dX12_list_90 : decode cX12_list 90 = .ok (.iload_n 2, 1) := by decide +kernel
theorem dX12_list_91 : decode cX12_list 91 = .ok (.iadd, 1) := by decide +kernel
theorem dX12_list_92 : decode cX12_list 92 = .ok (.laload, 1) := by decide +kernel
theorem dX12_list_93 : decode cX12_list 93 = .ok (.ldc2_w 307, 3) := by decide +kernel
theorem dX12_list_96 : decode cX12_list 96 = .ok (.lcmp, 1) := by decide +kernel
theorem dX12_list_97 : decode cX12_list 97 = .ok (.ifCond .gt 100, 3) := by decide +kernel
theorem dX12_list_100 : decode cX12_list 100 = .ok (.iload_n 2, 1) := by decide +kernel
theorem dX12_list_101 : decode cX12_list 101 = .ok (.iconst 1, 1) := by decide +kernel
theorem dX12_list_102 : decode cX12_list 102 = .ok (.if_icmp .le 95, 3) := by decide +kernel
theorem dX12_list_105 : decode cX12_list 105 = .ok (.aload_n 0, 1) := by decide +kernel
theorem dX12_list_106 : decode cX12_list 106 = .ok (.getfield 56, 3) := by decide +kernel
theorem dX12_list_109 : decode cX12_list 109 = .ok (.sipush 1173, 3) := by decide +kernel
theorem dX12_list_112 : decode cX12_list 112 = .ok (.iload_n 1, 1) := by decide +kernel
theorem dX12_list_113 : decode cX12_list 113 = .ok (.imul, 1) := by decide +kernel
theorem dX12_list_114 : decode cX12_list 114 = .ok (.iconst 4, 1) := by decide +kernel
theorem dX12_list_115 : decode cX12_list 115 = .ok (.iadd, 1) := by decide +kernel
theorem dX12_list_116 : decode cX12_list 116 = .ok (.iload 4, 2) := by decide +kernel
theorem dX12_list_118 : decode cX12_list 118 = .ok (.iadd, 1) := by decide +kernel
theorem dX12_list_119 : decode cX12_list 119 = .ok (.iaload, 1) := by decide +kernel
theorem dX12_list_120 : decode cX12_list 120 = .ok (.istore 5, 2) := by decide +kernel
theorem dX12_list_122 : decode cX12_list 122 = .ok (.aload_n 0, 1) := by decide +kernel
theorem dX12_list_123 : decode cX12_list 123 = .ok (.iload_n 1, 1) := by decide +kernel
theorem dX12_list_124 : decode cX12_list 124 = .ok (.iload 5, 2) := by decide +kernel
theorem dX12_list_126 : decode cX12_list 126 = .ok (.iload_n 2, 1) := by decide +kernel
theorem dX12_list_127 : decode cX12_list 127 = .ok (.invokevirtual 309, 3) := by decide +kernel
theorem dX12_list_130 : decode cX12_list 130 = .ok (.istore 6, 2) := by decide +kernel
theorem dX12_list_132 : decode cX12_list 132 = .ok (.iload 6, 2) := by decide +kernel
theorem dX12_list_134 : decode cX12_list 134 = .ok (.ifCond .eq 57, 3) := by decide +kernel
theorem dX12_list_137 : decode cX12_list 137 = .ok (.iconst 4, 1) := by decide +kernel
theorem dX12_list_138 : decode cX12_list 138 = .ok (.iload 4, 2) := by decide +kernel
theorem dX12_list_140 : decode cX12_list 140 = .ok (.iconst 1, 1) := by decide +kernel
theorem dX12_list_141 : decode cX12_list 141 = .ok (.iadd, 1) := by decide +kernel
theorem dX12_list_142 : decode cX12_list 142 = .ok (.ior, 1) := by decide +kernel
theorem dX12_list_143 : decode cX12_list 143 = .ok (.istore 7, 2) := by decide +kernel
theorem dX12_list_145 : decode cX12_list 145 = .ok (.iconst 0, 1) := by decide +kernel
theorem dX12_list_146 : decode cX12_list 146 = .ok (.istore 8, 2) := by decide +kernel
theorem dX12_list_148 : decode cX12_list 148 = .ok (.iload 8, 2) := by decide +kernel
theorem dX12_list_150 : decode cX12_list 150 = .ok (.iload 5, 2) := by decide +kernel
theorem dX12_list_152 : decode cX12_list 152 = .ok (.if_icmp .ge 22, 3) := by decide +kernel
theorem dX12_list_155 : decode cX12_list 155 = .ok (.iload 7, 2) := by decide +kernel
theorem dX12_list_157 : decode cX12_list 157 = .ok (.aload_n 0, 1) := by decide +kernel
theorem dX12_list_158 : decode cX12_list 158 = .ok (.iload 8, 2) := by decide +kernel
theorem dX12_list_160 : decode cX12_list 160 = .ok (.invokevirtual 313, 3) := by decide +kernel
theorem dX12_list_163 : decode cX12_list 163 = .ok (.invokestatic 317, 3) := by decide +kernel
theorem dX12_list_166 : decode cX12_list 166 = .ok (.istore 7, 2) := by decide +kernel
theorem dX12_list_168 : decode cX12_list 168 = .ok (.iinc 8 1, 3) := by decide +kernel
theorem dX12_list_171 : decode cX12_list 171 = .ok (.goto (-23), 3) := by decide +kernel
theorem dX12_list_174 : decode cX12_list 174 = .ok (.aload_n 0, 1) := by decide +kernel
theorem dX12_list_175 : decode cX12_list 175 = .ok (.iload_n 1, 1) := by decide +kernel
theorem dX12_list_176 : decode cX12_list 176 = .ok (.iload_n 2, 1) := by decide +kernel
theorem dX12_list_177 : decode cX12_list 177 = .ok (.iload 7, 2) := by decide +kernel
theorem dX12_list_179 : decode cX12_list 179 = .ok (.invokevirtual 303, 3) := by decide +kernel
theorem dX12_list_182 : decode cX12_list 182 = .ok (.aload_n 0, 1) := by decide +kernel
theorem dX12_list_183 : decode cX12_list 183 = .ok (.invokevirtual 321, 3) := by decide +kernel
theorem dX12_list_186 : decode cX12_list 186 = .ok (.istore 6, 2) := by decide +kernel
theorem dX12_list_188 : decode cX12_list 188 = .ok (.goto (-56), 3) := by decide +kernel
theorem dX12_list_191 : decode cX12_list 191 = .ok (.iinc 4 1, 3) := by decide +kernel
theorem dX12_list_194 : decode cX12_list 194 = .ok (.goto (-129), 3) := by decide +kernel
theorem dX12_list_197 : decode cX12_list 197 = .ok (.iconst 0, 1) := by decide +kernel
theorem dX12_list_198 : decode cX12_list 198 = .ok (.istore 4, 2) := by decide +kernel
theorem dX12_list_200 : decode cX12_list 200 = .ok (.iload 4, 2) := by decide +kernel
theorem dX12_list_202 : decode cX12_list 202 = .ok (.aload_n 0, 1) := by decide +kernel
theorem dX12_list_203 : decode cX12_list 203 = .ok (.getfield 62, 3) := by decide +kernel
theorem dX12_list_206 : decode cX12_list 206 = .ok (.iload_n 3, 1) := by decide +kernel
theorem dX12_list_207 : decode cX12_list 207 = .ok (.iaload, 1) := by decide +kernel
theorem dX12_list_208 : decode cX12_list 208 = .ok (.if_icmp .ge 115, 3) := by decide +kernel
theorem dX12_list_211 : decode cX12_list 211 = .ok (.iload 4, 2) := by decide +kernel
theorem dX12_list_213 : decode cX12_list 213 = .ok (.istore 5, 2) := by decide +kernel
theorem dX12_list_215 : decode cX12_list 215 = .ok (.iload 5, 2) := by decide +kernel
theorem dX12_list_217 : decode cX12_list 217 = .ok (.ifCond .le 84, 3) := by decide +kernel
theorem dX12_list_220 : decode cX12_list 220 = .ok (.aload_n 0, 1) := by decide +kernel
theorem dX12_list_221 : decode cX12_list 221 = .ok (.getfield 74, 3) := by decide +kernel
theorem dX12_list_224 : decode cX12_list 224 = .ok (.aload_n 0, 1) := by decide +kernel
theorem dX12_list_225 : decode cX12_list 225 = .ok (.getfield 65, 3) := by decide +kernel
theorem dX12_list_228 : decode cX12_list 228 = .ok (.iload_n 3, 1) := by decide +kernel
theorem dX12_list_229 : decode cX12_list 229 = .ok (.iaload, 1) := by decide +kernel
theorem dX12_list_230 : decode cX12_list 230 = .ok (.aload_n 0, 1) := by decide +kernel
theorem dX12_list_231 : decode cX12_list 231 = .ok (.getfield 80, 3) := by decide +kernel
theorem dX12_list_234 : decode cX12_list 234 = .ok (.aload_n 0, 1) := by decide +kernel
theorem dX12_list_235 : decode cX12_list 235 = .ok (.getfield 65, 3) := by decide +kernel
theorem dX12_list_238 : decode cX12_list 238 = .ok (.iload_n 3, 1) := by decide +kernel
theorem dX12_list_239 : decode cX12_list 239 = .ok (.iaload, 1) := by decide +kernel
theorem dX12_list_240 : decode cX12_list 240 = .ok (.iload 5, 2) := by decide +kernel
theorem dX12_list_242 : decode cX12_list 242 = .ok (.iadd, 1) := by decide +kernel
theorem dX12_list_243 : decode cX12_list 243 = .ok (.iconst 1, 1) := by decide +kernel
theorem dX12_list_244 : decode cX12_list 244 = .ok (.isub, 1) := by decide +kernel
theorem dX12_list_245 : decode cX12_list 245 = .ok (.iaload, 1) := by decide +kernel
theorem dX12_list_246 : decode cX12_list 246 = .ok (.iadd, 1) := by decide +kernel
theorem dX12_list_247 : decode cX12_list 247 = .ok (.iaload, 1) := by decide +kernel
theorem dX12_list_248 : decode cX12_list 248 = .ok (.aload_n 0, 1) := by decide +kernel
theorem dX12_list_249 : decode cX12_list 249 = .ok (.getfield 74, 3) := by decide +kernel
theorem dX12_list_252 : decode cX12_list 252 = .ok (.aload_n 0, 1) := by decide +kernel
theorem dX12_list_253 : decode cX12_list 253 = .ok (.getfield 65, 3) := by decide +kernel
theorem dX12_list_256 : decode cX12_list 256 = .ok (.iload_n 3, 1) := by decide +kernel
theorem dX12_list_257 : decode cX12_list 257 = .ok (.iaload, 1) := by decide +kernel
theorem dX12_list_258 : decode cX12_list 258 = .ok (.iload 4, 2) := by decide +kernel
theorem dX12_list_260 : decode cX12_list 260 = .ok (.iadd, 1) := by decide +kernel
theorem dX12_list_261 : decode cX12_list 261 = .ok (.iaload, 1) := by decide +kernel
theorem dX12_list_262 : decode cX12_list 262 = .ok (.if_icmp .le 39, 3) := by decide +kernel
theorem dX12_list_265 : decode cX12_list 265 = .ok (.aload_n 0, 1) := by decide +kernel
theorem dX12_list_266 : decode cX12_list 266 = .ok (.getfield 80, 3) := by decide +kernel
theorem dX12_list_269 : decode cX12_list 269 = .ok (.aload_n 0, 1) := by decide +kernel
theorem dX12_list_270 : decode cX12_list 270 = .ok (.getfield 65, 3) := by decide +kernel
theorem dX12_list_273 : decode cX12_list 273 = .ok (.iload_n 3, 1) := by decide +kernel
theorem dX12_list_274 : decode cX12_list 274 = .ok (.iaload, 1) := by decide +kernel
theorem dX12_list_275 : decode cX12_list 275 = .ok (.iload 5, 2) := by decide +kernel
theorem dX12_list_277 : decode cX12_list 277 = .ok (.iadd, 1) := by decide +kernel
theorem dX12_list_278 : decode cX12_list 278 = .ok (.aload_n 0, 1) := by decide +kernel
theorem dX12_list_279 : decode cX12_list 279 = .ok (.getfield 80, 3) := by decide +kernel
theorem dX12_list_282 : decode cX12_list 282 = .ok (.aload_n 0, 1) := by decide +kernel
theorem dX12_list_283 : decode cX12_list 283 = .ok (.getfield 65, 3) := by decide +kernel
theorem dX12_list_286 : decode cX12_list 286 = .ok (.iload_n 3, 1) := by decide +kernel
theorem dX12_list_287 : decode cX12_list 287 = .ok (.iaload, 1) := by decide +kernel
theorem dX12_list_288 : decode cX12_list 288 = .ok (.iload 5, 2) := by decide +kernel
theorem dX12_list_290 : decode cX12_list 290 = .ok (.iadd, 1) := by decide +kernel
theorem dX12_list_291 : decode cX12_list 291 = .ok (.iconst 1, 1) := by decide +kernel
theorem dX12_list_292 : decode cX12_list 292 = .ok (.isub, 1) := by decide +kernel
theorem dX12_list_293 : decode cX12_list 293 = .ok (.iaload, 1) := by decide +kernel
theorem dX12_list_294 : decode cX12_list 294 = .ok (.iastore, 1) := by decide +kernel
theorem dX12_list_295 : decode cX12_list 295 = .ok (.iinc 5 (-1), 3) := by decide +kernel
theorem dX12_list_298 : decode cX12_list 298 = .ok (.goto (-83), 3) := by decide +kernel
theorem dX12_list_301 : decode cX12_list 301 = .ok (.aload_n 0, 1) := by decide +kernel
theorem dX12_list_302 : decode cX12_list 302 = .ok (.getfield 80, 3) := by decide +kernel
theorem dX12_list_305 : decode cX12_list 305 = .ok (.aload_n 0, 1) := by decide +kernel
theorem dX12_list_306 : decode cX12_list 306 = .ok (.getfield 65, 3) := by decide +kernel
theorem dX12_list_309 : decode cX12_list 309 = .ok (.iload_n 3, 1) := by decide +kernel
theorem dX12_list_310 : decode cX12_list 310 = .ok (.iaload, 1) := by decide +kernel
theorem dX12_list_311 : decode cX12_list 311 = .ok (.iload 5, 2) := by decide +kernel
theorem dX12_list_313 : decode cX12_list 313 = .ok (.iadd, 1) := by decide +kernel
theorem dX12_list_314 : decode cX12_list 314 = .ok (.iload 4, 2) := by decide +kernel
theorem dX12_list_316 : decode cX12_list 316 = .ok (.iastore, 1) := by decide +kernel
theorem dX12_list_317 : decode cX12_list 317 = .ok (.iinc 4 1, 3) := by decide +kernel
theorem dX12_list_320 : decode cX12_list 320 = .ok (.goto (-120), 3) := by decide +kernel
theorem dX12_list_323 : decode cX12_list 323 = .ok (.return_, 1) := by decide +kernel
theorem dX12_putTree_0 : decode cX12_putTree 0 = .ok (.bipush 8, 2) := by decide +kernel
theorem dX12_putTree_2 : decode cX12_putTree 2 = .ok (.iload_n 1, 1) := by decide +kernel
theorem dX12_putTree_3 : decode cX12_putTree 3 = .ok (.imul, 1) := by decide +kernel
theorem dX12_putTree_4 : decode cX12_putTree 4 = .ok (.iload_n 2, 1) := by decide +kernel
theorem dX12_putTree_5 : decode cX12_putTree 5 = .ok (.iadd, 1) := by decide +kernel
theorem dX12_putTree_6 : decode cX12_putTree 6 = .ok (.istore 4, 2) := by decide +kernel
theorem dX12_putTree_8 : decode cX12_putTree 8 = .ok (.aload_n 0, 1) := by decide +kernel
theorem dX12_putTree_9 : decode cX12_putTree 9 = .ok (.iload_n 3, 1) := by decide +kernel
theorem dX12_putTree_10 : decode cX12_putTree 10 = .ok (.sipush 1173, 3) := by decide +kernel
theorem dX12_putTree_13 : decode cX12_putTree 13 = .ok (.iload_n 1, 1) := by decide +kernel
theorem dX12_putTree_14 : decode cX12_putTree 14 = .ok (.imul, 1) := by decide +kernel
theorem dX12_putTree_15 : decode cX12_putTree 15 = .ok (.invokevirtual 324, 3) := by decide +kernel
theorem dX12_putTree_18 : decode cX12_putTree 18 = .ok (.aload_n 0, 1) := by decide +kernel
theorem dX12_putTree_19 : decode cX12_putTree 19 = .ok (.getfield 62, 3) := by decide +kernel
theorem dX12_putTree_22 : decode cX12_putTree 22 = .ok (.iload 4, 2) := by decide +kernel
theorem dX12_putTree_24 : decode cX12_putTree 24 = .ok (.iaload, 1) := by decide +kernel
theorem dX12_putTree_25 : decode cX12_putTree 25 = .ok (.istore 5, 2) := by decide +kernel
theorem dX12_putTree_27 : decode cX12_putTree 27 = .ok (.iload 5, 2) := by decide +kernel
theorem dX12_putTree_29 : decode cX12_putTree 29 = .ok (.ifCond .le 120, 3) := by decide +kernel
theorem dX12_putTree_32 : decode cX12_putTree 32 = .ok (.aload_n 0, 1) := by decide +kernel
theorem dX12_putTree_33 : decode cX12_putTree 33 = .ok (.aload_n 0, 1) := by decide +kernel
theorem dX12_putTree_34 : decode cX12_putTree 34 = .ok (.getfield 65, 3) := by decide +kernel
theorem dX12_putTree_37 : decode cX12_putTree 37 = .ok (.iload 4, 2) := by decide +kernel
theorem dX12_putTree_39 : decode cX12_putTree 39 = .ok (.iaload, 1) := by decide +kernel
theorem dX12_putTree_40 : decode cX12_putTree 40 = .ok (.iload 5, 2) := by decide +kernel
theorem dX12_putTree_42 : decode cX12_putTree 42 = .ok (.iadd, 1) := by decide +kernel
theorem dX12_putTree_43 : decode cX12_putTree 43 = .ok (.iconst 1, 1) := by decide +kernel
theorem dX12_putTree_44 : decode cX12_putTree 44 = .ok (.isub, 1) := by decide +kernel
theorem dX12_putTree_45 : decode cX12_putTree 45 = .ok (.iload_n 2, 1) := by decide +kernel
theorem dX12_putTree_46 : decode cX12_putTree 46 = .ok (.invokevirtual 328, 3) := by decide +kernel
theorem dX12_putTree_49 : decode cX12_putTree 49 = .ok (.ifCond .eq 100, 3) := by decide +kernel
theorem dX12_putTree_52 : decode cX12_putTree 52 = .ok (.aload_n 0, 1) := by decide +kernel
theorem dX12_putTree_53 : decode cX12_putTree 53 = .ok (.getfield 74, 3) := by decide +kernel
theorem dX12_putTree_56 : decode cX12_putTree 56 = .ok (.aload_n 0, 1) := by decide +kernel
theorem dX12_putTree_57 : decode cX12_putTree 57 = .ok (.getfield 65, 3) := by decide +kernel
theorem dX12_putTree_60 : decode cX12_putTree 60 = .ok (.iload 4, 2) := by decide +kernel
theorem dX12_putTree_62 : decode cX12_putTree 62 = .ok (.iaload, 1) := by decide +kernel
theorem dX12_putTree_63 : decode cX12_putTree 63 = .ok (.iload 5, 2) := by decide +kernel
theorem dX12_putTree_65 : decode cX12_putTree 65 = .ok (.iadd, 1) := by decide +kernel
theorem dX12_putTree_66 : decode cX12_putTree 66 = .ok (.aload_n 0, 1) := by decide +kernel
theorem dX12_putTree_67 : decode cX12_putTree 67 = .ok (.getfield 74, 3) := by decide +kernel
theorem dX12_putTree_70 : decode cX12_putTree 70 = .ok (.aload_n 0, 1) := by decide +kernel
theorem dX12_putTree_71 : decode cX12_putTree 71 = .ok (.getfield 65, 3) := by decide +kernel
theorem dX12_putTree_74 : decode cX12_putTree 74 = .ok (.iload 4, 2) := by decide +kernel
theorem dX12_putTree_76 : decode cX12_putTree 76 = .ok (.iaload, 1) := by decide +kernel
theorem dX12_putTree_77 : decode cX12_putTree 77 = .ok (.iload 5, 2) := by decide +kernel
theorem dX12_putTree_79 : decode cX12_putTree 79 = .ok (.iadd, 1) := by decide +kernel
theorem dX12_putTree_80 : decode cX12_putTree 80 = .ok (.iconst 1, 1) := by decide +kernel
theorem dX12_putTree_81 : decode cX12_putTree 81 = .ok (.isub, 1) := by decide +kernel
theorem dX12_putTree_82 : decode cX12_putTree 82 = .ok (.iaload, 1) := by decide +kernel
theorem dX12_putTree_83 : decode cX12_putTree 83 = .ok (.iastore, 1) := by decide +kernel
theorem dX12_putTree_84 : decode cX12_putTree 84 = .ok (.iconst 0, 1) := by decide +kernel
theorem dX12_putTree_85 : decode cX12_putTree 85 = .ok (.istore 6, 2) := by decide +kernel
theorem dX12_putTree_87 : decode cX12_putTree 87 = .ok (.iload 6, 2) := by decide +kernel
theorem dX12_putTree_89 : decode cX12_putTree 89 = .ok (.iload_n 2, 1) := by decide +kernel
theorem dX12_putTree_90 : decode cX12_putTree 90 = .ok (.if_icmp .ge 53, 3) := by decide +kernel
theorem dX12_putTree_93 : decode cX12_putTree 93 = .ok (.aload_n 0, 1) := by decide +kernel
theorem dX12_putTree_94 : decode cX12_putTree 94 = .ok (.getfield 77, 3) := by decide +kernel
theorem dX12_putTree_97 : decode cX12_putTree 97 = .ok (.bipush 7, 2) := by decide +kernel
theorem dX12_putTree_99 : decode cX12_putTree 99 = .ok (.aload_n 0, 1) := by decide +kernel
theorem dX12_putTree_100 : decode cX12_putTree 100 = .ok (.getfield 65, 3) := by decide +kernel
theorem dX12_putTree_103 : decode cX12_putTree 103 = .ok (.iload 4, 2) := by decide +kernel
theorem dX12_putTree_105 : decode cX12_putTree 105 = .ok (.iaload, 1) := by decide +kernel
theorem dX12_putTree_106 : decode cX12_putTree 106 = .ok (.iload 5, 2) := by decide +kernel
theorem dX12_putTree_108 : decode cX12_putTree 108 = .ok (.iadd, 1) := by decide +kernel
theorem dX12_putTree_109 : decode cX12_putTree 109 = .ok (.imul, 1) := by decide +kernel
theorem dX12_putTree_110 : decode cX12_putTree 110 = .ok (.iload 6, 2) := by decide +kernel
theorem dX12_putTree_112 : decode cX12_putTree 112 = .ok (.iadd, 1) := by decide +kernel
theorem dX12_putTree_113 : decode cX12_putTree 113 = .ok (.aload_n 0, 1) := by decide +kernel
theorem dX12_putTree_114 : decode cX12_putTree 114 = .ok (.getfield 77, 3) := by decide +kernel
theorem dX12_putTree_117 : decode cX12_putTree 117 = .ok (.bipush 7, 2) := by decide +kernel
theorem dX12_putTree_119 : decode cX12_putTree 119 = .ok (.aload_n 0, 1) := by decide +kernel
theorem dX12_putTree_120 : decode cX12_putTree 120 = .ok (.getfield 65, 3) := by decide +kernel
theorem dX12_putTree_123 : decode cX12_putTree 123 = .ok (.iload 4, 2) := by decide +kernel
theorem dX12_putTree_125 : decode cX12_putTree 125 = .ok (.iaload, 1) := by decide +kernel
theorem dX12_putTree_126 : decode cX12_putTree 126 = .ok (.iload 5, 2) := by decide +kernel
theorem dX12_putTree_128 : decode cX12_putTree 128 = .ok (.iadd, 1) := by decide +kernel
theorem dX12_putTree_129 : decode cX12_putTree 129 = .ok (.iconst 1, 1) := by decide +kernel
theorem dX12_putTree_130 : decode cX12_putTree 130 = .ok (.isub, 1) := by decide +kernel
theorem dX12_putTree_131 : decode cX12_putTree 131 = .ok (.imul, 1) := by decide +kernel
theorem dX12_putTree_132 : decode cX12_putTree 132 = .ok (.iload 6, 2) := by decide +kernel
theorem dX12_putTree_134 : decode cX12_putTree 134 = .ok (.iadd, 1) := by decide +kernel
theorem dX12_putTree_135 : decode cX12_putTree 135 = .ok (.iaload, 1) := by decide +kernel
theorem dX12_putTree_136 : decode cX12_putTree 136 = .ok (.iastore, 1) := by decide +kernel
theorem dX12_putTree_137 : decode cX12_putTree 137 = .ok (.iinc 6 1, 3) := by decide +kernel
theorem dX12_putTree_140 : decode cX12_putTree 140 = .ok (.goto (-53), 3) := by decide +kernel
theorem dX12_putTree_143 : decode cX12_putTree 143 = .ok (.iinc 5 (-1), 3) := by decide +kernel
theorem dX12_putTree_146 : decode cX12_putTree 146 = .ok (.goto (-119), 3) := by decide +kernel
theorem dX12_putTree_149 : decode cX12_putTree 149 = .ok (.aload_n 0, 1) := by decide +kernel
theorem dX12_putTree_150 : decode cX12_putTree 150 = .ok (.getfield 74, 3) := by decide +kernel
theorem dX12_putTree_153 : decode cX12_putTree 153 = .ok (.aload_n 0, 1) := by decide +kernel
theorem dX12_putTree_154 : decode cX12_putTree 154 = .ok (.getfield 65, 3) := by decide +kernel
theorem dX12_putTree_157 : decode cX12_putTree 157 = .ok (.iload 4, 2) := by decide +kernel
theorem dX12_putTree_159 : decode cX12_putTree 159 = .ok (.iaload, 1) := by decide +kernel
theorem dX12_putTree_160 : decode cX12_putTree 160 = .ok (.iload 5, 2) := by decide +kernel
theorem dX12_putTree_162 : decode cX12_putTree 162 = .ok (.iadd, 1) := by decide +kernel
theorem dX12_putTree_163 : decode cX12_putTree 163 = .ok (.iload_n 3, 1) := by decide +kernel
theorem dX12_putTree_164 : decode cX12_putTree 164 = .ok (.iastore, 1) := by decide +kernel
theorem dX12_putTree_165 : decode cX12_putTree 165 = .ok (.iconst 0, 1) := by decide +kernel
theorem dX12_putTree_166 : decode cX12_putTree 166 = .ok (.istore 6, 2) := by decide +kernel
theorem dX12_putTree_168 : decode cX12_putTree 168 = .ok (.iload 6, 2) := by decide +kernel
theorem dX12_putTree_170 : decode cX12_putTree 170 = .ok (.iload_n 2, 1) := by decide +kernel
theorem dX12_putTree_171 : decode cX12_putTree 171 = .ok (.if_icmp .ge 37, 3) := by decide +kernel
theorem dX12_putTree_174 : decode cX12_putTree 174 = .ok (.aload_n 0, 1) := by decide +kernel
theorem dX12_putTree_175 : decode cX12_putTree 175 = .ok (.getfield 77, 3) := by decide +kernel
theorem dX12_putTree_178 : decode cX12_putTree 178 = .ok (.bipush 7, 2) := by decide +kernel
theorem dX12_putTree_180 : decode cX12_putTree 180 = .ok (.aload_n 0, 1) := by decide +kernel
theorem dX12_putTree_181 : decode cX12_putTree 181 = .ok (.getfield 65, 3) := by decide +kernel
theorem dX12_putTree_184 : decode cX12_putTree 184 = .ok (.iload 4, 2) := by decide +kernel
theorem dX12_putTree_186 : decode cX12_putTree 186 = .ok (.iaload, 1) := by decide +kernel
theorem dX12_putTree_187 : decode cX12_putTree 187 = .ok (.iload 5, 2) := by decide +kernel
theorem dX12_putTree_189 : decode cX12_putTree 189 = .ok (.iadd, 1) := by decide +kernel
theorem dX12_putTree_190 : decode cX12_putTree 190 = .ok (.imul, 1) := by decide +kernel
theorem dX12_putTree_191 : decode cX12_putTree 191 = .ok (.iload 6, 2) := by decide +kernel
theorem dX12_putTree_193 : decode cX12_putTree 193 = .ok (.iadd, 1) := by decide +kernel
theorem dX12_putTree_194 : decode cX12_putTree 194 = .ok (.aload_n 0, 1) := by decide +kernel
theorem dX12_putTree_195 : decode cX12_putTree 195 = .ok (.getfield 47, 3) := by decide +kernel
theorem dX12_putTree_198 : decode cX12_putTree 198 = .ok (.iload 6, 2) := by decide +kernel
theorem dX12_putTree_200 : decode cX12_putTree 200 = .ok (.iaload, 1) := by decide +kernel
theorem dX12_putTree_201 : decode cX12_putTree 201 = .ok (.iastore, 1) := by decide +kernel
theorem dX12_putTree_202 : decode cX12_putTree 202 = .ok (.iinc 6 1, 3) := by decide +kernel
theorem dX12_putTree_205 : decode cX12_putTree 205 = .ok (.goto (-37), 3) := by decide +kernel
theorem dX12_putTree_208 : decode cX12_putTree 208 = .ok (.aload_n 0, 1) := by decide +kernel
theorem dX12_putTree_209 : decode cX12_putTree 209 = .ok (.getfield 62, 3) := by decide +kernel
theorem dX12_putTree_212 : decode cX12_putTree 212 = .ok (.iload 4, 2) := by decide +kernel
theorem dX12_putTree_214 : decode cX12_putTree 214 = .ok (.dup2, 1) := by decide +kernel
theorem dX12_putTree_215 : decode cX12_putTree 215 = .ok (.iaload, 1) := by decide +kernel
theorem dX12_putTree_216 : decode cX12_putTree 216 = .ok (.iconst 1, 1) := by decide +kernel
theorem dX12_putTree_217 : decode cX12_putTree 217 = .ok (.iadd, 1) := by decide +kernel
theorem dX12_putTree_218 : decode cX12_putTree 218 = .ok (.iastore, 1) := by decide +kernel
theorem dX12_putTree_219 : decode cX12_putTree 219 = .ok (.return_, 1) := by decide +kernel
theorem dX12_isAhead_0 : decode cX12_isAhead 0 = .ok (.iconst 0, 1) := by decide +kernel
theorem dX12_isAhead_1 : decode cX12_isAhead 1 = .ok (.istore_n 3, 1) := by decide +kernel
theorem dX12_isAhead_2 : decode cX12_isAhead 2 = .ok (.iload_n 3, 1) := by decide +kernel
theorem dX12_isAhead_3 : decode cX12_isAhead 3 = .ok (.iload_n 2, 1) := by decide +kernel
theorem dX12_isAhead_4 : decode cX12_isAhead 4 = .ok (.if_icmp .ge 55, 3) := by decide +kernel
theorem dX12_isAhead_7 : decode cX12_isAhead 7 = .ok (.aload_n 0, 1) := by decide +kernel
theorem dX12_isAhead_8 : decode cX12_isAhead 8 = .ok (.getfield 47, 3) := by decide +kernel
theorem dX12_isAhead_11 : decode cX12_isAhead 11 = .ok (.iload_n 3, 1) := by decide +kernel
theorem dX12_isAhead_12 : decode cX12_isAhead 12 = .ok (.iaload, 1) := by decide +kernel
theorem dX12_isAhead_13 : decode cX12_isAhead 13 = .ok (.aload_n 0, 1) := by decide +kernel
theorem dX12_isAhead_14 : decode cX12_isAhead 14 = .ok (.getfield 77, 3) := by decide +kernel
theorem dX12_isAhead_17 : decode cX12_isAhead 17 = .ok (.bipush 7, 2) := by decide +kernel
theorem dX12_isAhead_19 : decode cX12_isAhead 19 = .ok (.iload_n 1, 1) := by decide +kernel
theorem dX12_isAhead_20 : decode cX12_isAhead 20 = .ok (.imul, 1) := by decide +kernel
theorem dX12_isAhead_21 : decode cX12_isAhead 21 = .ok (.iload_n 3, 1) := by decide +kernel
theorem dX12_isAhead_22 : decode cX12_isAhead 22 = .ok (.iadd, 1) := by decide +kernel
theorem dX12_isAhead_23 : decode cX12_isAhead 23 = .ok (.iaload, 1) := by decide +kernel
theorem dX12_isAhead_24 : decode cX12_isAhead 24 = .ok (.if_icmp .eq 29, 3) := by decide +kernel
theorem dX12_isAhead_27 : decode cX12_isAhead 27 = .ok (.aload_n 0, 1) := by decide +kernel
theorem dX12_isAhead_28 : decode cX12_isAhead 28 = .ok (.getfield 47, 3) := by decide +kernel
theorem dX12_isAhead_31 : decode cX12_isAhead 31 = .ok (.iload_n 3, 1) := by decide +kernel
theorem dX12_isAhead_32 : decode cX12_isAhead 32 = .ok (.iaload, 1) := by decide +kernel
theorem dX12_isAhead_33 : decode cX12_isAhead 33 = .ok (.aload_n 0, 1) := by decide +kernel
theorem dX12_isAhead_34 : decode cX12_isAhead 34 = .ok (.getfield 77, 3) := by decide +kernel
theorem dX12_isAhead_37 : decode cX12_isAhead 37 = .ok (.bipush 7, 2) := by decide +kernel
theorem dX12_isAhead_39 : decode cX12_isAhead 39 = .ok (.iload_n 1, 1) := by decide +kernel
theorem dX12_isAhead_40 : decode cX12_isAhead 40 = .ok (.imul, 1) := by decide +kernel
theorem dX12_isAhead_41 : decode cX12_isAhead 41 = .ok (.iload_n 3, 1) := by decide +kernel
theorem dX12_isAhead_42 : decode cX12_isAhead 42 = .ok (.iadd, 1) := by decide +kernel
theorem dX12_isAhead_43 : decode cX12_isAhead 43 = .ok (.iaload, 1) := by decide +kernel
theorem dX12_isAhead_44 : decode cX12_isAhead 44 = .ok (.if_icmp .ge 7, 3) := by decide +kernel
theorem dX12_isAhead_47 : decode cX12_isAhead 47 = .ok (.iconst 1, 1) := by decide +kernel
theorem dX12_isAhead_48 : decode cX12_isAhead 48 = .ok (.goto 4, 3) := by decide +kernel
theorem dX12_isAhead_51 : decode cX12_isAhead 51 = .ok (.iconst 0, 1) := by decide +kernel
theorem dX12_isAhead_52 : decode cX12_isAhead 52 = .ok (.ireturn, 1) := by decide +kernel
theorem dX12_isAhead_53 : decode cX12_isAhead 53 = .ok (.iinc 3 1, 3) := by decide +kernel
theorem dX12_isAhead_56 : decode cX12_isAhead 56 = .ok (.goto (-54), 3) := by decide +kernel
theorem dX12_isAhead_59 : decode cX12_isAhead 59 = .ok (.iconst 0, 1) := by decide +kernel
theorem dX12_isAhead_60 : decode cX12_isAhead 60 = .ok (.ireturn, 1) := by decide +kernel
theorem dX12_place_0 : decode cX12_place 0 = .ok (.bipush 8, 2) := by decide +kernel
theorem dX12_place_2 : decode cX12_place 2 = .ok (.iload_n 1, 1) := by decide +kernel
theorem dX12_place_3 : decode cX12_place 3 = .ok (.imul, 1) := by decide +kernel
theorem dX12_place_4 : decode cX12_place 4 = .ok (.iload_n 2, 1) := by decide +kernel
theorem dX12_place_5 : decode cX12_place 5 = .ok (.iadd, 1) := by decide +kernel
theorem dX12_place_6 : decode cX12_place 6 = .ok (.istore 4, 2) := by decide +kernel
theorem dX12_place_8 : decode cX12_place 8 = .ok (.iconst 0, 1) := by decide +kernel
theorem dX12_place_9 : decode cX12_place 9 = .ok (.istore 5, 2) := by decide +kernel
theorem dX12_place_11 : decode cX12_place 11 = .ok (.aload_n 0, 1) := by decide +kernel
theorem dX12_place_12 : decode cX12_place 12 = .ok (.getfield 62, 3) := by decide +kernel
theorem dX12_place_15 : decode cX12_place 15 = .ok (.iload 4, 2) := by decide +kernel
theorem dX12_place_17 : decode cX12_place 17 = .ok (.iaload, 1) := by decide +kernel
theorem dX12_place_18 : decode cX12_place 18 = .ok (.iconst 1, 1) := by decide +kernel
theorem dX12_place_19 : decode cX12_place 19 = .ok (.isub, 1) := by decide +kernel
theorem dX12_place_20 : decode cX12_place 20 = .ok (.istore 6, 2) := by decide +kernel
theorem dX12_place_22 : decode cX12_place 22 = .ok (.iload 5, 2) := by decide +kernel
theorem dX12_place_24 : decode cX12_place 24 = .ok (.iload 6, 2) := by decide +kernel
theorem dX12_place_26 : decode cX12_place 26 = .ok (.if_icmp .ge 60, 3) := by decide +kernel
theorem dX12_place_29 : decode cX12_place 29 = .ok (.iload 5, 2) := by decide +kernel
theorem dX12_place_31 : decode cX12_place 31 = .ok (.iload 6, 2) := by decide +kernel
theorem dX12_place_33 : decode cX12_place 33 = .ok (.iadd, 1) := by decide +kernel
theorem dX12_place_34 : decode cX12_place 34 = .ok (.iconst 2, 1) := by decide +kernel
theorem dX12_place_35 : decode cX12_place 35 = .ok (.idiv, 1) := by decide +kernel
theorem dX12_place_36 : decode cX12_place 36 = .ok (.istore 7, 2) := by decide +kernel
theorem dX12_place_38 : decode cX12_place 38 = .ok (.aload_n 0, 1) := by decide +kernel
theorem dX12_place_39 : decode cX12_place 39 = .ok (.getfield 74, 3) := by decide +kernel
theorem dX12_place_42 : decode cX12_place 42 = .ok (.aload_n 0, 1) := by decide +kernel
theorem dX12_place_43 : decode cX12_place 43 = .ok (.getfield 65, 3) := by decide +kernel
theorem dX12_place_46 : decode cX12_place 46 = .ok (.iload 4, 2) := by decide +kernel
theorem dX12_place_48 : decode cX12_place 48 = .ok (.iaload, 1) := by decide +kernel
theorem dX12_place_49 : decode cX12_place 49 = .ok (.aload_n 0, 1) := by decide +kernel
theorem dX12_place_50 : decode cX12_place 50 = .ok (.getfield 80, 3) := by decide +kernel
theorem dX12_place_53 : decode cX12_place 53 = .ok (.aload_n 0, 1) := by decide +kernel
theorem dX12_place_54 : decode cX12_place 54 = .ok (.getfield 65, 3) := by decide +kernel
theorem dX12_place_57 : decode cX12_place 57 = .ok (.iload 4, 2) := by decide +kernel
theorem dX12_place_59 : decode cX12_place 59 = .ok (.iaload, 1) := by decide +kernel
theorem dX12_place_60 : decode cX12_place 60 = .ok (.iload 7, 2) := by decide +kernel
theorem dX12_place_62 : decode cX12_place 62 = .ok (.iadd, 1) := by decide +kernel
theorem dX12_place_63 : decode cX12_place 63 = .ok (.iaload, 1) := by decide +kernel
theorem dX12_place_64 : decode cX12_place 64 = .ok (.iadd, 1) := by decide +kernel
theorem dX12_place_65 : decode cX12_place 65 = .ok (.iaload, 1) := by decide +kernel
theorem dX12_place_66 : decode cX12_place 66 = .ok (.iload_n 3, 1) := by decide +kernel
theorem dX12_place_67 : decode cX12_place 67 = .ok (.if_icmp .ge 12, 3) := by decide +kernel
theorem dX12_place_70 : decode cX12_place 70 = .ok (.iload 7, 2) := by decide +kernel
theorem dX12_place_72 : decode cX12_place 72 = .ok (.iconst 1, 1) := by decide +kernel
theorem dX12_place_73 : decode cX12_place 73 = .ok (.iadd, 1) := by decide +kernel
theorem dX12_place_74 : decode cX12_place 74 = .ok (.istore 5, 2) := by decide +kernel
theorem dX12_place_76 : decode cX12_place 76 = .ok (.goto 7, 3) := by decide +kernel
theorem dX12_place_79 : decode cX12_place 79 = .ok (.iload 7, 2) := by decide +kernel
theorem dX12_place_81 : decode cX12_place 81 = .ok (.istore 6, 2) := by decide +kernel
theorem dX12_place_83 : decode cX12_place 83 = .ok (.goto (-61), 3) := by decide +kernel
theorem dX12_place_86 : decode cX12_place 86 = .ok (.aload_n 0, 1) := by decide +kernel
theorem dX12_place_87 : decode cX12_place 87 = .ok (.getfield 80, 3) := by decide +kernel
theorem dX12_place_90 : decode cX12_place 90 = .ok (.aload_n 0, 1) := by decide +kernel
theorem dX12_place_91 : decode cX12_place 91 = .ok (.getfield 65, 3) := by decide +kernel
theorem dX12_place_94 : decode cX12_place 94 = .ok (.iload 4, 2) := by decide +kernel
theorem dX12_place_96 : decode cX12_place 96 = .ok (.iaload, 1) := by decide +kernel
theorem dX12_place_97 : decode cX12_place 97 = .ok (.iload 5, 2) := by decide +kernel
theorem dX12_place_99 : decode cX12_place 99 = .ok (.iadd, 1) := by decide +kernel
theorem dX12_place_100 : decode cX12_place 100 = .ok (.iaload, 1) := by decide +kernel
theorem dX12_place_101 : decode cX12_place 101 = .ok (.ireturn, 1) := by decide +kernel
theorem dX12_settleInverses_0 : decode cX12_settleInverses 0 = .ok (.aload_n 0, 1) := by decide +kernel
theorem dX12_settleInverses_1 : decode cX12_settleInverses 1 = .ok (.getfield 56, 3) := by decide +kernel
theorem dX12_settleInverses_4 : decode cX12_settleInverses 4 = .ok (.sipush 1173, 3) := by decide +kernel
theorem dX12_settleInverses_7 : decode cX12_settleInverses 7 = .ok (.iload_n 1, 1) := by decide +kernel
theorem dX12_settleInverses_8 : decode cX12_settleInverses 8 = .ok (.imul, 1) := by decide +kernel
theorem dX12_settleInverses_9 : decode cX12_settleInverses 9 = .ok (.iconst 0, 1) := by decide +kernel
theorem dX12_settleInverses_10 : decode cX12_settleInverses 10 = .ok (.iadd, 1) := by decide +kernel
theorem dX12_settleInverses_11 : decode cX12_settleInverses 11 = .ok (.iaload, 1) := by decide +kernel
theorem dX12_settleInverses_12 : decode cX12_settleInverses 12 = .ok (.istore_n 2, 1) := by decide +kernel
theorem dX12_settleInverses_13 : decode cX12_settleInverses 13 = .ok (.aload_n 0, 1) := by decide +kernel
theorem dX12_settleInverses_14 : decode cX12_settleInverses 14 = .ok (.getfield 332, 3) := by decide +kernel
theorem dX12_settleInverses_17 : decode cX12_settleInverses 17 = .ok (.iload_n 2, 1) := by decide +kernel
theorem dX12_settleInverses_18 : decode cX12_settleInverses 18 = .ok (.if_icmp .ne 4, 3) := by decide +kernel
theorem dX12_settleInverses_21 : decode cX12_settleInverses 21 = .ok (.return_, 1) := by decide +kernel
theorem dX12_settleInverses_22 : decode cX12_settleInverses 22 = .ok (.aload_n 0, 1) := by decide +kernel
theorem dX12_settleInverses_23 : decode cX12_settleInverses 23 = .ok (.iload_n 2, 1) := by decide +kernel
theorem dX12_settleInverses_24 : decode cX12_settleInverses 24 = .ok (.putfield 332, 3) := by decide +kernel
theorem dX12_settleInverses_27 : decode cX12_settleInverses 27 = .ok (.iconst 1, 1) := by decide +kernel
theorem dX12_settleInverses_28 : decode cX12_settleInverses 28 = .ok (.istore_n 3, 1) := by decide +kernel
theorem dX12_settleInverses_29 : decode cX12_settleInverses 29 = .ok (.iload_n 3, 1) := by decide +kernel
theorem dX12_settleInverses_30 : decode cX12_settleInverses 30 = .ok (.iload_n 2, 1) := by decide +kernel
theorem dX12_settleInverses_31 : decode cX12_settleInverses 31 = .ok (.if_icmp .ge 42, 3) := by decide +kernel
theorem dX12_settleInverses_34 : decode cX12_settleInverses 34 = .ok (.iconst 1, 1) := by decide +kernel
theorem dX12_settleInverses_35 : decode cX12_settleInverses 35 = .ok (.istore 4, 2) := by decide +kernel
theorem dX12_settleInverses_37 : decode cX12_settleInverses 37 = .ok (.iload 4, 2) := by decide +kernel
theorem dX12_settleInverses_39 : decode cX12_settleInverses 39 = .ok (.iload_n 2, 1) := by decide +kernel
theorem dX12_settleInverses_40 : decode cX12_settleInverses 40 = .ok (.if_icmp .ge 27, 3) := by decide +kernel
theorem dX12_settleInverses_43 : decode cX12_settleInverses 43 = .ok (.iload_n 3, 1) := by decide +kernel
theorem dX12_settleInverses_44 : decode cX12_settleInverses 44 = .ok (.iload 4, 2) := by decide +kernel
theorem dX12_settleInverses_46 : decode cX12_settleInverses 46 = .ok (.imul, 1) := by decide +kernel
theorem dX12_settleInverses_47 : decode cX12_settleInverses 47 = .ok (.iload_n 2, 1) := by decide +kernel
theorem dX12_settleInverses_48 : decode cX12_settleInverses 48 = .ok (.irem, 1) := by decide +kernel
theorem dX12_settleInverses_49 : decode cX12_settleInverses 49 = .ok (.iconst 1, 1) := by decide +kernel
theorem dX12_settleInverses_50 : decode cX12_settleInverses 50 = .ok (.if_icmp .ne 11, 3) := by decide +kernel
theorem dX12_settleInverses_53 : decode cX12_settleInverses 53 = .ok (.aload_n 0, 1) := by decide +kernel
theorem dX12_settleInverses_54 : decode cX12_settleInverses 54 = .ok (.getfield 109, 3) := by decide +kernel
theorem dX12_settleInverses_57 : decode cX12_settleInverses 57 = .ok (.iload_n 3, 1) := by decide +kernel
theorem dX12_settleInverses_58 : decode cX12_settleInverses 58 = .ok (.iload 4, 2) := by decide +kernel
theorem dX12_settleInverses_60 : decode cX12_settleInverses 60 = .ok (.iastore, 1) := by decide +kernel
theorem dX12_settleInverses_61 : decode cX12_settleInverses 61 = .ok (.iinc 4 1, 3) := by decide +kernel
theorem dX12_settleInverses_64 : decode cX12_settleInverses 64 = .ok (.goto (-27), 3) := by decide +kernel
theorem dX12_settleInverses_67 : decode cX12_settleInverses 67 = .ok (.iinc 3 1, 3) := by decide +kernel
theorem dX12_settleInverses_70 : decode cX12_settleInverses 70 = .ok (.goto (-41), 3) := by decide +kernel
theorem dX12_settleInverses_73 : decode cX12_settleInverses 73 = .ok (.return_, 1) := by decide +kernel
theorem dX12_rowAt_0 : decode cX12_rowAt 0 = .ok (.aload_n 0, 1) := by decide +kernel
theorem dX12_rowAt_1 : decode cX12_rowAt 1 = .ok (.getfield 71, 3) := by decide +kernel
theorem dX12_rowAt_4 : decode cX12_rowAt 4 = .ok (.bipush 8, 2) := by decide +kernel
theorem dX12_rowAt_6 : decode cX12_rowAt 6 = .ok (.iload_n 1, 1) := by decide +kernel
theorem dX12_rowAt_7 : decode cX12_rowAt 7 = .ok (.imul, 1) := by decide +kernel
theorem dX12_rowAt_8 : decode cX12_rowAt 8 = .ok (.iload_n 2, 1) := by decide +kernel
theorem dX12_rowAt_9 : decode cX12_rowAt 9 = .ok (.iadd, 1) := by decide +kernel
theorem dX12_rowAt_10 : decode cX12_rowAt 10 = .ok (.iaload, 1) := by decide +kernel
theorem dX12_rowAt_11 : decode cX12_rowAt 11 = .ok (.iload_n 3, 1) := by decide +kernel
theorem dX12_rowAt_12 : decode cX12_rowAt 12 = .ok (.aload_n 0, 1) := by decide +kernel
theorem dX12_rowAt_13 : decode cX12_rowAt 13 = .ok (.getfield 62, 3) := by decide +kernel
theorem dX12_rowAt_16 : decode cX12_rowAt 16 = .ok (.bipush 8, 2) := by decide +kernel
theorem dX12_rowAt_18 : decode cX12_rowAt 18 = .ok (.iload_n 1, 1) := by decide +kernel
theorem dX12_rowAt_19 : decode cX12_rowAt 19 = .ok (.imul, 1) := by decide +kernel
theorem dX12_rowAt_20 : decode cX12_rowAt 20 = .ok (.iload_n 2, 1) := by decide +kernel
theorem dX12_rowAt_21 : decode cX12_rowAt 21 = .ok (.iadd, 1) := by decide +kernel
theorem dX12_rowAt_22 : decode cX12_rowAt 22 = .ok (.iaload, 1) := by decide +kernel
theorem dX12_rowAt_23 : decode cX12_rowAt 23 = .ok (.imul, 1) := by decide +kernel
theorem dX12_rowAt_24 : decode cX12_rowAt 24 = .ok (.iadd, 1) := by decide +kernel
theorem dX12_rowAt_25 : decode cX12_rowAt 25 = .ok (.ireturn, 1) := by decide +kernel
theorem dX12_clearRow_0 : decode cX12_clearRow 0 = .ok (.iconst 0, 1) := by decide +kernel
theorem dX12_clearRow_1 : decode cX12_clearRow 1 = .ok (.istore_n 2, 1) := by decide +kernel
theorem dX12_clearRow_2 : decode cX12_clearRow 2 = .ok (.iload_n 2, 1) := by decide +kernel
theorem dX12_clearRow_3 : decode cX12_clearRow 3 = .ok (.iload_n 1, 1) := by decide +kernel
theorem dX12_clearRow_4 : decode cX12_clearRow 4 = .ok (.if_icmp .ge 16, 3) := by decide +kernel
theorem dX12_clearRow_7 : decode cX12_clearRow 7 = .ok (.aload_n 0, 1) := by decide +kernel
theorem dX12_clearRow_8 : decode cX12_clearRow 8 = .ok (.getfield 106, 3) := by decide +kernel
theorem dX12_clearRow_11 : decode cX12_clearRow 11 = .ok (.iload_n 2, 1) := by decide +kernel
theorem dX12_clearRow_12 : decode cX12_clearRow 12 = .ok (.iconst 0, 1) := by decide +kernel
theorem dX12_clearRow_13 : decode cX12_clearRow 13 = .ok (.iastore, 1) := by decide +kernel
theorem dX12_clearRow_14 : decode cX12_clearRow 14 = .ok (.iinc 2 1, 3) := by decide +kernel
theorem dX12_clearRow_17 : decode cX12_clearRow 17 = .ok (.goto (-15), 3) := by decide +kernel
theorem dX12_clearRow_20 : decode cX12_clearRow 20 = .ok (.return_, 1) := by decide +kernel
theorem dX12_lessen_0 : decode cX12_lessen 0 = .ok (.aload_n 0, 1) := by decide +kernel
theorem dX12_lessen_1 : decode cX12_lessen 1 = .ok (.getfield 56, 3) := by decide +kernel
theorem dX12_lessen_4 : decode cX12_lessen 4 = .ok (.iconst 0, 1) := by decide +kernel
theorem dX12_lessen_5 : decode cX12_lessen 5 = .ok (.sipush 1173, 3) := by decide +kernel
theorem dX12_lessen_8 : decode cX12_lessen 8 = .ok (.iload_n 1, 1) := by decide +kernel
theorem dX12_lessen_9 : decode cX12_lessen 9 = .ok (.imul, 1) := by decide +kernel
theorem dX12_lessen_10 : decode cX12_lessen 10 = .ok (.iadd, 1) := by decide +kernel
theorem dX12_lessen_11 : decode cX12_lessen 11 = .ok (.iaload, 1) := by decide +kernel
theorem dX12_lessen_12 : decode cX12_lessen 12 = .ok (.istore_n 3, 1) := by decide +kernel
theorem dX12_lessen_13 : decode cX12_lessen 13 = .ok (.aload_n 0, 1) := by decide +kernel
theorem dX12_lessen_14 : decode cX12_lessen 14 = .ok (.getfield 62, 3) := by decide +kernel
theorem dX12_lessen_17 : decode cX12_lessen 17 = .ok (.bipush 8, 2) := by decide +kernel
theorem dX12_lessen_19 : decode cX12_lessen 19 = .ok (.iload_n 1, 1) := by decide +kernel
theorem dX12_lessen_20 : decode cX12_lessen 20 = .ok (.imul, 1) := by decide +kernel
theorem dX12_lessen_21 : decode cX12_lessen 21 = .ok (.iload_n 2, 1) := by decide +kernel
theorem dX12_lessen_22 : decode cX12_lessen 22 = .ok (.iadd, 1) := by decide +kernel
theorem dX12_lessen_23 : decode cX12_lessen 23 = .ok (.iaload, 1) := by decide +kernel
theorem dX12_lessen_24 : decode cX12_lessen 24 = .ok (.istore 4, 2) := by decide +kernel
theorem dX12_lessen_26 : decode cX12_lessen 26 = .ok (.aload_n 0, 1) := by decide +kernel
theorem dX12_lessen_27 : decode cX12_lessen 27 = .ok (.getfield 65, 3) := by decide +kernel
theorem dX12_lessen_30 : decode cX12_lessen 30 = .ok (.bipush 8, 2) := by decide +kernel
theorem dX12_lessen_32 : decode cX12_lessen 32 = .ok (.iload_n 1, 1) := by decide +kernel
theorem dX12_lessen_33 : decode cX12_lessen 33 = .ok (.imul, 1) := by decide +kernel
theorem dX12_lessen_34 : decode cX12_lessen 34 = .ok (.iload_n 2, 1) := by decide +kernel
theorem dX12_lessen_35 : decode cX12_lessen 35 = .ok (.iadd, 1) := by decide +kernel
theorem dX12_lessen_36 : decode cX12_lessen 36 = .ok (.iaload, 1) := by decide +kernel
theorem dX12_lessen_37 : decode cX12_lessen 37 = .ok (.istore 5, 2) := by decide +kernel
theorem dX12_lessen_39 : decode cX12_lessen 39 = .ok (.iload 4, 2) := by decide +kernel
theorem dX12_lessen_41 : decode cX12_lessen 41 = .ok (.iconst 1, 1) := by decide +kernel
theorem dX12_lessen_42 : decode cX12_lessen 42 = .ok (.isub, 1) := by decide +kernel
theorem dX12_lessen_43 : decode cX12_lessen 43 = .ok (.istore 6, 2) := by decide +kernel
theorem dX12_lessen_45 : decode cX12_lessen 45 = .ok (.iload 6, 2) := by decide +kernel
theorem dX12_lessen_47 : decode cX12_lessen 47 = .ok (.ifCond .lt 97, 3) := by decide +kernel
theorem dX12_lessen_50 : decode cX12_lessen 50 = .ok (.aload_n 0, 1) := by decide +kernel
theorem dX12_lessen_51 : decode cX12_lessen 51 = .ok (.getfield 106, 3) := by decide +kernel
theorem dX12_lessen_54 : decode cX12_lessen 54 = .ok (.iload 6, 2) := by decide +kernel
theorem dX12_lessen_56 : decode cX12_lessen 56 = .ok (.iaload, 1) := by decide +kernel
theorem dX12_lessen_57 : decode cX12_lessen 57 = .ok (.istore 7, 2) := by decide +kernel
theorem dX12_lessen_59 : decode cX12_lessen 59 = .ok (.iload 7, 2) := by decide +kernel
theorem dX12_lessen_61 : decode cX12_lessen 61 = .ok (.ifCond .eq 77, 3) := by decide +kernel
theorem dX12_lessen_64 : decode cX12_lessen 64 = .ok (.aload_n 0, 1) := by decide +kernel
theorem dX12_lessen_65 : decode cX12_lessen 65 = .ok (.getfield 87, 3) := by decide +kernel
theorem dX12_lessen_68 : decode cX12_lessen 68 = .ok (.iload 5, 2) := by decide +kernel
theorem dX12_lessen_70 : decode cX12_lessen 70 = .ok (.iload 6, 2) := by decide +kernel
theorem dX12_lessen_72 : decode cX12_lessen 72 = .ok (.iadd, 1) := by decide +kernel
theorem dX12_lessen_73 : decode cX12_lessen 73 = .ok (.baload, 1) := by decide +kernel
theorem dX12_lessen_74 : decode cX12_lessen 74 = .ok (.ifCond .ne 6, 3) := by decide +kernel
theorem dX12_lessen_77 : decode cX12_lessen 77 = .ok (.goto 61, 3) := by decide +kernel
theorem dX12_lessen_80 : decode cX12_lessen 80 = .ok (.aload_n 0, 1) := by decide +kernel
theorem dX12_lessen_81 : decode cX12_lessen 81 = .ok (.iload_n 1, 1) := by decide +kernel
theorem dX12_lessen_82 : decode cX12_lessen 82 = .ok (.iload_n 2, 1) := by decide +kernel
theorem dX12_lessen_83 : decode cX12_lessen 83 = .ok (.iload 6, 2) := by decide +kernel
theorem dX12_lessen_85 : decode cX12_lessen 85 = .ok (.invokevirtual 335, 3) := by decide +kernel
theorem dX12_lessen_88 : decode cX12_lessen 88 = .ok (.istore 8, 2) := by decide +kernel
theorem dX12_lessen_90 : decode cX12_lessen 90 = .ok (.iconst 0, 1) := by decide +kernel
theorem dX12_lessen_91 : decode cX12_lessen 91 = .ok (.istore 9, 2) := by decide +kernel
theorem dX12_lessen_93 : decode cX12_lessen 93 = .ok (.iload 9, 2) := by decide +kernel
theorem dX12_lessen_95 : decode cX12_lessen 95 = .ok (.iload 6, 2) := by decide +kernel
theorem dX12_lessen_97 : decode cX12_lessen 97 = .ok (.if_icmp .gt 41, 3) := by decide +kernel
theorem dX12_lessen_100 : decode cX12_lessen 100 = .ok (.aload_n 0, 1) := by decide +kernel
theorem dX12_lessen_101 : decode cX12_lessen 101 = .ok (.getfield 106, 3) := by decide +kernel
theorem dX12_lessen_104 : decode cX12_lessen 104 = .ok (.iload 9, 2) := by decide +kernel
theorem dX12_lessen_106 : decode cX12_lessen 106 = .ok (.aload_n 0, 1) := by decide +kernel
theorem dX12_lessen_107 : decode cX12_lessen 107 = .ok (.getfield 106, 3) := by decide +kernel
theorem dX12_lessen_110 : decode cX12_lessen 110 = .ok (.iload 9, 2) := by decide +kernel
theorem dX12_lessen_112 : decode cX12_lessen 112 = .ok (.iaload, 1) := by decide +kernel
theorem dX12_lessen_113 : decode cX12_lessen 113 = .ok (.iload_n 3, 1) := by decide +kernel
theorem dX12_lessen_114 : decode cX12_lessen 114 = .ok (.iload 7, 2) := by decide +kernel
theorem dX12_lessen_116 : decode cX12_lessen 116 = .ok (.isub, 1) := by decide +kernel
theorem dX12_lessen_117 : decode cX12_lessen 117 = .ok (.aload_n 0, 1) := by decide +kernel
theorem dX12_lessen_118 : decode cX12_lessen 118 = .ok (.getfield 84, 3) := by decide +kernel
theorem dX12_lessen_121 : decode cX12_lessen 121 = .ok (.iload 8, 2) := by decide +kernel
theorem dX12_lessen_123 : decode cX12_lessen 123 = .ok (.iload 9, 2) := by decide +kernel
theorem dX12_lessen_125 : decode cX12_lessen 125 = .ok (.iadd, 1) := by decide +kernel
theorem dX12_lessen_126 : decode cX12_lessen 126 = .ok (.iaload, 1) := by decide +kernel
theorem dX12_lessen_127 : decode cX12_lessen 127 = .ok (.imul, 1) := by decide +kernel
theorem dX12_lessen_128 : decode cX12_lessen 128 = .ok (.iadd, 1) := by decide +kernel
theorem dX12_lessen_129 : decode cX12_lessen 129 = .ok (.iload_n 3, 1) := by decide +kernel
theorem dX12_lessen_130 : decode cX12_lessen 130 = .ok (.irem, 1) := by decide +kernel
theorem dX12_lessen_131 : decode cX12_lessen 131 = .ok (.iastore, 1) := by decide +kernel
theorem dX12_lessen_132 : decode cX12_lessen 132 = .ok (.iinc 9 1, 3) := by decide +kernel
theorem dX12_lessen_135 : decode cX12_lessen 135 = .ok (.goto (-42), 3) := by decide +kernel
theorem dX12_lessen_138 : decode cX12_lessen 138 = .ok (.iinc 6 (-1), 3) := by decide +kernel
theorem dX12_lessen_141 : decode cX12_lessen 141 = .ok (.goto (-96), 3) := by decide +kernel
theorem dX12_lessen_144 : decode cX12_lessen 144 = .ok (.return_, 1) := by decide +kernel
theorem dX12_insert_0 : decode cX12_insert 0 = .ok (.aload_n 0, 1) := by decide +kernel
theorem dX12_insert_1 : decode cX12_insert 1 = .ok (.iload_n 1, 1) := by decide +kernel
theorem dX12_insert_2 : decode cX12_insert 2 = .ok (.iload_n 2, 1) := by decide +kernel
theorem dX12_insert_3 : decode cX12_insert 3 = .ok (.invokevirtual 339, 3) := by decide +kernel
theorem dX12_insert_6 : decode cX12_insert 6 = .ok (.aload_n 0, 1) := by decide +kernel
theorem dX12_insert_7 : decode cX12_insert 7 = .ok (.getfield 56, 3) := by decide +kernel
theorem dX12_insert_10 : decode cX12_insert 10 = .ok (.iconst 0, 1) := by decide +kernel
theorem dX12_insert_11 : decode cX12_insert 11 = .ok (.sipush 1173, 3) := by decide +kernel
theorem dX12_insert_14 : decode cX12_insert 14 = .ok (.iload_n 1, 1) := by decide +kernel
theorem dX12_insert_15 : decode cX12_insert 15 = .ok (.imul, 1) := by decide +kernel
theorem dX12_insert_16 : decode cX12_insert 16 = .ok (.iadd, 1) := by decide +kernel
theorem dX12_insert_17 : decode cX12_insert 17 = .ok (.iaload, 1) := by decide +kernel
theorem dX12_insert_18 : decode cX12_insert 18 = .ok (.istore_n 3, 1) := by decide +kernel
theorem dX12_insert_19 : decode cX12_insert 19 = .ok (.aload_n 0, 1) := by decide +kernel
theorem dX12_insert_20 : decode cX12_insert 20 = .ok (.getfield 62, 3) := by decide +kernel
theorem dX12_insert_23 : decode cX12_insert 23 = .ok (.bipush 8, 2) := by decide +kernel
theorem dX12_insert_25 : decode cX12_insert 25 = .ok (.iload_n 1, 1) := by decide +kernel
theorem dX12_insert_26 : decode cX12_insert 26 = .ok (.imul, 1) := by decide +kernel
theorem dX12_insert_27 : decode cX12_insert 27 = .ok (.iload_n 2, 1) := by decide +kernel
theorem dX12_insert_28 : decode cX12_insert 28 = .ok (.iadd, 1) := by decide +kernel
theorem dX12_insert_29 : decode cX12_insert 29 = .ok (.iaload, 1) := by decide +kernel
theorem dX12_insert_30 : decode cX12_insert 30 = .ok (.istore 4, 2) := by decide +kernel
theorem dX12_insert_32 : decode cX12_insert 32 = .ok (.aload_n 0, 1) := by decide +kernel
theorem dX12_insert_33 : decode cX12_insert 33 = .ok (.getfield 65, 3) := by decide +kernel
theorem dX12_insert_36 : decode cX12_insert 36 = .ok (.bipush 8, 2) := by decide +kernel
theorem dX12_insert_38 : decode cX12_insert 38 = .ok (.iload_n 1, 1) := by decide +kernel
theorem dX12_insert_39 : decode cX12_insert 39 = .ok (.imul, 1) := by decide +kernel
theorem dX12_insert_40 : decode cX12_insert 40 = .ok (.iload_n 2, 1) := by decide +kernel
theorem dX12_insert_41 : decode cX12_insert 41 = .ok (.iadd, 1) := by decide +kernel
theorem dX12_insert_42 : decode cX12_insert 42 = .ok (.iaload, 1) := by decide +kernel
theorem dX12_insert_43 : decode cX12_insert 43 = .ok (.istore 5, 2) := by decide +kernel
theorem dX12_insert_45 : decode cX12_insert 45 = .ok (.iload 4, 2) := by decide +kernel
theorem dX12_insert_47 : decode cX12_insert 47 = .ok (.iconst 1, 1) := by decide +kernel
theorem dX12_insert_48 : decode cX12_insert 48 = .ok (.isub, 1) := by decide +kernel
theorem dX12_insert_49 : decode cX12_insert 49 = .ok (.istore 6, 2) := by decide +kernel
theorem dX12_insert_51 : decode cX12_insert 51 = .ok (.iload 6, 2) := by decide +kernel
theorem dX12_insert_53 : decode cX12_insert 53 = .ok (.ifCond .lt 19, 3) := by decide +kernel
theorem dX12_insert_56 : decode cX12_insert 56 = .ok (.aload_n 0, 1) := by decide +kernel
theorem dX12_insert_57 : decode cX12_insert 57 = .ok (.getfield 106, 3) := by decide +kernel
theorem dX12_insert_60 : decode cX12_insert 60 = .ok (.iload 6, 2) := by decide +kernel
theorem dX12_insert_62 : decode cX12_insert 62 = .ok (.iaload, 1) := by decide +kernel
theorem dX12_insert_63 : decode cX12_insert 63 = .ok (.ifCond .ne 9, 3) := by decide +kernel
theorem dX12_insert_66 : decode cX12_insert 66 = .ok (.iinc 6 (-1), 3) := by decide +kernel
theorem dX12_insert_69 : decode cX12_insert 69 = .ok (.goto (-18), 3) := by decide +kernel
theorem dX12_insert_72 : decode cX12_insert 72 = .ok (.iload 6, 2) := by decide +kernel
theorem dX12_insert_74 : decode cX12_insert 74 = .ok (.ifCond .ge 4, 3) := by decide +kernel
theorem dX12_insert_77 : decode cX12_insert 77 = .ok (.return_, 1) := by decide +kernel
theorem dX12_insert_78 : decode cX12_insert 78 = .ok (.aload_n 0, 1) := by decide +kernel
theorem dX12_insert_79 : decode cX12_insert 79 = .ok (.getfield 109, 3) := by decide +kernel
theorem dX12_insert_82 : decode cX12_insert 82 = .ok (.aload_n 0, 1) := by decide +kernel
theorem dX12_insert_83 : decode cX12_insert 83 = .ok (.getfield 106, 3) := by decide +kernel
theorem dX12_insert_86 : decode cX12_insert 86 = .ok (.iload 6, 2) := by decide +kernel
theorem dX12_insert_88 : decode cX12_insert 88 = .ok (.iaload, 1) := by decide +kernel
theorem dX12_insert_89 : decode cX12_insert 89 = .ok (.iaload, 1) := by decide +kernel
theorem dX12_insert_90 : decode cX12_insert 90 = .ok (.istore 7, 2) := by decide +kernel
theorem dX12_insert_92 : decode cX12_insert 92 = .ok (.aload_n 0, 1) := by decide +kernel
theorem dX12_insert_93 : decode cX12_insert 93 = .ok (.iload_n 1, 1) := by decide +kernel
theorem dX12_insert_94 : decode cX12_insert 94 = .ok (.iload_n 2, 1) := by decide +kernel
theorem dX12_insert_95 : decode cX12_insert 95 = .ok (.iload 6, 2) := by decide +kernel
theorem dX12_insert_97 : decode cX12_insert 97 = .ok (.invokevirtual 335, 3) := by decide +kernel
theorem dX12_insert_100 : decode cX12_insert 100 = .ok (.istore 8, 2) := by decide +kernel
theorem dX12_insert_102 : decode cX12_insert 102 = .ok (.iconst 0, 1) := by decide +kernel
theorem dX12_insert_103 : decode cX12_insert 103 = .ok (.istore 9, 2) := by decide +kernel
theorem dX12_insert_105 : decode cX12_insert 105 = .ok (.iload 9, 2) := by decide +kernel
theorem dX12_insert_107 : decode cX12_insert 107 = .ok (.iload 4, 2) := by decide +kernel
theorem dX12_insert_109 : decode cX12_insert 109 = .ok (.if_icmp .ge 31, 3) := by decide +kernel
theorem dX12_insert_112 : decode cX12_insert 112 = .ok (.aload_n 0, 1) := by decide +kernel
theorem dX12_insert_113 : decode cX12_insert 113 = .ok (.getfield 84, 3) := by decide +kernel
theorem dX12_insert_116 : decode cX12_insert 116 = .ok (.iload 8, 2) := by decide +kernel
theorem dX12_insert_118 : decode cX12_insert 118 = .ok (.iload 9, 2) := by decide +kernel
theorem dX12_insert_120 : decode cX12_insert 120 = .ok (.iadd, 1) := by decide +kernel
theorem dX12_insert_121 : decode cX12_insert 121 = .ok (.aload_n 0, 1) := by decide +kernel
theorem dX12_insert_122 : decode cX12_insert 122 = .ok (.getfield 106, 3) := by decide +kernel
theorem dX12_insert_125 : decode cX12_insert 125 = .ok (.iload 9, 2) := by decide +kernel
theorem dX12_insert_127 : decode cX12_insert 127 = .ok (.iaload, 1) := by decide +kernel
theorem dX12_insert_128 : decode cX12_insert 128 = .ok (.iload 7, 2) := by decide +kernel
theorem dX12_insert_130 : decode cX12_insert 130 = .ok (.imul, 1) := by decide +kernel
theorem dX12_insert_131 : decode cX12_insert 131 = .ok (.iload_n 3, 1) := by decide +kernel
theorem dX12_insert_132 : decode cX12_insert 132 = .ok (.irem, 1) := by decide +kernel
theorem dX12_insert_133 : decode cX12_insert 133 = .ok (.iastore, 1) := by decide +kernel
theorem dX12_insert_134 : decode cX12_insert 134 = .ok (.iinc 9 1, 3) := by decide +kernel
theorem dX12_insert_137 : decode cX12_insert 137 = .ok (.goto (-32), 3) := by decide +kernel
theorem dX12_insert_140 : decode cX12_insert 140 = .ok (.iload 6, 2) := by decide +kernel
theorem dX12_insert_142 : decode cX12_insert 142 = .ok (.iconst 1, 1) := by decide +kernel
theorem dX12_insert_143 : decode cX12_insert 143 = .ok (.iadd, 1) := by decide +kernel
theorem dX12_insert_144 : decode cX12_insert 144 = .ok (.istore 9, 2) := by decide +kernel
theorem dX12_insert_146 : decode cX12_insert 146 = .ok (.iload 9, 2) := by decide +kernel
theorem dX12_insert_148 : decode cX12_insert 148 = .ok (.iload 4, 2) := by decide +kernel
theorem dX12_insert_150 : decode cX12_insert 150 = .ok (.if_icmp .ge 106, 3) := by decide +kernel
theorem dX12_insert_153 : decode cX12_insert 153 = .ok (.aload_n 0, 1) := by decide +kernel
theorem dX12_insert_154 : decode cX12_insert 154 = .ok (.getfield 87, 3) := by decide +kernel
theorem dX12_insert_157 : decode cX12_insert 157 = .ok (.iload 5, 2) := by decide +kernel
theorem dX12_insert_159 : decode cX12_insert 159 = .ok (.iload 9, 2) := by decide +kernel
theorem dX12_insert_161 : decode cX12_insert 161 = .ok (.iadd, 1) := by decide +kernel
theorem dX12_insert_162 : decode cX12_insert 162 = .ok (.baload, 1) := by decide +kernel
theorem dX12_insert_163 : decode cX12_insert 163 = .ok (.ifCond .ne 6, 3) := by decide +kernel
theorem dX12_insert_166 : decode cX12_insert 166 = .ok (.goto 84, 3) := by decide +kernel
theorem dX12_insert_169 : decode cX12_insert 169 = .ok (.aload_n 0, 1) := by decide +kernel
theorem dX12_insert_170 : decode cX12_insert 170 = .ok (.iload_n 1, 1) := by decide +kernel
theorem dX12_insert_171 : decode cX12_insert 171 = .ok (.iload_n 2, 1) := by decide +kernel
theorem dX12_insert_172 : decode cX12_insert 172 = .ok (.iload 9, 2) := by decide +kernel
theorem dX12_insert_174 : decode cX12_insert 174 = .ok (.invokevirtual 335, 3) := by decide +kernel
theorem dX12_insert_177 : decode cX12_insert 177 = .ok (.istore 10, 2) := by decide +kernel
theorem dX12_insert_179 : decode cX12_insert 179 = .ok (.aload_n 0, 1) := by decide +kernel
theorem dX12_insert_180 : decode cX12_insert 180 = .ok (.getfield 84, 3) := by decide +kernel
theorem dX12_insert_183 : decode cX12_insert 183 = .ok (.iload 10, 2) := by decide +kernel
theorem dX12_insert_185 : decode cX12_insert 185 = .ok (.iload 6, 2) := by decide +kernel
theorem dX12_insert_187 : decode cX12_insert 187 = .ok (.iadd, 1) := by decide +kernel
theorem dX12_insert_188 : decode cX12_insert 188 = .ok (.iaload, 1) := by decide +kernel
theorem dX12_insert_189 : decode cX12_insert 189 = .ok (.istore 11, 2) := by decide +kernel
theorem dX12_insert_191 : decode cX12_insert 191 = .ok (.iconst 0, 1) := by decide +kernel
theorem dX12_insert_192 : decode cX12_insert 192 = .ok (.istore 12, 2) := by decide +kernel
theorem dX12_insert_194 : decode cX12_insert 194 = .ok (.iload 12, 2) := by decide +kernel
theorem dX12_insert_196 : decode cX12_insert 196 = .ok (.iload 6, 2) := by decide +kernel
theorem dX12_insert_198 : decode cX12_insert 198 = .ok (.if_icmp .gt 52, 3) := by decide +kernel
theorem dX12_insert_201 : decode cX12_insert 201 = .ok (.iload 11, 2) := by decide +kernel
theorem dX12_insert_203 : decode cX12_insert 203 = .ok (.ifCond .le 47, 3) := by decide +kernel
theorem dX12_insert_206 : decode cX12_insert 206 = .ok (.aload_n 0, 1) := by decide +kernel
theorem dX12_insert_207 : decode cX12_insert 207 = .ok (.getfield 84, 3) := by decide +kernel
theorem dX12_insert_210 : decode cX12_insert 210 = .ok (.iload 10, 2) := by decide +kernel
theorem dX12_insert_212 : decode cX12_insert 212 = .ok (.iload 12, 2) := by decide +kernel
theorem dX12_insert_214 : decode cX12_insert 214 = .ok (.iadd, 1) := by decide +kernel
theorem dX12_insert_215 : decode cX12_insert 215 = .ok (.aload_n 0, 1) := by decide +kernel
theorem dX12_insert_216 : decode cX12_insert 216 = .ok (.getfield 84, 3) := by decide +kernel
theorem dX12_insert_219 : decode cX12_insert 219 = .ok (.iload 10, 2) := by decide +kernel
theorem dX12_insert_221 : decode cX12_insert 221 = .ok (.iload 12, 2) := by decide +kernel
theorem dX12_insert_223 : decode cX12_insert 223 = .ok (.iadd, 1) := by decide +kernel
theorem dX12_insert_224 : decode cX12_insert 224 = .ok (.iaload, 1) := by decide +kernel
theorem dX12_insert_225 : decode cX12_insert 225 = .ok (.iload_n 3, 1) := by decide +kernel
theorem dX12_insert_226 : decode cX12_insert 226 = .ok (.iload 11, 2) := by decide +kernel
theorem dX12_insert_228 : decode cX12_insert 228 = .ok (.isub, 1) := by decide +kernel
theorem dX12_insert_229 : decode cX12_insert 229 = .ok (.aload_n 0, 1) := by decide +kernel
theorem dX12_insert_230 : decode cX12_insert 230 = .ok (.getfield 84, 3) := by decide +kernel
theorem dX12_insert_233 : decode cX12_insert 233 = .ok (.iload 8, 2) := by decide +kernel
theorem dX12_insert_235 : decode cX12_insert 235 = .ok (.iload 12, 2) := by decide +kernel
theorem dX12_insert_237 : decode cX12_insert 237 = .ok (.iadd, 1) := by decide +kernel
theorem dX12_insert_238 : decode cX12_insert 238 = .ok (.iaload, 1) := by decide +kernel
theorem dX12_insert_239 : decode cX12_insert 239 = .ok (.imul, 1) := by decide +kernel
theorem dX12_insert_240 : decode cX12_insert 240 = .ok (.iadd, 1) := by decide +kernel
theorem dX12_insert_241 : decode cX12_insert 241 = .ok (.iload_n 3, 1) := by decide +kernel
theorem dX12_insert_242 : decode cX12_insert 242 = .ok (.irem, 1) := by decide +kernel
theorem dX12_insert_243 : decode cX12_insert 243 = .ok (.iastore, 1) := by decide +kernel
theorem dX12_insert_244 : decode cX12_insert 244 = .ok (.iinc 12 1, 3) := by decide +kernel
theorem dX12_insert_247 : decode cX12_insert 247 = .ok (.goto (-53), 3) := by decide +kernel
theorem dX12_insert_250 : decode cX12_insert 250 = .ok (.iinc 9 1, 3) := by decide +kernel
theorem dX12_insert_253 : decode cX12_insert 253 = .ok (.goto (-107), 3) := by decide +kernel
theorem dX12_insert_256 : decode cX12_insert 256 = .ok (.aload_n 0, 1) := by decide +kernel
theorem dX12_insert_257 : decode cX12_insert 257 = .ok (.getfield 87, 3) := by decide +kernel
theorem dX12_insert_260 : decode cX12_insert 260 = .ok (.iload 5, 2) := by decide +kernel
theorem dX12_insert_262 : decode cX12_insert 262 = .ok (.iload 6, 2) := by decide +kernel
theorem dX12_insert_264 : decode cX12_insert 264 = .ok (.iadd, 1) := by decide +kernel
theorem dX12_insert_265 : decode cX12_insert 265 = .ok (.iconst 1, 1) := by decide +kernel
theorem dX12_insert_266 : decode cX12_insert 266 = .ok (.bastore, 1) := by decide +kernel
theorem dX12_insert_267 : decode cX12_insert 267 = .ok (.aload_n 0, 1) := by decide +kernel
theorem dX12_insert_268 : decode cX12_insert 268 = .ok (.getfield 68, 3) := by decide +kernel
theorem dX12_insert_271 : decode cX12_insert 271 = .ok (.bipush 8, 2) := by decide +kernel
theorem dX12_insert_273 : decode cX12_insert 273 = .ok (.iload_n 1, 1) := by decide +kernel
theorem dX12_insert_274 : decode cX12_insert 274 = .ok (.imul, 1) := by decide +kernel
theorem dX12_insert_275 : decode cX12_insert 275 = .ok (.iload_n 2, 1) := by decide +kernel
theorem dX12_insert_276 : decode cX12_insert 276 = .ok (.iadd, 1) := by decide +kernel
theorem dX12_insert_277 : decode cX12_insert 277 = .ok (.dup2, 1) := by decide +kernel
theorem dX12_insert_278 : decode cX12_insert 278 = .ok (.iaload, 1) := by decide +kernel
theorem dX12_insert_279 : decode cX12_insert 279 = .ok (.iconst 1, 1) := by decide +kernel
theorem dX12_insert_280 : decode cX12_insert 280 = .ok (.iadd, 1) := by decide +kernel
theorem dX12_insert_281 : decode cX12_insert 281 = .ok (.iastore, 1) := by decide +kernel
theorem dX12_insert_282 : decode cX12_insert 282 = .ok (.return_, 1) := by decide +kernel
theorem dX12_settle_0 : decode cX12_settle 0 = .ok (.aload_n 0, 1) := by decide +kernel
theorem dX12_settle_1 : decode cX12_settle 1 = .ok (.getfield 59, 3) := by decide +kernel
theorem dX12_settle_4 : decode cX12_settle 4 = .ok (.iload_n 1, 1) := by decide +kernel
theorem dX12_settle_5 : decode cX12_settle 5 = .ok (.iaload, 1) := by decide +kernel
theorem dX12_settle_6 : decode cX12_settle 6 = .ok (.ifCond .ne 8, 3) := by decide +kernel
theorem dX12_settle_9 : decode cX12_settle 9 = .ok (.aload_n 0, 1) := by decide +kernel
theorem dX12_settle_10 : decode cX12_settle 10 = .ok (.iload_n 1, 1) := by decide +kernel
theorem dX12_settle_11 : decode cX12_settle 11 = .ok (.invokevirtual 342, 3) := by decide +kernel
theorem dX12_settle_14 : decode cX12_settle 14 = .ok (.aload_n 0, 1) := by decide +kernel
theorem dX12_settle_15 : decode cX12_settle 15 = .ok (.iload_n 1, 1) := by decide +kernel
theorem dX12_settle_16 : decode cX12_settle 16 = .ok (.invokevirtual 345, 3) := by decide +kernel
theorem dX12_settle_19 : decode cX12_settle 19 = .ok (.aload_n 0, 1) := by decide +kernel
theorem dX12_settle_20 : decode cX12_settle 20 = .ok (.getfield 59, 3) := by decide +kernel
theorem dX12_settle_23 : decode cX12_settle 23 = .ok (.iload_n 1, 1) := by decide +kernel
theorem dX12_settle_24 : decode cX12_settle 24 = .ok (.iaload, 1) := by decide +kernel
theorem dX12_settle_25 : decode cX12_settle 25 = .ok (.iconst 1, 1) := by decide +kernel
theorem dX12_settle_26 : decode cX12_settle 26 = .ok (.iadd, 1) := by decide +kernel
theorem dX12_settle_27 : decode cX12_settle 27 = .ok (.istore_n 3, 1) := by decide +kernel
theorem dX12_settle_28 : decode cX12_settle 28 = .ok (.iload_n 3, 1) := by decide +kernel
theorem dX12_settle_29 : decode cX12_settle 29 = .ok (.iload_n 2, 1) := by decide +kernel
theorem dX12_settle_30 : decode cX12_settle 30 = .ok (.if_icmp .gt 166, 3) := by decide +kernel
theorem dX12_settle_33 : decode cX12_settle 33 = .ok (.aload_n 0, 1) := by decide +kernel
theorem dX12_settle_34 : decode cX12_settle 34 = .ok (.iload_n 1, 1) := by decide +kernel
theorem dX12_settle_35 : decode cX12_settle 35 = .ok (.iload_n 3, 1) := by decide +kernel
theorem dX12_settle_36 : decode cX12_settle 36 = .ok (.invokevirtual 348, 3) := by decide +kernel
theorem dX12_settle_39 : decode cX12_settle 39 = .ok (.aload_n 0, 1) := by decide +kernel
theorem dX12_settle_40 : decode cX12_settle 40 = .ok (.getfield 71, 3) := by decide +kernel
theorem dX12_settle_43 : decode cX12_settle 43 = .ok (.bipush 8, 2) := by decide +kernel
theorem dX12_settle_45 : decode cX12_settle 45 = .ok (.iload_n 1, 1) := by decide +kernel
theorem dX12_settle_46 : decode cX12_settle 46 = .ok (.imul, 1) := by decide +kernel
theorem dX12_settle_47 : decode cX12_settle 47 = .ok (.iload_n 3, 1) := by decide +kernel
theorem dX12_settle_48 : decode cX12_settle 48 = .ok (.iadd, 1) := by decide +kernel
theorem dX12_settle_49 : decode cX12_settle 49 = .ok (.iload_n 3, 1) := by decide +kernel
theorem dX12_settle_50 : decode cX12_settle 50 = .ok (.iconst 1, 1) := by decide +kernel
theorem dX12_settle_51 : decode cX12_settle 51 = .ok (.if_icmp .ne 11, 3) := by decide +kernel
theorem dX12_settle_54 : decode cX12_settle 54 = .ok (.ldc_w 351, 3) := by decide +kernel
theorem dX12_settle_57 : decode cX12_settle 57 = .ok (.iload_n 1, 1) := by decide +kernel
theorem dX12_settle_58 : decode cX12_settle 58 = .ok (.imul, 1) := by decide +kernel
theorem dX12_settle_59 : decode cX12_settle 59 = .ok (.goto 44, 3) := by decide +kernel
theorem dX12_settle_62 : decode cX12_settle 62 = .ok (.aload_n 0, 1) := by decide +kernel
theorem dX12_settle_63 : decode cX12_settle 63 = .ok (.getfield 71, 3) := by decide +kernel
theorem dX12_settle_66 : decode cX12_settle 66 = .ok (.bipush 8, 2) := by decide +kernel
theorem dX12_settle_68 : decode cX12_settle 68 = .ok (.iload_n 1, 1) := by decide +kernel
theorem dX12_settle_69 : decode cX12_settle 69 = .ok (.imul, 1) := by decide +kernel
theorem dX12_settle_70 : decode cX12_settle 70 = .ok (.iload_n 3, 1) := by decide +kernel
theorem dX12_settle_71 : decode cX12_settle 71 = .ok (.iadd, 1) := by decide +kernel
theorem dX12_settle_72 : decode cX12_settle 72 = .ok (.iconst 1, 1) := by decide +kernel
theorem dX12_settle_73 : decode cX12_settle 73 = .ok (.isub, 1) := by decide +kernel
theorem dX12_settle_74 : decode cX12_settle 74 = .ok (.iaload, 1) := by decide +kernel
theorem dX12_settle_75 : decode cX12_settle 75 = .ok (.aload_n 0, 1) := by decide +kernel
theorem dX12_settle_76 : decode cX12_settle 76 = .ok (.getfield 62, 3) := by decide +kernel
theorem dX12_settle_79 : decode cX12_settle 79 = .ok (.bipush 8, 2) := by decide +kernel
theorem dX12_settle_81 : decode cX12_settle 81 = .ok (.iload_n 1, 1) := by decide +kernel
theorem dX12_settle_82 : decode cX12_settle 82 = .ok (.imul, 1) := by decide +kernel
theorem dX12_settle_83 : decode cX12_settle 83 = .ok (.iload_n 3, 1) := by decide +kernel
theorem dX12_settle_84 : decode cX12_settle 84 = .ok (.iadd, 1) := by decide +kernel
theorem dX12_settle_85 : decode cX12_settle 85 = .ok (.iconst 1, 1) := by decide +kernel
theorem dX12_settle_86 : decode cX12_settle 86 = .ok (.isub, 1) := by decide +kernel
theorem dX12_settle_87 : decode cX12_settle 87 = .ok (.iaload, 1) := by decide +kernel
theorem dX12_settle_88 : decode cX12_settle 88 = .ok (.aload_n 0, 1) := by decide +kernel
theorem dX12_settle_89 : decode cX12_settle 89 = .ok (.getfield 62, 3) := by decide +kernel
theorem dX12_settle_92 : decode cX12_settle 92 = .ok (.bipush 8, 2) := by decide +kernel
theorem dX12_settle_94 : decode cX12_settle 94 = .ok (.iload_n 1, 1) := by decide +kernel
theorem dX12_settle_95 : decode cX12_settle 95 = .ok (.imul, 1) := by decide +kernel
theorem dX12_settle_96 : decode cX12_settle 96 = .ok (.iload_n 3, 1) := by decide +kernel
theorem dX12_settle_97 : decode cX12_settle 97 = .ok (.iadd, 1) := by decide +kernel
theorem dX12_settle_98 : decode cX12_settle 98 = .ok (.iconst 1, 1) := by decide +kernel
theorem dX12_settle_99 : decode cX12_settle 99 = .ok (.isub, 1) := by decide +kernel
theorem dX12_settle_100 : decode cX12_settle 100 = .ok (.iaload, 1) := by decide +kernel
theorem dX12_settle_101 : decode cX12_settle 101 = .ok (.imul, 1) := by decide +kernel
theorem dX12_settle_102 : decode cX12_settle 102 = .ok (.iadd, 1) := by decide +kernel
theorem dX12_settle_103 : decode cX12_settle 103 = .ok (.iastore, 1) := by decide +kernel
theorem dX12_settle_104 : decode cX12_settle 104 = .ok (.aload_n 0, 1) := by decide +kernel
theorem dX12_settle_105 : decode cX12_settle 105 = .ok (.getfield 68, 3) := by decide +kernel
theorem dX12_settle_108 : decode cX12_settle 108 = .ok (.bipush 8, 2) := by decide +kernel
theorem dX12_settle_110 : decode cX12_settle 110 = .ok (.iload_n 1, 1) := by decide +kernel
theorem dX12_settle_111 : decode cX12_settle 111 = .ok (.imul, 1) := by decide +kernel
theorem dX12_settle_112 : decode cX12_settle 112 = .ok (.iload_n 3, 1) := by decide +kernel
theorem dX12_settle_113 : decode cX12_settle 113 = .ok (.iadd, 1) := by decide +kernel
theorem dX12_settle_114 : decode cX12_settle 114 = .ok (.iconst 0, 1) := by decide +kernel
theorem dX12_settle_115 : decode cX12_settle 115 = .ok (.iastore, 1) := by decide +kernel
theorem dX12_settle_116 : decode cX12_settle 116 = .ok (.iconst 0, 1) := by decide +kernel
theorem dX12_settle_117 : decode cX12_settle 117 = .ok (.istore 4, 2) := by decide +kernel
theorem dX12_settle_119 : decode cX12_settle 119 = .ok (.iload 4, 2) := by decide +kernel
theorem dX12_settle_121 : decode cX12_settle 121 = .ok (.aload_n 0, 1) := by decide +kernel
theorem dX12_settle_122 : decode cX12_settle 122 = .ok (.getfield 62, 3) := by decide +kernel
theorem dX12_settle_125 : decode cX12_settle 125 = .ok (.bipush 8, 2) := by decide +kernel
theorem dX12_settle_127 : decode cX12_settle 127 = .ok (.iload_n 1, 1) := by decide +kernel
theorem dX12_settle_128 : decode cX12_settle 128 = .ok (.imul, 1) := by decide +kernel
theorem dX12_settle_129 : decode cX12_settle 129 = .ok (.iload_n 3, 1) := by decide +kernel
theorem dX12_settle_130 : decode cX12_settle 130 = .ok (.iadd, 1) := by decide +kernel
theorem dX12_settle_131 : decode cX12_settle 131 = .ok (.iaload, 1) := by decide +kernel
theorem dX12_settle_132 : decode cX12_settle 132 = .ok (.if_icmp .ge 29, 3) := by decide +kernel
theorem dX12_settle_135 : decode cX12_settle 135 = .ok (.aload_n 0, 1) := by decide +kernel
theorem dX12_settle_136 : decode cX12_settle 136 = .ok (.getfield 87, 3) := by decide +kernel
theorem dX12_settle_139 : decode cX12_settle 139 = .ok (.aload_n 0, 1) := by decide +kernel
theorem dX12_settle_140 : decode cX12_settle 140 = .ok (.getfield 65, 3) := by decide +kernel
theorem dX12_settle_143 : decode cX12_settle 143 = .ok (.bipush 8, 2) := by decide +kernel
theorem dX12_settle_145 : decode cX12_settle 145 = .ok (.iload_n 1, 1) := by decide +kernel
theorem dX12_settle_146 : decode cX12_settle 146 = .ok (.imul, 1) := by decide +kernel
theorem dX12_settle_147 : decode cX12_settle 147 = .ok (.iload_n 3, 1) := by decide +kernel
theorem dX12_settle_148 : decode cX12_settle 148 = .ok (.iadd, 1) := by decide +kernel
theorem dX12_settle_149 : decode cX12_settle 149 = .ok (.iaload, 1) := by decide +kernel
theorem dX12_settle_150 : decode cX12_settle 150 = .ok (.iload 4, 2) := by decide +kernel
theorem dX12_settle_152 : decode cX12_settle 152 = .ok (.iadd, 1) := by decide +kernel
theorem dX12_settle_153 : decode cX12_settle 153 = .ok (.iconst 0, 1) := by decide +kernel
theorem dX12_settle_154 : decode cX12_settle 154 = .ok (.bastore, 1) := by decide +kernel
theorem dX12_settle_155 : decode cX12_settle 155 = .ok (.iinc 4 1, 3) := by decide +kernel
theorem dX12_settle_158 : decode cX12_settle 158 = .ok (.goto (-39), 3) := by decide +kernel
theorem dX12_settle_161 : decode cX12_settle 161 = .ok (.iload_n 3, 1) := by decide +kernel
theorem dX12_settle_162 : decode cX12_settle 162 = .ok (.iconst 1, 1) := by decide +kernel
theorem dX12_settle_163 : decode cX12_settle 163 = .ok (.if_icmp .le 9, 3) := by decide +kernel
theorem dX12_settle_166 : decode cX12_settle 166 = .ok (.aload_n 0, 1) := by decide +kernel
theorem dX12_settle_167 : decode cX12_settle 167 = .ok (.iload_n 1, 1) := by decide +kernel
theorem dX12_settle_168 : decode cX12_settle 168 = .ok (.iload_n 3, 1) := by decide +kernel
theorem dX12_settle_169 : decode cX12_settle 169 = .ok (.invokevirtual 352, 3) := by decide +kernel
theorem dX12_settle_172 : decode cX12_settle 172 = .ok (.iload_n 3, 1) := by decide +kernel
theorem dX12_settle_173 : decode cX12_settle 173 = .ok (.iconst 1, 1) := by decide +kernel
theorem dX12_settle_174 : decode cX12_settle 174 = .ok (.if_icmp .le 9, 3) := by decide +kernel
theorem dX12_settle_177 : decode cX12_settle 177 = .ok (.aload_n 0, 1) := by decide +kernel
theorem dX12_settle_178 : decode cX12_settle 178 = .ok (.iload_n 1, 1) := by decide +kernel
theorem dX12_settle_179 : decode cX12_settle 179 = .ok (.iload_n 3, 1) := by decide +kernel
theorem dX12_settle_180 : decode cX12_settle 180 = .ok (.invokevirtual 355, 3) := by decide +kernel
theorem dX12_settle_183 : decode cX12_settle 183 = .ok (.aload_n 0, 1) := by decide +kernel
theorem dX12_settle_184 : decode cX12_settle 184 = .ok (.getfield 59, 3) := by decide +kernel
theorem dX12_settle_187 : decode cX12_settle 187 = .ok (.iload_n 1, 1) := by decide +kernel
theorem dX12_settle_188 : decode cX12_settle 188 = .ok (.iload_n 3, 1) := by decide +kernel
theorem dX12_settle_189 : decode cX12_settle 189 = .ok (.iastore, 1) := by decide +kernel
theorem dX12_settle_190 : decode cX12_settle 190 = .ok (.iinc 3 1, 3) := by decide +kernel
theorem dX12_settle_193 : decode cX12_settle 193 = .ok (.goto (-165), 3) := by decide +kernel
theorem dX12_settle_196 : decode cX12_settle 196 = .ok (.return_, 1) := by decide +kernel
theorem dX12_isFull_0 : decode cX12_isFull 0 = .ok (.aload_n 0, 1) := by decide +kernel
theorem dX12_isFull_1 : decode cX12_isFull 1 = .ok (.getfield 68, 3) := by decide +kernel
theorem dX12_isFull_4 : decode cX12_isFull 4 = .ok (.bipush 8, 2) := by decide +kernel
theorem dX12_isFull_6 : decode cX12_isFull 6 = .ok (.iload_n 1, 1) := by decide +kernel
theorem dX12_isFull_7 : decode cX12_isFull 7 = .ok (.imul, 1) := by decide +kernel
theorem dX12_isFull_8 : decode cX12_isFull 8 = .ok (.iload_n 2, 1) := by decide +kernel
theorem dX12_isFull_9 : decode cX12_isFull 9 = .ok (.iadd, 1) := by decide +kernel
theorem dX12_isFull_10 : decode cX12_isFull 10 = .ok (.iaload, 1) := by decide +kernel
theorem dX12_isFull_11 : decode cX12_isFull 11 = .ok (.aload_n 0, 1) := by decide +kernel
theorem dX12_isFull_12 : decode cX12_isFull 12 = .ok (.getfield 62, 3) := by decide +kernel
theorem dX12_isFull_15 : decode cX12_isFull 15 = .ok (.bipush 8, 2) := by decide +kernel
theorem dX12_isFull_17 : decode cX12_isFull 17 = .ok (.iload_n 1, 1) := by decide +kernel
theorem dX12_isFull_18 : decode cX12_isFull 18 = .ok (.imul, 1) := by decide +kernel
theorem dX12_isFull_19 : decode cX12_isFull 19 = .ok (.iload_n 2, 1) := by decide +kernel
theorem dX12_isFull_20 : decode cX12_isFull 20 = .ok (.iadd, 1) := by decide +kernel
theorem dX12_isFull_21 : decode cX12_isFull 21 = .ok (.iaload, 1) := by decide +kernel
theorem dX12_isFull_22 : decode cX12_isFull 22 = .ok (.if_icmp .ne 7, 3) := by decide +kernel
theorem dX12_isFull_25 : decode cX12_isFull 25 = .ok (.iconst 1, 1) := by decide +kernel
theorem dX12_isFull_26 : decode cX12_isFull 26 = .ok (.goto 4, 3) := by decide +kernel
theorem dX12_isFull_29 : decode cX12_isFull 29 = .ok (.iconst 0, 1) := by decide +kernel
theorem dX12_isFull_30 : decode cX12_isFull 30 = .ok (.ireturn, 1) := by decide +kernel
theorem dX12_acted_0 : decode cX12_acted 0 = .ok (.iconst 0, 1) := by decide +kernel
theorem dX12_acted_1 : decode cX12_acted 1 = .ok (.istore_n 3, 1) := by decide +kernel
theorem dX12_acted_2 : decode cX12_acted 2 = .ok (.iload_n 3, 1) := by decide +kernel
theorem dX12_acted_3 : decode cX12_acted 3 = .ok (.aload_n 0, 1) := by decide +kernel
theorem dX12_acted_4 : decode cX12_acted 4 = .ok (.getfield 56, 3) := by decide +kernel
theorem dX12_acted_7 : decode cX12_acted 7 = .ok (.sipush 1173, 3) := by decide +kernel
theorem dX12_acted_10 : decode cX12_acted 10 = .ok (.iload_n 1, 1) := by decide +kernel
theorem dX12_acted_11 : decode cX12_acted 11 = .ok (.imul, 1) := by decide +kernel
theorem dX12_acted_12 : decode cX12_acted 12 = .ok (.iconst 1, 1) := by decide +kernel
theorem dX12_acted_13 : decode cX12_acted 13 = .ok (.iadd, 1) := by decide +kernel
theorem dX12_acted_14 : decode cX12_acted 14 = .ok (.iaload, 1) := by decide +kernel
theorem dX12_acted_15 : decode cX12_acted 15 = .ok (.if_icmp .ge 297, 3) := by decide +kernel
theorem dX12_acted_18 : decode cX12_acted 18 = .ok (.aload_n 0, 1) := by decide +kernel
theorem dX12_acted_19 : decode cX12_acted 19 = .ok (.getfield 56, 3) := by decide +kernel
theorem dX12_acted_22 : decode cX12_acted 22 = .ok (.sipush 1173, 3) := by decide +kernel
theorem dX12_acted_25 : decode cX12_acted 25 = .ok (.iload_n 1, 1) := by decide +kernel
theorem dX12_acted_26 : decode cX12_acted 26 = .ok (.imul, 1) := by decide +kernel
theorem dX12_acted_27 : decode cX12_acted 27 = .ok (.iconst 4, 1) := by decide +kernel
theorem dX12_acted_28 : decode cX12_acted 28 = .ok (.iadd, 1) := by decide +kernel
theorem dX12_acted_29 : decode cX12_acted 29 = .ok (.iload_n 3, 1) := by decide +kernel
theorem dX12_acted_30 : decode cX12_acted 30 = .ok (.iadd, 1) := by decide +kernel
theorem dX12_acted_31 : decode cX12_acted 31 = .ok (.iaload, 1) := by decide +kernel
theorem dX12_acted_32 : decode cX12_acted 32 = .ok (.istore 4, 2) := by decide +kernel
theorem dX12_acted_34 : decode cX12_acted 34 = .ok (.iconst 0, 1) := by decide +kernel
theorem dX12_acted_35 : decode cX12_acted 35 = .ok (.istore 5, 2) := by decide +kernel
theorem dX12_acted_37 : decode cX12_acted 37 = .ok (.iload 5, 2) := by decide +kernel
theorem dX12_acted_39 : decode cX12_acted 39 = .ok (.iload 4, 2) := by decide +kernel
theorem dX12_acted_41 : decode cX12_acted 41 = .ok (.if_icmp .ge 265, 3) := by decide +kernel
theorem dX12_acted_44 : decode cX12_acted 44 = .ok (.aload_n 0, 1) := by decide +kernel
theorem dX12_acted_45 : decode cX12_acted 45 = .ok (.iload_n 1, 1) := by decide +kernel
theorem dX12_acted_46 : decode cX12_acted 46 = .ok (.iload 4, 2) := by decide +kernel
theorem dX12_acted_48 : decode cX12_acted 48 = .ok (.iload_n 2, 1) := by decide +kernel
theorem dX12_acted_49 : decode cX12_acted 49 = .ok (.invokevirtual 309, 3) := by decide +kernel
theorem dX12_acted_52 : decode cX12_acted 52 = .ok (.istore 6, 2) := by decide +kernel
theorem dX12_acted_54 : decode cX12_acted 54 = .ok (.iload 6, 2) := by decide +kernel
theorem dX12_acted_56 : decode cX12_acted 56 = .ok (.ifCond .eq 244, 3) := by decide +kernel
theorem dX12_acted_59 : decode cX12_acted 59 = .ok (.aload_n 0, 1) := by decide +kernel
theorem dX12_acted_60 : decode cX12_acted 60 = .ok (.iload_n 1, 1) := by decide +kernel
theorem dX12_acted_61 : decode cX12_acted 61 = .ok (.iload_n 2, 1) := by decide +kernel
theorem dX12_acted_62 : decode cX12_acted 62 = .ok (.invokevirtual 358, 3) := by decide +kernel
theorem dX12_acted_65 : decode cX12_acted 65 = .ok (.ifCond .ne 235, 3) := by decide +kernel
theorem dX12_acted_68 : decode cX12_acted 68 = .ok (.aload_n 0, 1) := by decide +kernel
theorem dX12_acted_69 : decode cX12_acted 69 = .ok (.getfield 87, 3) := by decide +kernel
theorem dX12_acted_72 : decode cX12_acted 72 = .ok (.aload_n 0, 1) := by decide +kernel
theorem dX12_acted_73 : decode cX12_acted 73 = .ok (.getfield 65, 3) := by decide +kernel
theorem dX12_acted_76 : decode cX12_acted 76 = .ok (.bipush 8, 2) := by decide +kernel
theorem dX12_acted_78 : decode cX12_acted 78 = .ok (.iload_n 1, 1) := by decide +kernel
theorem dX12_acted_79 : decode cX12_acted 79 = .ok (.imul, 1) := by decide +kernel
theorem dX12_acted_80 : decode cX12_acted 80 = .ok (.aload_n 0, 1) := by decide +kernel
theorem dX12_acted_81 : decode cX12_acted 81 = .ok (.getfield 100, 3) := by decide +kernel
theorem dX12_acted_84 : decode cX12_acted 84 = .ok (.iload 5, 2) := by decide +kernel
theorem dX12_acted_86 : decode cX12_acted 86 = .ok (.iaload, 1) := by decide +kernel
theorem dX12_acted_87 : decode cX12_acted 87 = .ok (.iadd, 1) := by decide +kernel
theorem dX12_acted_88 : decode cX12_acted 88 = .ok (.iaload, 1) := by decide +kernel
theorem dX12_acted_89 : decode cX12_acted 89 = .ok (.aload_n 0, 1) := by decide +kernel
theorem dX12_acted_90 : decode cX12_acted 90 = .ok (.getfield 103, 3) := by decide +kernel
theorem dX12_acted_93 : decode cX12_acted 93 = .ok (.iload 5, 2) := by decide +kernel
theorem dX12_acted_95 : decode cX12_acted 95 = .ok (.iaload, 1) := by decide +kernel
theorem dX12_acted_96 : decode cX12_acted 96 = .ok (.iadd, 1) := by decide +kernel
theorem dX12_acted_97 : decode cX12_acted 97 = .ok (.baload, 1) := by decide +kernel
theorem dX12_acted_98 : decode cX12_acted 98 = .ok (.ifCond .ne 6, 3) := by decide +kernel
theorem dX12_acted_101 : decode cX12_acted 101 = .ok (.goto 190, 3) := by decide +kernel
theorem dX12_acted_104 : decode cX12_acted 104 = .ok (.aload_n 0, 1) := by decide +kernel
theorem dX12_acted_105 : decode cX12_acted 105 = .ok (.getfield 62, 3) := by decide +kernel
theorem dX12_acted_108 : decode cX12_acted 108 = .ok (.bipush 8, 2) := by decide +kernel
theorem dX12_acted_110 : decode cX12_acted 110 = .ok (.iload_n 1, 1) := by decide +kernel
theorem dX12_acted_111 : decode cX12_acted 111 = .ok (.imul, 1) := by decide +kernel
theorem dX12_acted_112 : decode cX12_acted 112 = .ok (.aload_n 0, 1) := by decide +kernel
theorem dX12_acted_113 : decode cX12_acted 113 = .ok (.getfield 100, 3) := by decide +kernel
theorem dX12_acted_116 : decode cX12_acted 116 = .ok (.iload 5, 2) := by decide +kernel
theorem dX12_acted_118 : decode cX12_acted 118 = .ok (.iaload, 1) := by decide +kernel
theorem dX12_acted_119 : decode cX12_acted 119 = .ok (.iadd, 1) := by decide +kernel
theorem dX12_acted_120 : decode cX12_acted 120 = .ok (.iaload, 1) := by decide +kernel
theorem dX12_acted_121 : decode cX12_acted 121 = .ok (.istore 7, 2) := by decide +kernel
theorem dX12_acted_123 : decode cX12_acted 123 = .ok (.aload_n 0, 1) := by decide +kernel
theorem dX12_acted_124 : decode cX12_acted 124 = .ok (.iload_n 1, 1) := by decide +kernel
theorem dX12_acted_125 : decode cX12_acted 125 = .ok (.aload_n 0, 1) := by decide +kernel
theorem dX12_acted_126 : decode cX12_acted 126 = .ok (.getfield 100, 3) := by decide +kernel
theorem dX12_acted_129 : decode cX12_acted 129 = .ok (.iload 5, 2) := by decide +kernel
theorem dX12_acted_131 : decode cX12_acted 131 = .ok (.iaload, 1) := by decide +kernel
theorem dX12_acted_132 : decode cX12_acted 132 = .ok (.aload_n 0, 1) := by decide +kernel
theorem dX12_acted_133 : decode cX12_acted 133 = .ok (.getfield 103, 3) := by decide +kernel
theorem dX12_acted_136 : decode cX12_acted 136 = .ok (.iload 5, 2) := by decide +kernel
theorem dX12_acted_138 : decode cX12_acted 138 = .ok (.iaload, 1) := by decide +kernel
theorem dX12_acted_139 : decode cX12_acted 139 = .ok (.invokevirtual 335, 3) := by decide +kernel
theorem dX12_acted_142 : decode cX12_acted 142 = .ok (.istore 8, 2) := by decide +kernel
theorem dX12_acted_144 : decode cX12_acted 144 = .ok (.aload_n 0, 1) := by decide +kernel
theorem dX12_acted_145 : decode cX12_acted 145 = .ok (.aload_n 0, 1) := by decide +kernel
theorem dX12_acted_146 : decode cX12_acted 146 = .ok (.getfield 62, 3) := by decide +kernel
theorem dX12_acted_149 : decode cX12_acted 149 = .ok (.bipush 8, 2) := by decide +kernel
theorem dX12_acted_151 : decode cX12_acted 151 = .ok (.iload_n 1, 1) := by decide +kernel
theorem dX12_acted_152 : decode cX12_acted 152 = .ok (.imul, 1) := by decide +kernel
theorem dX12_acted_153 : decode cX12_acted 153 = .ok (.iload_n 2, 1) := by decide +kernel
theorem dX12_acted_154 : decode cX12_acted 154 = .ok (.iadd, 1) := by decide +kernel
theorem dX12_acted_155 : decode cX12_acted 155 = .ok (.iaload, 1) := by decide +kernel
theorem dX12_acted_156 : decode cX12_acted 156 = .ok (.invokevirtual 361, 3) := by decide +kernel
theorem dX12_acted_159 : decode cX12_acted 159 = .ok (.iconst 0, 1) := by decide +kernel
theorem dX12_acted_160 : decode cX12_acted 160 = .ok (.istore 9, 2) := by decide +kernel
theorem dX12_acted_162 : decode cX12_acted 162 = .ok (.iload 9, 2) := by decide +kernel
theorem dX12_acted_164 : decode cX12_acted 164 = .ok (.iload 7, 2) := by decide +kernel
theorem dX12_acted_166 : decode cX12_acted 166 = .ok (.if_icmp .ge 119, 3) := by decide +kernel
theorem dX12_acted_169 : decode cX12_acted 169 = .ok (.aload_n 0, 1) := by decide +kernel
theorem dX12_acted_170 : decode cX12_acted 170 = .ok (.getfield 84, 3) := by decide +kernel
theorem dX12_acted_173 : decode cX12_acted 173 = .ok (.iload 8, 2) := by decide +kernel
theorem dX12_acted_175 : decode cX12_acted 175 = .ok (.iload 9, 2) := by decide +kernel
theorem dX12_acted_177 : decode cX12_acted 177 = .ok (.iadd, 1) := by decide +kernel
theorem dX12_acted_178 : decode cX12_acted 178 = .ok (.iaload, 1) := by decide +kernel
theorem dX12_acted_179 : decode cX12_acted 179 = .ok (.ifCond .ne 6, 3) := by decide +kernel
theorem dX12_acted_182 : decode cX12_acted 182 = .ok (.goto 97, 3) := by decide +kernel
theorem dX12_acted_185 : decode cX12_acted 185 = .ok (.iconst 4, 1) := by decide +kernel
theorem dX12_acted_186 : decode cX12_acted 186 = .ok (.iload_n 3, 1) := by decide +kernel
theorem dX12_acted_187 : decode cX12_acted 187 = .ok (.iconst 1, 1) := by decide +kernel
theorem dX12_acted_188 : decode cX12_acted 188 = .ok (.iadd, 1) := by decide +kernel
theorem dX12_acted_189 : decode cX12_acted 189 = .ok (.ior, 1) := by decide +kernel
theorem dX12_acted_190 : decode cX12_acted 190 = .ok (.istore 10, 2) := by decide +kernel
theorem dX12_acted_192 : decode cX12_acted 192 = .ok (.iconst 0, 1) := by decide +kernel
theorem dX12_acted_193 : decode cX12_acted 193 = .ok (.istore 11, 2) := by decide +kernel
theorem dX12_acted_195 : decode cX12_acted 195 = .ok (.iload 11, 2) := by decide +kernel
theorem dX12_acted_197 : decode cX12_acted 197 = .ok (.iload 4, 2) := by decide +kernel
theorem dX12_acted_199 : decode cX12_acted 199 = .ok (.if_icmp .ge 57, 3) := by decide +kernel
theorem dX12_acted_202 : decode cX12_acted 202 = .ok (.iload 10, 2) := by decide +kernel
theorem dX12_acted_204 : decode cX12_acted 204 = .ok (.iload 11, 2) := by decide +kernel
theorem dX12_acted_206 : decode cX12_acted 206 = .ok (.iload 5, 2) := by decide +kernel
theorem dX12_acted_208 : decode cX12_acted 208 = .ok (.if_icmp .ne 31, 3) := by decide +kernel
theorem dX12_acted_211 : decode cX12_acted 211 = .ok (.aload_n 0, 1) := by decide +kernel
theorem dX12_acted_212 : decode cX12_acted 212 = .ok (.getfield 74, 3) := by decide +kernel
theorem dX12_acted_215 : decode cX12_acted 215 = .ok (.aload_n 0, 1) := by decide +kernel
theorem dX12_acted_216 : decode cX12_acted 216 = .ok (.getfield 65, 3) := by decide +kernel
theorem dX12_acted_219 : decode cX12_acted 219 = .ok (.bipush 8, 2) := by decide +kernel
theorem dX12_acted_221 : decode cX12_acted 221 = .ok (.iload_n 1, 1) := by decide +kernel
theorem dX12_acted_222 : decode cX12_acted 222 = .ok (.imul, 1) := by decide +kernel
theorem dX12_acted_223 : decode cX12_acted 223 = .ok (.aload_n 0, 1) := by decide +kernel
theorem dX12_acted_224 : decode cX12_acted 224 = .ok (.getfield 100, 3) := by decide +kernel
theorem dX12_acted_227 : decode cX12_acted 227 = .ok (.iload 5, 2) := by decide +kernel
theorem dX12_acted_229 : decode cX12_acted 229 = .ok (.iaload, 1) := by decide +kernel
theorem dX12_acted_230 : decode cX12_acted 230 = .ok (.iadd, 1) := by decide +kernel
theorem dX12_acted_231 : decode cX12_acted 231 = .ok (.iaload, 1) := by decide +kernel
theorem dX12_acted_232 : decode cX12_acted 232 = .ok (.iload 9, 2) := by decide +kernel
theorem dX12_acted_234 : decode cX12_acted 234 = .ok (.iadd, 1) := by decide +kernel
theorem dX12_acted_235 : decode cX12_acted 235 = .ok (.iaload, 1) := by decide +kernel
theorem dX12_acted_236 : decode cX12_acted 236 = .ok (.goto 9, 3) := by decide +kernel
theorem dX12_acted_239 : decode cX12_acted 239 = .ok (.aload_n 0, 1) := by decide +kernel
theorem dX12_acted_240 : decode cX12_acted 240 = .ok (.iload 11, 2) := by decide +kernel
theorem dX12_acted_242 : decode cX12_acted 242 = .ok (.invokevirtual 313, 3) := by decide +kernel
theorem dX12_acted_245 : decode cX12_acted 245 = .ok (.invokestatic 317, 3) := by decide +kernel
theorem dX12_acted_248 : decode cX12_acted 248 = .ok (.istore 10, 2) := by decide +kernel
theorem dX12_acted_250 : decode cX12_acted 250 = .ok (.iinc 11 1, 3) := by decide +kernel
theorem dX12_acted_253 : decode cX12_acted 253 = .ok (.goto (-58), 3) := by decide +kernel
theorem dX12_acted_256 : decode cX12_acted 256 = .ok (.aload_n 0, 1) := by decide +kernel
theorem dX12_acted_257 : decode cX12_acted 257 = .ok (.getfield 106, 3) := by decide +kernel
theorem dX12_acted_260 : decode cX12_acted 260 = .ok (.aload_n 0, 1) := by decide +kernel
theorem dX12_acted_261 : decode cX12_acted 261 = .ok (.iload_n 1, 1) := by decide +kernel
theorem dX12_acted_262 : decode cX12_acted 262 = .ok (.iload_n 2, 1) := by decide +kernel
theorem dX12_acted_263 : decode cX12_acted 263 = .ok (.iload 10, 2) := by decide +kernel
theorem dX12_acted_265 : decode cX12_acted 265 = .ok (.invokevirtual 364, 3) := by decide +kernel
theorem dX12_acted_268 : decode cX12_acted 268 = .ok (.aload_n 0, 1) := by decide +kernel
theorem dX12_acted_269 : decode cX12_acted 269 = .ok (.getfield 84, 3) := by decide +kernel
theorem dX12_acted_272 : decode cX12_acted 272 = .ok (.iload 8, 2) := by decide +kernel
theorem dX12_acted_274 : decode cX12_acted 274 = .ok (.iload 9, 2) := by decide +kernel
theorem dX12_acted_276 : decode cX12_acted 276 = .ok (.iadd, 1) := by decide +kernel
theorem dX12_acted_277 : decode cX12_acted 277 = .ok (.iaload, 1) := by decide +kernel
theorem dX12_acted_278 : decode cX12_acted 278 = .ok (.iastore, 1) := by decide +kernel
theorem dX12_acted_279 : decode cX12_acted 279 = .ok (.iinc 9 1, 3) := by decide +kernel
theorem dX12_acted_282 : decode cX12_acted 282 = .ok (.goto (-120), 3) := by decide +kernel
theorem dX12_acted_285 : decode cX12_acted 285 = .ok (.aload_n 0, 1) := by decide +kernel
theorem dX12_acted_286 : decode cX12_acted 286 = .ok (.iload_n 1, 1) := by decide +kernel
theorem dX12_acted_287 : decode cX12_acted 287 = .ok (.iload_n 2, 1) := by decide +kernel
theorem dX12_acted_288 : decode cX12_acted 288 = .ok (.invokevirtual 367, 3) := by decide +kernel
theorem dX12_acted_291 : decode cX12_acted 291 = .ok (.aload_n 0, 1) := by decide +kernel
theorem dX12_acted_292 : decode cX12_acted 292 = .ok (.invokevirtual 321, 3) := by decide +kernel
theorem dX12_acted_295 : decode cX12_acted 295 = .ok (.istore 6, 2) := by decide +kernel
theorem dX12_acted_297 : decode cX12_acted 297 = .ok (.goto (-243), 3) := by decide +kernel
theorem dX12_acted_300 : decode cX12_acted 300 = .ok (.iinc 5 1, 3) := by decide +kernel
theorem dX12_acted_303 : decode cX12_acted 303 = .ok (.goto (-266), 3) := by decide +kernel
theorem dX12_acted_306 : decode cX12_acted 306 = .ok (.iinc 3 1, 3) := by decide +kernel
theorem dX12_acted_309 : decode cX12_acted 309 = .ok (.goto (-307), 3) := by decide +kernel
theorem dX12_acted_312 : decode cX12_acted 312 = .ok (.return_, 1) := by decide +kernel
theorem dX12_lawful_0 : decode cX12_lawful 0 = .ok (.iconst 0, 1) := by decide +kernel
theorem dX12_lawful_1 : decode cX12_lawful 1 = .ok (.istore_n 3, 1) := by decide +kernel
theorem dX12_lawful_2 : decode cX12_lawful 2 = .ok (.iload_n 3, 1) := by decide +kernel
theorem dX12_lawful_3 : decode cX12_lawful 3 = .ok (.aload_n 0, 1) := by decide +kernel
theorem dX12_lawful_4 : decode cX12_lawful 4 = .ok (.getfield 56, 3) := by decide +kernel
theorem dX12_lawful_7 : decode cX12_lawful 7 = .ok (.sipush 1173, 3) := by decide +kernel
theorem dX12_lawful_10 : decode cX12_lawful 10 = .ok (.iload_n 1, 1) := by decide +kernel
theorem dX12_lawful_11 : decode cX12_lawful 11 = .ok (.imul, 1) := by decide +kernel
theorem dX12_lawful_12 : decode cX12_lawful 12 = .ok (.iconst 2, 1) := by decide +kernel
theorem dX12_lawful_13 : decode cX12_lawful 13 = .ok (.iadd, 1) := by decide +kernel
theorem dX12_lawful_14 : decode cX12_lawful 14 = .ok (.iaload, 1) := by decide +kernel
theorem dX12_lawful_15 : decode cX12_lawful 15 = .ok (.if_icmp .ge 198, 3) := by decide +kernel
theorem dX12_lawful_18 : decode cX12_lawful 18 = .ok (.aload_n 0, 1) := by decide +kernel
theorem dX12_lawful_19 : decode cX12_lawful 19 = .ok (.getfield 56, 3) := by decide +kernel
theorem dX12_lawful_22 : decode cX12_lawful 22 = .ok (.sipush 1173, 3) := by decide +kernel
theorem dX12_lawful_25 : decode cX12_lawful 25 = .ok (.iload_n 1, 1) := by decide +kernel
theorem dX12_lawful_26 : decode cX12_lawful 26 = .ok (.imul, 1) := by decide +kernel
theorem dX12_lawful_27 : decode cX12_lawful 27 = .ok (.bipush 7, 2) := by decide +kernel
theorem dX12_lawful_29 : decode cX12_lawful 29 = .ok (.iadd, 1) := by decide +kernel
theorem dX12_lawful_30 : decode cX12_lawful 30 = .ok (.iload_n 3, 1) := by decide +kernel
theorem dX12_lawful_31 : decode cX12_lawful 31 = .ok (.iadd, 1) := by decide +kernel
theorem dX12_lawful_32 : decode cX12_lawful 32 = .ok (.iaload, 1) := by decide +kernel
theorem dX12_lawful_33 : decode cX12_lawful 33 = .ok (.istore 4, 2) := by decide +kernel
theorem dX12_lawful_35 : decode cX12_lawful 35 = .ok (.aload_n 0, 1) := by decide +kernel
theorem dX12_lawful_36 : decode cX12_lawful 36 = .ok (.iload_n 1, 1) := by decide +kernel
theorem dX12_lawful_37 : decode cX12_lawful 37 = .ok (.iload 4, 2) := by decide +kernel
theorem dX12_lawful_39 : decode cX12_lawful 39 = .ok (.iload_n 2, 1) := by decide +kernel
theorem dX12_lawful_40 : decode cX12_lawful 40 = .ok (.invokevirtual 309, 3) := by decide +kernel
theorem dX12_lawful_43 : decode cX12_lawful 43 = .ok (.istore 5, 2) := by decide +kernel
theorem dX12_lawful_45 : decode cX12_lawful 45 = .ok (.iload 5, 2) := by decide +kernel
theorem dX12_lawful_47 : decode cX12_lawful 47 = .ok (.ifCond .eq 160, 3) := by decide +kernel
theorem dX12_lawful_50 : decode cX12_lawful 50 = .ok (.aload_n 0, 1) := by decide +kernel
theorem dX12_lawful_51 : decode cX12_lawful 51 = .ok (.iload_n 1, 1) := by decide +kernel
theorem dX12_lawful_52 : decode cX12_lawful 52 = .ok (.iload_n 2, 1) := by decide +kernel
theorem dX12_lawful_53 : decode cX12_lawful 53 = .ok (.invokevirtual 358, 3) := by decide +kernel
theorem dX12_lawful_56 : decode cX12_lawful 56 = .ok (.ifCond .ne 151, 3) := by decide +kernel
theorem dX12_lawful_59 : decode cX12_lawful 59 = .ok (.aload_n 0, 1) := by decide +kernel
theorem dX12_lawful_60 : decode cX12_lawful 60 = .ok (.aload_n 0, 1) := by decide +kernel
theorem dX12_lawful_61 : decode cX12_lawful 61 = .ok (.getfield 62, 3) := by decide +kernel
theorem dX12_lawful_64 : decode cX12_lawful 64 = .ok (.bipush 8, 2) := by decide +kernel
theorem dX12_lawful_66 : decode cX12_lawful 66 = .ok (.iload_n 1, 1) := by decide +kernel
theorem dX12_lawful_67 : decode cX12_lawful 67 = .ok (.imul, 1) := by decide +kernel
theorem dX12_lawful_68 : decode cX12_lawful 68 = .ok (.iload_n 2, 1) := by decide +kernel
theorem dX12_lawful_69 : decode cX12_lawful 69 = .ok (.iadd, 1) := by decide +kernel
theorem dX12_lawful_70 : decode cX12_lawful 70 = .ok (.iaload, 1) := by decide +kernel
theorem dX12_lawful_71 : decode cX12_lawful 71 = .ok (.invokevirtual 361, 3) := by decide +kernel
theorem dX12_lawful_74 : decode cX12_lawful 74 = .ok (.aload_n 0, 1) := by decide +kernel
theorem dX12_lawful_75 : decode cX12_lawful 75 = .ok (.getfield 56, 3) := by decide +kernel
theorem dX12_lawful_78 : decode cX12_lawful 78 = .ok (.sipush 1173, 3) := by decide +kernel
theorem dX12_lawful_81 : decode cX12_lawful 81 = .ok (.iload_n 1, 1) := by decide +kernel
theorem dX12_lawful_82 : decode cX12_lawful 82 = .ok (.imul, 1) := by decide +kernel
theorem dX12_lawful_83 : decode cX12_lawful 83 = .ok (.bipush 25, 2) := by decide +kernel
theorem dX12_lawful_85 : decode cX12_lawful 85 = .ok (.iadd, 1) := by decide +kernel
theorem dX12_lawful_86 : decode cX12_lawful 86 = .ok (.iload_n 3, 1) := by decide +kernel
theorem dX12_lawful_87 : decode cX12_lawful 87 = .ok (.iadd, 1) := by decide +kernel
theorem dX12_lawful_88 : decode cX12_lawful 88 = .ok (.iaload, 1) := by decide +kernel
theorem dX12_lawful_89 : decode cX12_lawful 89 = .ok (.istore 6, 2) := by decide +kernel
theorem dX12_lawful_91 : decode cX12_lawful 91 = .ok (.iload 6, 2) := by decide +kernel
theorem dX12_lawful_93 : decode cX12_lawful 93 = .ok (.aload_n 0, 1) := by decide +kernel
theorem dX12_lawful_94 : decode cX12_lawful 94 = .ok (.getfield 56, 3) := by decide +kernel
theorem dX12_lawful_97 : decode cX12_lawful 97 = .ok (.sipush 1173, 3) := by decide +kernel
theorem dX12_lawful_100 : decode cX12_lawful 100 = .ok (.iload_n 1, 1) := by decide +kernel
theorem dX12_lawful_101 : decode cX12_lawful 101 = .ok (.imul, 1) := by decide +kernel
theorem dX12_lawful_102 : decode cX12_lawful 102 = .ok (.bipush 25, 2) := by decide +kernel
theorem dX12_lawful_104 : decode cX12_lawful 104 = .ok (.iadd, 1) := by decide +kernel
theorem dX12_lawful_105 : decode cX12_lawful 105 = .ok (.iload_n 3, 1) := by decide +kernel
theorem dX12_lawful_106 : decode cX12_lawful 106 = .ok (.iadd, 1) := by decide +kernel
theorem dX12_lawful_107 : decode cX12_lawful 107 = .ok (.iconst 1, 1) := by decide +kernel
theorem dX12_lawful_108 : decode cX12_lawful 108 = .ok (.iadd, 1) := by decide +kernel
theorem dX12_lawful_109 : decode cX12_lawful 109 = .ok (.iaload, 1) := by decide +kernel
theorem dX12_lawful_110 : decode cX12_lawful 110 = .ok (.if_icmp .ge 82, 3) := by decide +kernel
theorem dX12_lawful_113 : decode cX12_lawful 113 = .ok (.aload_n 0, 1) := by decide +kernel
theorem dX12_lawful_114 : decode cX12_lawful 114 = .ok (.iload_n 1, 1) := by decide +kernel
theorem dX12_lawful_115 : decode cX12_lawful 115 = .ok (.iload_n 2, 1) := by decide +kernel
theorem dX12_lawful_116 : decode cX12_lawful 116 = .ok (.aload_n 0, 1) := by decide +kernel
theorem dX12_lawful_117 : decode cX12_lawful 117 = .ok (.aload_n 0, 1) := by decide +kernel
theorem dX12_lawful_118 : decode cX12_lawful 118 = .ok (.getfield 56, 3) := by decide +kernel
theorem dX12_lawful_121 : decode cX12_lawful 121 = .ok (.sipush 1173, 3) := by decide +kernel
theorem dX12_lawful_124 : decode cX12_lawful 124 = .ok (.iload_n 1, 1) := by decide +kernel
theorem dX12_lawful_125 : decode cX12_lawful 125 = .ok (.imul, 1) := by decide +kernel
theorem dX12_lawful_126 : decode cX12_lawful 126 = .ok (.bipush 44, 2) := by decide +kernel
theorem dX12_lawful_128 : decode cX12_lawful 128 = .ok (.iadd, 1) := by decide +kernel
theorem dX12_lawful_129 : decode cX12_lawful 129 = .ok (.iload 6, 2) := by decide +kernel
theorem dX12_lawful_131 : decode cX12_lawful 131 = .ok (.iadd, 1) := by decide +kernel
theorem dX12_lawful_132 : decode cX12_lawful 132 = .ok (.iaload, 1) := by decide +kernel
theorem dX12_lawful_133 : decode cX12_lawful 133 = .ok (.invokevirtual 370, 3) := by decide +kernel
theorem dX12_lawful_136 : decode cX12_lawful 136 = .ok (.invokevirtual 364, 3) := by decide +kernel
theorem dX12_lawful_139 : decode cX12_lawful 139 = .ok (.istore 7, 2) := by decide +kernel
theorem dX12_lawful_141 : decode cX12_lawful 141 = .ok (.aload_n 0, 1) := by decide +kernel
theorem dX12_lawful_142 : decode cX12_lawful 142 = .ok (.getfield 106, 3) := by decide +kernel
theorem dX12_lawful_145 : decode cX12_lawful 145 = .ok (.iload 7, 2) := by decide +kernel
theorem dX12_lawful_147 : decode cX12_lawful 147 = .ok (.aload_n 0, 1) := by decide +kernel
theorem dX12_lawful_148 : decode cX12_lawful 148 = .ok (.getfield 106, 3) := by decide +kernel
theorem dX12_lawful_151 : decode cX12_lawful 151 = .ok (.iload 7, 2) := by decide +kernel
theorem dX12_lawful_153 : decode cX12_lawful 153 = .ok (.iaload, 1) := by decide +kernel
theorem dX12_lawful_154 : decode cX12_lawful 154 = .ok (.aload_n 0, 1) := by decide +kernel
theorem dX12_lawful_155 : decode cX12_lawful 155 = .ok (.getfield 56, 3) := by decide +kernel
theorem dX12_lawful_158 : decode cX12_lawful 158 = .ok (.sipush 1173, 3) := by decide +kernel
theorem dX12_lawful_161 : decode cX12_lawful 161 = .ok (.iload_n 1, 1) := by decide +kernel
theorem dX12_lawful_162 : decode cX12_lawful 162 = .ok (.imul, 1) := by decide +kernel
theorem dX12_lawful_163 : decode cX12_lawful 163 = .ok (.sipush 244, 3) := by decide +kernel
theorem dX12_lawful_166 : decode cX12_lawful 166 = .ok (.iadd, 1) := by decide +kernel
theorem dX12_lawful_167 : decode cX12_lawful 167 = .ok (.iload 6, 2) := by decide +kernel
theorem dX12_lawful_169 : decode cX12_lawful 169 = .ok (.iadd, 1) := by decide +kernel
theorem dX12_lawful_170 : decode cX12_lawful 170 = .ok (.iaload, 1) := by decide +kernel
theorem dX12_lawful_171 : decode cX12_lawful 171 = .ok (.iadd, 1) := by decide +kernel
theorem dX12_lawful_172 : decode cX12_lawful 172 = .ok (.aload_n 0, 1) := by decide +kernel
theorem dX12_lawful_173 : decode cX12_lawful 173 = .ok (.getfield 56, 3) := by decide +kernel
theorem dX12_lawful_176 : decode cX12_lawful 176 = .ok (.sipush 1173, 3) := by decide +kernel
theorem dX12_lawful_179 : decode cX12_lawful 179 = .ok (.iload_n 1, 1) := by decide +kernel
theorem dX12_lawful_180 : decode cX12_lawful 180 = .ok (.imul, 1) := by decide +kernel
theorem dX12_lawful_181 : decode cX12_lawful 181 = .ok (.iconst 0, 1) := by decide +kernel
theorem dX12_lawful_182 : decode cX12_lawful 182 = .ok (.iadd, 1) := by decide +kernel
theorem dX12_lawful_183 : decode cX12_lawful 183 = .ok (.iaload, 1) := by decide +kernel
theorem dX12_lawful_184 : decode cX12_lawful 184 = .ok (.irem, 1) := by decide +kernel
theorem dX12_lawful_185 : decode cX12_lawful 185 = .ok (.iastore, 1) := by decide +kernel
theorem dX12_lawful_186 : decode cX12_lawful 186 = .ok (.iinc 6 1, 3) := by decide +kernel
theorem dX12_lawful_189 : decode cX12_lawful 189 = .ok (.goto (-98), 3) := by decide +kernel
theorem dX12_lawful_192 : decode cX12_lawful 192 = .ok (.aload_n 0, 1) := by decide +kernel
theorem dX12_lawful_193 : decode cX12_lawful 193 = .ok (.iload_n 1, 1) := by decide +kernel
theorem dX12_lawful_194 : decode cX12_lawful 194 = .ok (.iload_n 2, 1) := by decide +kernel
theorem dX12_lawful_195 : decode cX12_lawful 195 = .ok (.invokevirtual 367, 3) := by decide +kernel
theorem dX12_lawful_198 : decode cX12_lawful 198 = .ok (.aload_n 0, 1) := by decide +kernel
theorem dX12_lawful_199 : decode cX12_lawful 199 = .ok (.invokevirtual 321, 3) := by decide +kernel
theorem dX12_lawful_202 : decode cX12_lawful 202 = .ok (.istore 5, 2) := by decide +kernel
theorem dX12_lawful_204 : decode cX12_lawful 204 = .ok (.goto (-159), 3) := by decide +kernel
theorem dX12_lawful_207 : decode cX12_lawful 207 = .ok (.iinc 3 1, 3) := by decide +kernel
theorem dX12_lawful_210 : decode cX12_lawful 210 = .ok (.goto (-208), 3) := by decide +kernel
theorem dX12_lawful_213 : decode cX12_lawful 213 = .ok (.return_, 1) := by decide +kernel
theorem dX12_filled_0 : decode cX12_filled 0 = .ok (.aload_n 0, 1) := by decide +kernel
theorem dX12_filled_1 : decode cX12_filled 1 = .ok (.iload_n 1, 1) := by decide +kernel
theorem dX12_filled_2 : decode cX12_filled 2 = .ok (.invokevirtual 277, 3) := by decide +kernel
theorem dX12_filled_5 : decode cX12_filled 5 = .ok (.iconst 1, 1) := by decide +kernel
theorem dX12_filled_6 : decode cX12_filled 6 = .ok (.istore_n 2, 1) := by decide +kernel
theorem dX12_filled_7 : decode cX12_filled 7 = .ok (.iconst 0, 1) := by decide +kernel
theorem dX12_filled_8 : decode cX12_filled 8 = .ok (.istore_n 3, 1) := by decide +kernel
theorem dX12_filled_9 : decode cX12_filled 9 = .ok (.iconst 0, 1) := by decide +kernel
theorem dX12_filled_10 : decode cX12_filled 10 = .ok (.istore 4, 2) := by decide +kernel
theorem dX12_filled_12 : decode cX12_filled 12 = .ok (.iload 4, 2) := by decide +kernel
theorem dX12_filled_14 : decode cX12_filled 14 = .ok (.aload_n 0, 1) := by decide +kernel
theorem dX12_filled_15 : decode cX12_filled 15 = .ok (.getfield 274, 3) := by decide +kernel
theorem dX12_filled_18 : decode cX12_filled 18 = .ok (.if_icmp .ge 47, 3) := by decide +kernel
theorem dX12_filled_21 : decode cX12_filled 21 = .ok (.aload_n 0, 1) := by decide +kernel
theorem dX12_filled_22 : decode cX12_filled 22 = .ok (.getfield 44, 3) := by decide +kernel
theorem dX12_filled_25 : decode cX12_filled 25 = .ok (.iload 4, 2) := by decide +kernel
theorem dX12_filled_27 : decode cX12_filled 27 = .ok (.iaload, 1) := by decide +kernel
theorem dX12_filled_28 : decode cX12_filled 28 = .ok (.ifCond .le 18, 3) := by decide +kernel
theorem dX12_filled_31 : decode cX12_filled 31 = .ok (.iload_n 2, 1) := by decide +kernel
theorem dX12_filled_32 : decode cX12_filled 32 = .ok (.iconst 2, 1) := by decide +kernel
theorem dX12_filled_33 : decode cX12_filled 33 = .ok (.ishl, 1) := by decide +kernel
theorem dX12_filled_34 : decode cX12_filled 34 = .ok (.aload_n 0, 1) := by decide +kernel
theorem dX12_filled_35 : decode cX12_filled 35 = .ok (.getfield 44, 3) := by decide +kernel
theorem dX12_filled_38 : decode cX12_filled 38 = .ok (.iload 4, 2) := by decide +kernel
theorem dX12_filled_40 : decode cX12_filled 40 = .ok (.iaload, 1) := by decide +kernel
theorem dX12_filled_41 : decode cX12_filled 41 = .ok (.ior, 1) := by decide +kernel
theorem dX12_filled_42 : decode cX12_filled 42 = .ok (.istore_n 2, 1) := by decide +kernel
theorem dX12_filled_43 : decode cX12_filled 43 = .ok (.goto 16, 3) := by decide +kernel
theorem dX12_filled_46 : decode cX12_filled 46 = .ok (.iload_n 2, 1) := by decide +kernel
theorem dX12_filled_47 : decode cX12_filled 47 = .ok (.aload_n 0, 1) := by decide +kernel
theorem dX12_filled_48 : decode cX12_filled 48 = .ok (.iload_n 3, 1) := by decide +kernel
theorem dX12_filled_49 : decode cX12_filled 49 = .ok (.invokevirtual 313, 3) := by decide +kernel
theorem dX12_filled_52 : decode cX12_filled 52 = .ok (.invokestatic 317, 3) := by decide +kernel
theorem dX12_filled_55 : decode cX12_filled 55 = .ok (.istore_n 2, 1) := by decide +kernel
theorem dX12_filled_56 : decode cX12_filled 56 = .ok (.iinc 3 1, 3) := by decide +kernel
theorem dX12_filled_59 : decode cX12_filled 59 = .ok (.iinc 4 1, 3) := by decide +kernel
theorem dX12_filled_62 : decode cX12_filled 62 = .ok (.goto (-50), 3) := by decide +kernel
theorem dX12_filled_65 : decode cX12_filled 65 = .ok (.iload_n 2, 1) := by decide +kernel
theorem dX12_filled_66 : decode cX12_filled 66 = .ok (.ireturn, 1) := by decide +kernel
theorem dX12_isBeyond_0 : decode cX12_isBeyond 0 = .ok (.iload_n 1, 1) := by decide +kernel
theorem dX12_isBeyond_1 : decode cX12_isBeyond 1 = .ok (.ifCond .ne 7, 3) := by decide +kernel
theorem dX12_isBeyond_4 : decode cX12_isBeyond 4 = .ok (.aload_n 0, 1) := by decide +kernel
theorem dX12_isBeyond_5 : decode cX12_isBeyond 5 = .ok (.invokevirtual 373, 3) := by decide +kernel
theorem dX12_isBeyond_8 : decode cX12_isBeyond 8 = .ok (.aload_n 0, 1) := by decide +kernel
theorem dX12_isBeyond_9 : decode cX12_isBeyond 9 = .ok (.iload_n 1, 1) := by decide +kernel
theorem dX12_isBeyond_10 : decode cX12_isBeyond 10 = .ok (.invokevirtual 342, 3) := by decide +kernel
theorem dX12_isBeyond_13 : decode cX12_isBeyond 13 = .ok (.aload_n 0, 1) := by decide +kernel
theorem dX12_isBeyond_14 : decode cX12_isBeyond 14 = .ok (.getfield 94, 3) := by decide +kernel
theorem dX12_isBeyond_17 : decode cX12_isBeyond 17 = .ok (.bipush 11, 2) := by decide +kernel
theorem dX12_isBeyond_19 : decode cX12_isBeyond 19 = .ok (.iload_n 1, 1) := by decide +kernel
theorem dX12_isBeyond_20 : decode cX12_isBeyond 20 = .ok (.imul, 1) := by decide +kernel
theorem dX12_isBeyond_21 : decode cX12_isBeyond 21 = .ok (.iload_n 2, 1) := by decide +kernel
theorem dX12_isBeyond_22 : decode cX12_isBeyond 22 = .ok (.iadd, 1) := by decide +kernel
theorem dX12_isBeyond_23 : decode cX12_isBeyond 23 = .ok (.laload, 1) := by decide +kernel
theorem dX12_isBeyond_24 : decode cX12_isBeyond 24 = .ok (.ldc2_w 307, 3) := by decide +kernel
theorem dX12_isBeyond_27 : decode cX12_isBeyond 27 = .ok (.lcmp, 1) := by decide +kernel
theorem dX12_isBeyond_28 : decode cX12_isBeyond 28 = .ok (.ifCond .le 5, 3) := by decide +kernel
theorem dX12_isBeyond_31 : decode cX12_isBeyond 31 = .ok (.iconst 1, 1) := by decide +kernel
theorem dX12_isBeyond_32 : decode cX12_isBeyond 32 = .ok (.ireturn, 1) := by decide +kernel
theorem dX12_isBeyond_33 : decode cX12_isBeyond 33 = .ok (.aload_n 0, 1) := by decide +kernel
theorem dX12_isBeyond_34 : decode cX12_isBeyond 34 = .ok (.iload_n 1, 1) := by decide +kernel
theorem dX12_isBeyond_35 : decode cX12_isBeyond 35 = .ok (.iload_n 2, 1) := by decide +kernel
theorem dX12_isBeyond_36 : decode cX12_isBeyond 36 = .ok (.invokevirtual 376, 3) := by decide +kernel
theorem dX12_isBeyond_39 : decode cX12_isBeyond 39 = .ok (.iconst 0, 1) := by decide +kernel
theorem dX12_isBeyond_40 : decode cX12_isBeyond 40 = .ok (.ireturn, 1) := by decide +kernel
theorem dX12_sizeOf_0 : decode cX12_sizeOf 0 = .ok (.aload_n 0, 1) := by decide +kernel
theorem dX12_sizeOf_1 : decode cX12_sizeOf 1 = .ok (.getfield 62, 3) := by decide +kernel
theorem dX12_sizeOf_4 : decode cX12_sizeOf 4 = .ok (.bipush 8, 2) := by decide +kernel
theorem dX12_sizeOf_6 : decode cX12_sizeOf 6 = .ok (.iload_n 1, 1) := by decide +kernel
theorem dX12_sizeOf_7 : decode cX12_sizeOf 7 = .ok (.imul, 1) := by decide +kernel
theorem dX12_sizeOf_8 : decode cX12_sizeOf 8 = .ok (.iload_n 2, 1) := by decide +kernel
theorem dX12_sizeOf_9 : decode cX12_sizeOf 9 = .ok (.iadd, 1) := by decide +kernel
theorem dX12_sizeOf_10 : decode cX12_sizeOf 10 = .ok (.iaload, 1) := by decide +kernel
theorem dX12_sizeOf_11 : decode cX12_sizeOf 11 = .ok (.aload_n 0, 1) := by decide +kernel
theorem dX12_sizeOf_12 : decode cX12_sizeOf 12 = .ok (.getfield 68, 3) := by decide +kernel
theorem dX12_sizeOf_15 : decode cX12_sizeOf 15 = .ok (.bipush 8, 2) := by decide +kernel
theorem dX12_sizeOf_17 : decode cX12_sizeOf 17 = .ok (.iload_n 1, 1) := by decide +kernel
theorem dX12_sizeOf_18 : decode cX12_sizeOf 18 = .ok (.imul, 1) := by decide +kernel
theorem dX12_sizeOf_19 : decode cX12_sizeOf 19 = .ok (.iload_n 2, 1) := by decide +kernel
theorem dX12_sizeOf_20 : decode cX12_sizeOf 20 = .ok (.iadd, 1) := by decide +kernel
theorem dX12_sizeOf_21 : decode cX12_sizeOf 21 = .ok (.iaload, 1) := by decide +kernel
theorem dX12_sizeOf_22 : decode cX12_sizeOf 22 = .ok (.isub, 1) := by decide +kernel
theorem dX12_sizeOf_23 : decode cX12_sizeOf 23 = .ok (.ireturn, 1) := by decide +kernel
theorem dX12_noSum_0 : decode cX12_noSum 0 = .ok (.aload_n 0, 1) := by decide +kernel
theorem dX12_noSum_1 : decode cX12_noSum 1 = .ok (.iconst 0, 1) := by decide +kernel
theorem dX12_noSum_2 : decode cX12_noSum 2 = .ok (.putfield 379, 3) := by decide +kernel
theorem dX12_noSum_5 : decode cX12_noSum 5 = .ok (.aload_n 0, 1) := by decide +kernel
theorem dX12_noSum_6 : decode cX12_noSum 6 = .ok (.iload_n 1, 1) := by decide +kernel
theorem dX12_noSum_7 : decode cX12_noSum 7 = .ok (.putfield 382, 3) := by decide +kernel
theorem dX12_noSum_10 : decode cX12_noSum 10 = .ok (.return_, 1) := by decide +kernel
theorem dX12_addTerm_0 : decode cX12_addTerm 0 = .ok (.aload_n 0, 1) := by decide +kernel
theorem dX12_addTerm_1 : decode cX12_addTerm 1 = .ok (.iload_n 1, 1) := by decide +kernel
theorem dX12_addTerm_2 : decode cX12_addTerm 2 = .ok (.sipush 1173, 3) := by decide +kernel
theorem dX12_addTerm_5 : decode cX12_addTerm 5 = .ok (.iload_n 3, 1) := by decide +kernel
theorem dX12_addTerm_6 : decode cX12_addTerm 6 = .ok (.imul, 1) := by decide +kernel
theorem dX12_addTerm_7 : decode cX12_addTerm 7 = .ok (.invokevirtual 324, 3) := by decide +kernel
theorem dX12_addTerm_10 : decode cX12_addTerm 10 = .ok (.iconst 0, 1) := by decide +kernel
theorem dX12_addTerm_11 : decode cX12_addTerm 11 = .ok (.istore 5, 2) := by decide +kernel
theorem dX12_addTerm_13 : decode cX12_addTerm 13 = .ok (.iload 5, 2) := by decide +kernel
theorem dX12_addTerm_15 : decode cX12_addTerm 15 = .ok (.aload_n 0, 1) := by decide +kernel
theorem dX12_addTerm_16 : decode cX12_addTerm 16 = .ok (.getfield 379, 3) := by decide +kernel
theorem dX12_addTerm_19 : decode cX12_addTerm 19 = .ok (.if_icmp .ge 18, 3) := by decide +kernel
theorem dX12_addTerm_22 : decode cX12_addTerm 22 = .ok (.aload_n 0, 1) := by decide +kernel
theorem dX12_addTerm_23 : decode cX12_addTerm 23 = .ok (.iload 5, 2) := by decide +kernel
theorem dX12_addTerm_25 : decode cX12_addTerm 25 = .ok (.invokevirtual 385, 3) := by decide +kernel
theorem dX12_addTerm_28 : decode cX12_addTerm 28 = .ok (.ifCond .eq 9, 3) := by decide +kernel
theorem dX12_addTerm_31 : decode cX12_addTerm 31 = .ok (.iinc 5 1, 3) := by decide +kernel
theorem dX12_addTerm_34 : decode cX12_addTerm 34 = .ok (.goto (-21), 3) := by decide +kernel
theorem dX12_addTerm_37 : decode cX12_addTerm 37 = .ok (.iload 5, 2) := by decide +kernel
theorem dX12_addTerm_39 : decode cX12_addTerm 39 = .ok (.aload_n 0, 1) := by decide +kernel
theorem dX12_addTerm_40 : decode cX12_addTerm 40 = .ok (.getfield 379, 3) := by decide +kernel
theorem dX12_addTerm_43 : decode cX12_addTerm 43 = .ok (.if_icmp .ge 34, 3) := by decide +kernel
theorem dX12_addTerm_46 : decode cX12_addTerm 46 = .ok (.aload_n 0, 1) := by decide +kernel
theorem dX12_addTerm_47 : decode cX12_addTerm 47 = .ok (.getfield 112, 3) := by decide +kernel
theorem dX12_addTerm_50 : decode cX12_addTerm 50 = .ok (.iload 5, 2) := by decide +kernel
theorem dX12_addTerm_52 : decode cX12_addTerm 52 = .ok (.iaload, 1) := by decide +kernel
theorem dX12_addTerm_53 : decode cX12_addTerm 53 = .ok (.iload_n 1, 1) := by decide +kernel
theorem dX12_addTerm_54 : decode cX12_addTerm 54 = .ok (.if_icmp .ne 23, 3) := by decide +kernel
theorem dX12_addTerm_57 : decode cX12_addTerm 57 = .ok (.aload_n 0, 1) := by decide +kernel
theorem dX12_addTerm_58 : decode cX12_addTerm 58 = .ok (.getfield 115, 3) := by decide +kernel
theorem dX12_addTerm_61 : decode cX12_addTerm 61 = .ok (.iload 5, 2) := by decide +kernel
theorem dX12_addTerm_63 : decode cX12_addTerm 63 = .ok (.aload_n 0, 1) := by decide +kernel
theorem dX12_addTerm_64 : decode cX12_addTerm 64 = .ok (.getfield 115, 3) := by decide +kernel
theorem dX12_addTerm_67 : decode cX12_addTerm 67 = .ok (.iload 5, 2) := by decide +kernel
theorem dX12_addTerm_69 : decode cX12_addTerm 69 = .ok (.iaload, 1) := by decide +kernel
theorem dX12_addTerm_70 : decode cX12_addTerm 70 = .ok (.iload_n 2, 1) := by decide +kernel
theorem dX12_addTerm_71 : decode cX12_addTerm 71 = .ok (.iadd, 1) := by decide +kernel
theorem dX12_addTerm_72 : decode cX12_addTerm 72 = .ok (.iload 4, 2) := by decide +kernel
theorem dX12_addTerm_74 : decode cX12_addTerm 74 = .ok (.irem, 1) := by decide +kernel
theorem dX12_addTerm_75 : decode cX12_addTerm 75 = .ok (.iastore, 1) := by decide +kernel
theorem dX12_addTerm_76 : decode cX12_addTerm 76 = .ok (.return_, 1) := by decide +kernel
theorem dX12_addTerm_77 : decode cX12_addTerm 77 = .ok (.aload_n 0, 1) := by decide +kernel
theorem dX12_addTerm_78 : decode cX12_addTerm 78 = .ok (.getfield 379, 3) := by decide +kernel
theorem dX12_addTerm_81 : decode cX12_addTerm 81 = .ok (.istore 6, 2) := by decide +kernel
theorem dX12_addTerm_83 : decode cX12_addTerm 83 = .ok (.iload 6, 2) := by decide +kernel
theorem dX12_addTerm_85 : decode cX12_addTerm 85 = .ok (.iload 5, 2) := by decide +kernel
theorem dX12_addTerm_87 : decode cX12_addTerm 87 = .ok (.if_icmp .le 85, 3) := by decide +kernel
theorem dX12_addTerm_90 : decode cX12_addTerm 90 = .ok (.aload_n 0, 1) := by decide +kernel
theorem dX12_addTerm_91 : decode cX12_addTerm 91 = .ok (.getfield 112, 3) := by decide +kernel
theorem dX12_addTerm_94 : decode cX12_addTerm 94 = .ok (.iload 6, 2) := by decide +kernel
theorem dX12_addTerm_96 : decode cX12_addTerm 96 = .ok (.aload_n 0, 1) := by decide +kernel
theorem dX12_addTerm_97 : decode cX12_addTerm 97 = .ok (.getfield 112, 3) := by decide +kernel
theorem dX12_addTerm_100 : decode cX12_addTerm 100 = .ok (.iload 6, 2) := by decide +kernel
theorem dX12_addTerm_102 : decode cX12_addTerm 102 = .ok (.iconst 1, 1) := by decide +kernel
theorem dX12_addTerm_103 : decode cX12_addTerm 103 = .ok (.isub, 1) := by decide +kernel
theorem dX12_addTerm_104 : decode cX12_addTerm 104 = .ok (.iaload, 1) := by decide +kernel
theorem dX12_addTerm_105 : decode cX12_addTerm 105 = .ok (.iastore, 1) := by decide +kernel
theorem dX12_addTerm_106 : decode cX12_addTerm 106 = .ok (.aload_n 0, 1) := by decide +kernel
theorem dX12_addTerm_107 : decode cX12_addTerm 107 = .ok (.getfield 115, 3) := by decide +kernel
theorem dX12_addTerm_110 : decode cX12_addTerm 110 = .ok (.iload 6, 2) := by decide +kernel
theorem dX12_addTerm_112 : decode cX12_addTerm 112 = .ok (.aload_n 0, 1) := by decide +kernel
theorem dX12_addTerm_113 : decode cX12_addTerm 113 = .ok (.getfield 115, 3) := by decide +kernel
theorem dX12_addTerm_116 : decode cX12_addTerm 116 = .ok (.iload 6, 2) := by decide +kernel
theorem dX12_addTerm_118 : decode cX12_addTerm 118 = .ok (.iconst 1, 1) := by decide +kernel
theorem dX12_addTerm_119 : decode cX12_addTerm 119 = .ok (.isub, 1) := by decide +kernel
theorem dX12_addTerm_120 : decode cX12_addTerm 120 = .ok (.iaload, 1) := by decide +kernel
theorem dX12_addTerm_121 : decode cX12_addTerm 121 = .ok (.iastore, 1) := by decide +kernel
theorem dX12_addTerm_122 : decode cX12_addTerm 122 = .ok (.iconst 0, 1) := by decide +kernel
theorem dX12_addTerm_123 : decode cX12_addTerm 123 = .ok (.istore 7, 2) := by decide +kernel
theorem dX12_addTerm_125 : decode cX12_addTerm 125 = .ok (.iload 7, 2) := by decide +kernel
theorem dX12_addTerm_127 : decode cX12_addTerm 127 = .ok (.bipush 7, 2) := by decide +kernel
theorem dX12_addTerm_129 : decode cX12_addTerm 129 = .ok (.if_icmp .ge 37, 3) := by decide +kernel
theorem dX12_addTerm_132 : decode cX12_addTerm 132 = .ok (.aload_n 0, 1) := by decide +kernel
theorem dX12_addTerm_133 : decode cX12_addTerm 133 = .ok (.getfield 118, 3) := by decide +kernel
theorem dX12_addTerm_136 : decode cX12_addTerm 136 = .ok (.bipush 7, 2) := by decide +kernel
theorem dX12_addTerm_138 : decode cX12_addTerm 138 = .ok (.iload 6, 2) := by decide +kernel
theorem dX12_addTerm_140 : decode cX12_addTerm 140 = .ok (.imul, 1) := by decide +kernel
theorem dX12_addTerm_141 : decode cX12_addTerm 141 = .ok (.iload 7, 2) := by decide +kernel
theorem dX12_addTerm_143 : decode cX12_addTerm 143 = .ok (.iadd, 1) := by decide +kernel
theorem dX12_addTerm_144 : decode cX12_addTerm 144 = .ok (.aload_n 0, 1) := by decide +kernel
theorem dX12_addTerm_145 : decode cX12_addTerm 145 = .ok (.getfield 118, 3) := by decide +kernel
theorem dX12_addTerm_148 : decode cX12_addTerm 148 = .ok (.bipush 7, 2) := by decide +kernel
theorem dX12_addTerm_150 : decode cX12_addTerm 150 = .ok (.iload 6, 2) := by decide +kernel
theorem dX12_addTerm_152 : decode cX12_addTerm 152 = .ok (.iconst 1, 1) := by decide +kernel
theorem dX12_addTerm_153 : decode cX12_addTerm 153 = .ok (.isub, 1) := by decide +kernel
theorem dX12_addTerm_154 : decode cX12_addTerm 154 = .ok (.imul, 1) := by decide +kernel
theorem dX12_addTerm_155 : decode cX12_addTerm 155 = .ok (.iload 7, 2) := by decide +kernel
theorem dX12_addTerm_157 : decode cX12_addTerm 157 = .ok (.iadd, 1) := by decide +kernel
theorem dX12_addTerm_158 : decode cX12_addTerm 158 = .ok (.iaload, 1) := by decide +kernel
theorem dX12_addTerm_159 : decode cX12_addTerm 159 = .ok (.iastore, 1) := by decide +kernel
theorem dX12_addTerm_160 : decode cX12_addTerm 160 = .ok (.iinc 7 1, 3) := by decide +kernel
theorem dX12_addTerm_163 : decode cX12_addTerm 163 = .ok (.goto (-38), 3) := by decide +kernel
theorem dX12_addTerm_166 : decode cX12_addTerm 166 = .ok (.iinc 6 (-1), 3) := by decide +kernel
theorem dX12_addTerm_169 : decode cX12_addTerm 169 = .ok (.goto (-86), 3) := by decide +kernel
theorem dX12_addTerm_172 : decode cX12_addTerm 172 = .ok (.aload_n 0, 1) := by decide +kernel
theorem dX12_addTerm_173 : decode cX12_addTerm 173 = .ok (.getfield 112, 3) := by decide +kernel
theorem dX12_addTerm_176 : decode cX12_addTerm 176 = .ok (.iload 5, 2) := by decide +kernel
theorem dX12_addTerm_178 : decode cX12_addTerm 178 = .ok (.iload_n 1, 1) := by decide +kernel
theorem dX12_addTerm_179 : decode cX12_addTerm 179 = .ok (.iastore, 1) := by decide +kernel
theorem dX12_addTerm_180 : decode cX12_addTerm 180 = .ok (.aload_n 0, 1) := by decide +kernel
theorem dX12_addTerm_181 : decode cX12_addTerm 181 = .ok (.getfield 115, 3) := by decide +kernel
theorem dX12_addTerm_184 : decode cX12_addTerm 184 = .ok (.iload 5, 2) := by decide +kernel
theorem dX12_addTerm_186 : decode cX12_addTerm 186 = .ok (.iload_n 2, 1) := by decide +kernel
theorem dX12_addTerm_187 : decode cX12_addTerm 187 = .ok (.iload 4, 2) := by decide +kernel
theorem dX12_addTerm_189 : decode cX12_addTerm 189 = .ok (.irem, 1) := by decide +kernel
theorem dX12_addTerm_190 : decode cX12_addTerm 190 = .ok (.iastore, 1) := by decide +kernel
theorem dX12_addTerm_191 : decode cX12_addTerm 191 = .ok (.iconst 0, 1) := by decide +kernel
theorem dX12_addTerm_192 : decode cX12_addTerm 192 = .ok (.istore 6, 2) := by decide +kernel
theorem dX12_addTerm_194 : decode cX12_addTerm 194 = .ok (.iload 6, 2) := by decide +kernel
theorem dX12_addTerm_196 : decode cX12_addTerm 196 = .ok (.aload_n 0, 1) := by decide +kernel
theorem dX12_addTerm_197 : decode cX12_addTerm 197 = .ok (.getfield 280, 3) := by decide +kernel
theorem dX12_addTerm_200 : decode cX12_addTerm 200 = .ok (.if_icmp .ge 29, 3) := by decide +kernel
theorem dX12_addTerm_203 : decode cX12_addTerm 203 = .ok (.aload_n 0, 1) := by decide +kernel
theorem dX12_addTerm_204 : decode cX12_addTerm 204 = .ok (.getfield 118, 3) := by decide +kernel
theorem dX12_addTerm_207 : decode cX12_addTerm 207 = .ok (.bipush 7, 2) := by decide +kernel
theorem dX12_addTerm_209 : decode cX12_addTerm 209 = .ok (.iload 5, 2) := by decide +kernel
theorem dX12_addTerm_211 : decode cX12_addTerm 211 = .ok (.imul, 1) := by decide +kernel
theorem dX12_addTerm_212 : decode cX12_addTerm 212 = .ok (.iload 6, 2) := by decide +kernel
theorem dX12_addTerm_214 : decode cX12_addTerm 214 = .ok (.iadd, 1) := by decide +kernel
theorem dX12_addTerm_215 : decode cX12_addTerm 215 = .ok (.aload_n 0, 1) := by decide +kernel
theorem dX12_addTerm_216 : decode cX12_addTerm 216 = .ok (.getfield 47, 3) := by decide +kernel
theorem dX12_addTerm_219 : decode cX12_addTerm 219 = .ok (.iload 6, 2) := by decide +kernel
theorem dX12_addTerm_221 : decode cX12_addTerm 221 = .ok (.iaload, 1) := by decide +kernel
theorem dX12_addTerm_222 : decode cX12_addTerm 222 = .ok (.iastore, 1) := by decide +kernel
theorem dX12_addTerm_223 : decode cX12_addTerm 223 = .ok (.iinc 6 1, 3) := by decide +kernel
theorem dX12_addTerm_226 : decode cX12_addTerm 226 = .ok (.goto (-32), 3) := by decide +kernel
theorem dX12_addTerm_229 : decode cX12_addTerm 229 = .ok (.aload_n 0, 1) := by decide +kernel
theorem dX12_addTerm_230 : decode cX12_addTerm 230 = .ok (.dup, 1) := by decide +kernel
theorem dX12_addTerm_231 : decode cX12_addTerm 231 = .ok (.getfield 379, 3) := by decide +kernel
theorem dX12_addTerm_234 : decode cX12_addTerm 234 = .ok (.iconst 1, 1) := by decide +kernel
theorem dX12_addTerm_235 : decode cX12_addTerm 235 = .ok (.iadd, 1) := by decide +kernel
theorem dX12_addTerm_236 : decode cX12_addTerm 236 = .ok (.putfield 379, 3) := by decide +kernel
theorem dX12_addTerm_239 : decode cX12_addTerm 239 = .ok (.return_, 1) := by decide +kernel
theorem dX12_isGreater_0 : decode cX12_isGreater 0 = .ok (.iconst 0, 1) := by decide +kernel
theorem dX12_isGreater_1 : decode cX12_isGreater 1 = .ok (.istore_n 2, 1) := by decide +kernel
theorem dX12_isGreater_2 : decode cX12_isGreater 2 = .ok (.iload_n 2, 1) := by decide +kernel
theorem dX12_isGreater_3 : decode cX12_isGreater 3 = .ok (.aload_n 0, 1) := by decide +kernel
theorem dX12_isGreater_4 : decode cX12_isGreater 4 = .ok (.getfield 280, 3) := by decide +kernel
theorem dX12_isGreater_7 : decode cX12_isGreater 7 = .ok (.if_icmp .ge 55, 3) := by decide +kernel
theorem dX12_isGreater_10 : decode cX12_isGreater 10 = .ok (.aload_n 0, 1) := by decide +kernel
theorem dX12_isGreater_11 : decode cX12_isGreater 11 = .ok (.getfield 118, 3) := by decide +kernel
theorem dX12_isGreater_14 : decode cX12_isGreater 14 = .ok (.bipush 7, 2) := by decide +kernel
theorem dX12_isGreater_16 : decode cX12_isGreater 16 = .ok (.iload_n 1, 1) := by decide +kernel
theorem dX12_isGreater_17 : decode cX12_isGreater 17 = .ok (.imul, 1) := by decide +kernel
theorem dX12_isGreater_18 : decode cX12_isGreater 18 = .ok (.iload_n 2, 1) := by decide +kernel
theorem dX12_isGreater_19 : decode cX12_isGreater 19 = .ok (.iadd, 1) := by decide +kernel
theorem dX12_isGreater_20 : decode cX12_isGreater 20 = .ok (.iaload, 1) := by decide +kernel
theorem dX12_isGreater_21 : decode cX12_isGreater 21 = .ok (.aload_n 0, 1) := by decide +kernel
theorem dX12_isGreater_22 : decode cX12_isGreater 22 = .ok (.getfield 47, 3) := by decide +kernel
theorem dX12_isGreater_25 : decode cX12_isGreater 25 = .ok (.iload_n 2, 1) := by decide +kernel
theorem dX12_isGreater_26 : decode cX12_isGreater 26 = .ok (.iaload, 1) := by decide +kernel
theorem dX12_isGreater_27 : decode cX12_isGreater 27 = .ok (.if_icmp .eq 29, 3) := by decide +kernel
theorem dX12_isGreater_30 : decode cX12_isGreater 30 = .ok (.aload_n 0, 1) := by decide +kernel
theorem dX12_isGreater_31 : decode cX12_isGreater 31 = .ok (.getfield 118, 3) := by decide +kernel
theorem dX12_isGreater_34 : decode cX12_isGreater 34 = .ok (.bipush 7, 2) := by decide +kernel
theorem dX12_isGreater_36 : decode cX12_isGreater 36 = .ok (.iload_n 1, 1) := by decide +kernel
theorem dX12_isGreater_37 : decode cX12_isGreater 37 = .ok (.imul, 1) := by decide +kernel
theorem dX12_isGreater_38 : decode cX12_isGreater 38 = .ok (.iload_n 2, 1) := by decide +kernel
theorem dX12_isGreater_39 : decode cX12_isGreater 39 = .ok (.iadd, 1) := by decide +kernel
theorem dX12_isGreater_40 : decode cX12_isGreater 40 = .ok (.iaload, 1) := by decide +kernel
theorem dX12_isGreater_41 : decode cX12_isGreater 41 = .ok (.aload_n 0, 1) := by decide +kernel
theorem dX12_isGreater_42 : decode cX12_isGreater 42 = .ok (.getfield 47, 3) := by decide +kernel
theorem dX12_isGreater_45 : decode cX12_isGreater 45 = .ok (.iload_n 2, 1) := by decide +kernel
theorem dX12_isGreater_46 : decode cX12_isGreater 46 = .ok (.iaload, 1) := by decide +kernel
theorem dX12_isGreater_47 : decode cX12_isGreater 47 = .ok (.if_icmp .le 7, 3) := by decide +kernel
theorem dX12_isGreater_50 : decode cX12_isGreater 50 = .ok (.iconst 1, 1) := by decide +kernel
theorem dX12_isGreater_51 : decode cX12_isGreater 51 = .ok (.goto 4, 3) := by decide +kernel
theorem dX12_isGreater_54 : decode cX12_isGreater 54 = .ok (.iconst 0, 1) := by decide +kernel
theorem dX12_isGreater_55 : decode cX12_isGreater 55 = .ok (.ireturn, 1) := by decide +kernel
theorem dX12_isGreater_56 : decode cX12_isGreater 56 = .ok (.iinc 2 1, 3) := by decide +kernel
theorem dX12_isGreater_59 : decode cX12_isGreater 59 = .ok (.goto (-57), 3) := by decide +kernel
theorem dX12_isGreater_62 : decode cX12_isGreater 62 = .ok (.iconst 0, 1) := by decide +kernel
theorem dX12_isGreater_63 : decode cX12_isGreater 63 = .ok (.ireturn, 1) := by decide +kernel
theorem dX12_noZeros_0 : decode cX12_noZeros 0 = .ok (.iconst 0, 1) := by decide +kernel
theorem dX12_noZeros_1 : decode cX12_noZeros 1 = .ok (.istore_n 1, 1) := by decide +kernel
theorem dX12_noZeros_2 : decode cX12_noZeros 2 = .ok (.iconst 0, 1) := by decide +kernel
theorem dX12_noZeros_3 : decode cX12_noZeros 3 = .ok (.istore_n 2, 1) := by decide +kernel
theorem dX12_noZeros_4 : decode cX12_noZeros 4 = .ok (.iload_n 2, 1) := by decide +kernel
theorem dX12_noZeros_5 : decode cX12_noZeros 5 = .ok (.aload_n 0, 1) := by decide +kernel
theorem dX12_noZeros_6 : decode cX12_noZeros 6 = .ok (.getfield 379, 3) := by decide +kernel
theorem dX12_noZeros_9 : decode cX12_noZeros 9 = .ok (.if_icmp .ge 48, 3) := by decide +kernel
theorem dX12_noZeros_12 : decode cX12_noZeros 12 = .ok (.aload_n 0, 1) := by decide +kernel
theorem dX12_noZeros_13 : decode cX12_noZeros 13 = .ok (.getfield 115, 3) := by decide +kernel
theorem dX12_noZeros_16 : decode cX12_noZeros 16 = .ok (.iload_n 2, 1) := by decide +kernel
theorem dX12_noZeros_17 : decode cX12_noZeros 17 = .ok (.iaload, 1) := by decide +kernel
theorem dX12_noZeros_18 : decode cX12_noZeros 18 = .ok (.ifCond .ne 6, 3) := by decide +kernel
theorem dX12_noZeros_21 : decode cX12_noZeros 21 = .ok (.goto 30, 3) := by decide +kernel
theorem dX12_noZeros_24 : decode cX12_noZeros 24 = .ok (.aload_n 0, 1) := by decide +kernel
theorem dX12_noZeros_25 : decode cX12_noZeros 25 = .ok (.getfield 112, 3) := by decide +kernel
theorem dX12_noZeros_28 : decode cX12_noZeros 28 = .ok (.iload_n 1, 1) := by decide +kernel
theorem dX12_noZeros_29 : decode cX12_noZeros 29 = .ok (.aload_n 0, 1) := by decide +kernel
theorem dX12_noZeros_30 : decode cX12_noZeros 30 = .ok (.getfield 112, 3) := by decide +kernel
theorem dX12_noZeros_33 : decode cX12_noZeros 33 = .ok (.iload_n 2, 1) := by decide +kernel
theorem dX12_noZeros_34 : decode cX12_noZeros 34 = .ok (.iaload, 1) := by decide +kernel
theorem dX12_noZeros_35 : decode cX12_noZeros 35 = .ok (.iastore, 1) := by decide +kernel
theorem dX12_noZeros_36 : decode cX12_noZeros 36 = .ok (.aload_n 0, 1) := by decide +kernel
theorem dX12_noZeros_37 : decode cX12_noZeros 37 = .ok (.getfield 115, 3) := by decide +kernel
theorem dX12_noZeros_40 : decode cX12_noZeros 40 = .ok (.iload_n 1, 1) := by decide +kernel
theorem dX12_noZeros_41 : decode cX12_noZeros 41 = .ok (.aload_n 0, 1) := by decide +kernel
theorem dX12_noZeros_42 : decode cX12_noZeros 42 = .ok (.getfield 115, 3) := by decide +kernel
theorem dX12_noZeros_45 : decode cX12_noZeros 45 = .ok (.iload_n 2, 1) := by decide +kernel
theorem dX12_noZeros_46 : decode cX12_noZeros 46 = .ok (.iaload, 1) := by decide +kernel
theorem dX12_noZeros_47 : decode cX12_noZeros 47 = .ok (.iastore, 1) := by decide +kernel
theorem dX12_noZeros_48 : decode cX12_noZeros 48 = .ok (.iinc 1 1, 3) := by decide +kernel
theorem dX12_noZeros_51 : decode cX12_noZeros 51 = .ok (.iinc 2 1, 3) := by decide +kernel
theorem dX12_noZeros_54 : decode cX12_noZeros 54 = .ok (.goto (-50), 3) := by decide +kernel
theorem dX12_noZeros_57 : decode cX12_noZeros 57 = .ok (.aload_n 0, 1) := by decide +kernel
theorem dX12_noZeros_58 : decode cX12_noZeros 58 = .ok (.iload_n 1, 1) := by decide +kernel
theorem dX12_noZeros_59 : decode cX12_noZeros 59 = .ok (.putfield 379, 3) := by decide +kernel
theorem dX12_noZeros_62 : decode cX12_noZeros 62 = .ok (.return_, 1) := by decide +kernel
theorem dX12_isName_0 : decode cX12_isName 0 = .ok (.aload_n 0, 1) := by decide +kernel
theorem dX12_isName_1 : decode cX12_isName 1 = .ok (.getfield 242, 3) := by decide +kernel
theorem dX12_isName_4 : decode cX12_isName 4 = .ok (.iconst 1, 1) := by decide +kernel
theorem dX12_isName_5 : decode cX12_isName 5 = .ok (.if_icmp .ne 51, 3) := by decide +kernel
theorem dX12_isName_8 : decode cX12_isName 8 = .ok (.aload_n 0, 1) := by decide +kernel
theorem dX12_isName_9 : decode cX12_isName 9 = .ok (.getfield 255, 3) := by decide +kernel
theorem dX12_isName_12 : decode cX12_isName 12 = .ok (.ldc2_w 388, 3) := by decide +kernel
theorem dX12_isName_15 : decode cX12_isName 15 = .ok (.lcmp, 1) := by decide +kernel
theorem dX12_isName_16 : decode cX12_isName 16 = .ok (.ifCond .eq 40, 3) := by decide +kernel
theorem dX12_isName_19 : decode cX12_isName 19 = .ok (.aload_n 0, 1) := by decide +kernel
theorem dX12_isName_20 : decode cX12_isName 20 = .ok (.getfield 255, 3) := by decide +kernel
theorem dX12_isName_23 : decode cX12_isName 23 = .ok (.ldc2_w 390, 3) := by decide +kernel
theorem dX12_isName_26 : decode cX12_isName 26 = .ok (.lcmp, 1) := by decide +kernel
theorem dX12_isName_27 : decode cX12_isName 27 = .ok (.ifCond .eq 29, 3) := by decide +kernel
theorem dX12_isName_30 : decode cX12_isName 30 = .ok (.aload_n 0, 1) := by decide +kernel
theorem dX12_isName_31 : decode cX12_isName 31 = .ok (.getfield 255, 3) := by decide +kernel
theorem dX12_isName_34 : decode cX12_isName 34 = .ok (.ldc2_w 392, 3) := by decide +kernel
theorem dX12_isName_37 : decode cX12_isName 37 = .ok (.lcmp, 1) := by decide +kernel
theorem dX12_isName_38 : decode cX12_isName 38 = .ok (.ifCond .eq 18, 3) := by decide +kernel
theorem dX12_isName_41 : decode cX12_isName 41 = .ok (.aload_n 0, 1) := by decide +kernel
theorem dX12_isName_42 : decode cX12_isName 42 = .ok (.getfield 255, 3) := by decide +kernel
theorem dX12_isName_45 : decode cX12_isName 45 = .ok (.ldc2_w 394, 3) := by decide +kernel
theorem dX12_isName_48 : decode cX12_isName 48 = .ok (.lcmp, 1) := by decide +kernel
theorem dX12_isName_49 : decode cX12_isName 49 = .ok (.ifCond .eq 7, 3) := by decide +kernel
theorem dX12_isName_52 : decode cX12_isName 52 = .ok (.iconst 1, 1) := by decide +kernel
theorem dX12_isName_53 : decode cX12_isName 53 = .ok (.goto 4, 3) := by decide +kernel
theorem dX12_isName_56 : decode cX12_isName 56 = .ok (.iconst 0, 1) := by decide +kernel
theorem dX12_isName_57 : decode cX12_isName 57 = .ok (.ireturn, 1) := by decide +kernel
theorem dX12_readTree_0 : decode cX12_readTree 0 = .ok (.aload_n 0, 1) := by decide +kernel
theorem dX12_readTree_1 : decode cX12_readTree 1 = .ok (.aload_n 0, 1) := by decide +kernel
theorem dX12_readTree_2 : decode cX12_readTree 2 = .ok (.getfield 236, 3) := by decide +kernel
theorem dX12_readTree_5 : decode cX12_readTree 5 = .ok (.putfield 396, 3) := by decide +kernel
theorem dX12_readTree_8 : decode cX12_readTree 8 = .ok (.aload_n 0, 1) := by decide +kernel
theorem dX12_readTree_9 : decode cX12_readTree 9 = .ok (.iconst 1, 1) := by decide +kernel
theorem dX12_readTree_10 : decode cX12_readTree 10 = .ok (.putfield 399, 3) := by decide +kernel
theorem dX12_readTree_13 : decode cX12_readTree 13 = .ok (.aload_n 0, 1) := by decide +kernel
theorem dX12_readTree_14 : decode cX12_readTree 14 = .ok (.iconst 0, 1) := by decide +kernel
theorem dX12_readTree_15 : decode cX12_readTree 15 = .ok (.putfield 402, 3) := by decide +kernel
theorem dX12_readTree_18 : decode cX12_readTree 18 = .ok (.iconst 0, 1) := by decide +kernel
theorem dX12_readTree_19 : decode cX12_readTree 19 = .ok (.istore_n 1, 1) := by decide +kernel
theorem dX12_readTree_20 : decode cX12_readTree 20 = .ok (.aload_n 0, 1) := by decide +kernel
theorem dX12_readTree_21 : decode cX12_readTree 21 = .ok (.ldc2_w 394, 3) := by decide +kernel
theorem dX12_readTree_24 : decode cX12_readTree 24 = .ok (.invokevirtual 405, 3) := by decide +kernel
theorem dX12_readTree_27 : decode cX12_readTree 27 = .ok (.ifCond .eq 106, 3) := by decide +kernel
theorem dX12_readTree_30 : decode cX12_readTree 30 = .ok (.aload_n 0, 1) := by decide +kernel
theorem dX12_readTree_31 : decode cX12_readTree 31 = .ok (.getfield 402, 3) := by decide +kernel
theorem dX12_readTree_34 : decode cX12_readTree 34 = .ok (.bipush 7, 2) := by decide +kernel
theorem dX12_readTree_36 : decode cX12_readTree 36 = .ok (.if_icmp .ne 9, 3) := by decide +kernel
theorem dX12_readTree_39 : decode cX12_readTree 39 = .ok (.aload_n 0, 1) := by decide +kernel
theorem dX12_readTree_40 : decode cX12_readTree 40 = .ok (.iconst 4, 1) := by decide +kernel
theorem dX12_readTree_41 : decode cX12_readTree 41 = .ok (.invokevirtual 268, 3) := by decide +kernel
theorem dX12_readTree_44 : decode cX12_readTree 44 = .ok (.ireturn, 1) := by decide +kernel
theorem dX12_readTree_45 : decode cX12_readTree 45 = .ok (.aload_n 0, 1) := by decide +kernel
theorem dX12_readTree_46 : decode cX12_readTree 46 = .ok (.dup, 1) := by decide +kernel
theorem dX12_readTree_47 : decode cX12_readTree 47 = .ok (.getfield 402, 3) := by decide +kernel
theorem dX12_readTree_50 : decode cX12_readTree 50 = .ok (.iconst 1, 1) := by decide +kernel
theorem dX12_readTree_51 : decode cX12_readTree 51 = .ok (.iadd, 1) := by decide +kernel
theorem dX12_readTree_52 : decode cX12_readTree 52 = .ok (.putfield 402, 3) := by decide +kernel
theorem dX12_readTree_55 : decode cX12_readTree 55 = .ok (.aload_n 0, 1) := by decide +kernel
theorem dX12_readTree_56 : decode cX12_readTree 56 = .ok (.aload_n 0, 1) := by decide +kernel
theorem dX12_readTree_57 : decode cX12_readTree 57 = .ok (.getfield 399, 3) := by decide +kernel
theorem dX12_readTree_60 : decode cX12_readTree 60 = .ok (.iconst 2, 1) := by decide +kernel
theorem dX12_readTree_61 : decode cX12_readTree 61 = .ok (.ishl, 1) := by decide +kernel
theorem dX12_readTree_62 : decode cX12_readTree 62 = .ok (.putfield 399, 3) := by decide +kernel
theorem dX12_readTree_65 : decode cX12_readTree 65 = .ok (.aload_n 0, 1) := by decide +kernel
theorem dX12_readTree_66 : decode cX12_readTree 66 = .ok (.invokevirtual 271, 3) := by decide +kernel
theorem dX12_readTree_69 : decode cX12_readTree 69 = .ok (.iload_n 1, 1) := by decide +kernel
theorem dX12_readTree_70 : decode cX12_readTree 70 = .ok (.ifCond .le 46, 3) := by decide +kernel
theorem dX12_readTree_73 : decode cX12_readTree 73 = .ok (.aload_n 0, 1) := by decide +kernel
theorem dX12_readTree_74 : decode cX12_readTree 74 = .ok (.getfield 121, 3) := by decide +kernel
theorem dX12_readTree_77 : decode cX12_readTree 77 = .ok (.iload_n 1, 1) := by decide +kernel
theorem dX12_readTree_78 : decode cX12_readTree 78 = .ok (.iconst 1, 1) := by decide +kernel
theorem dX12_readTree_79 : decode cX12_readTree 79 = .ok (.isub, 1) := by decide +kernel
theorem dX12_readTree_80 : decode cX12_readTree 80 = .ok (.dup2, 1) := by decide +kernel
theorem dX12_readTree_81 : decode cX12_readTree 81 = .ok (.iaload, 1) := by decide +kernel
theorem dX12_readTree_82 : decode cX12_readTree 82 = .ok (.iconst 1, 1) := by decide +kernel
theorem dX12_readTree_83 : decode cX12_readTree 83 = .ok (.isub, 1) := by decide +kernel
theorem dX12_readTree_84 : decode cX12_readTree 84 = .ok (.iastore, 1) := by decide +kernel
theorem dX12_readTree_85 : decode cX12_readTree 85 = .ok (.aload_n 0, 1) := by decide +kernel
theorem dX12_readTree_86 : decode cX12_readTree 86 = .ok (.getfield 121, 3) := by decide +kernel
theorem dX12_readTree_89 : decode cX12_readTree 89 = .ok (.iload_n 1, 1) := by decide +kernel
theorem dX12_readTree_90 : decode cX12_readTree 90 = .ok (.iconst 1, 1) := by decide +kernel
theorem dX12_readTree_91 : decode cX12_readTree 91 = .ok (.isub, 1) := by decide +kernel
theorem dX12_readTree_92 : decode cX12_readTree 92 = .ok (.iaload, 1) := by decide +kernel
theorem dX12_readTree_93 : decode cX12_readTree 93 = .ok (.ifCond .le 6, 3) := by decide +kernel
theorem dX12_readTree_96 : decode cX12_readTree 96 = .ok (.goto 20, 3) := by decide +kernel
theorem dX12_readTree_99 : decode cX12_readTree 99 = .ok (.aload_n 0, 1) := by decide +kernel
theorem dX12_readTree_100 : decode cX12_readTree 100 = .ok (.bipush 41, 2) := by decide +kernel
theorem dX12_readTree_102 : decode cX12_readTree 102 = .ok (.invokevirtual 409, 3) := by decide +kernel
theorem dX12_readTree_105 : decode cX12_readTree 105 = .ok (.ifCond .ne 5, 3) := by decide +kernel
theorem dX12_readTree_108 : decode cX12_readTree 108 = .ok (.iconst 0, 1) := by decide +kernel
theorem dX12_readTree_109 : decode cX12_readTree 109 = .ok (.ireturn, 1) := by decide +kernel
theorem dX12_readTree_110 : decode cX12_readTree 110 = .ok (.iinc 1 (-1), 3) := by decide +kernel
theorem dX12_readTree_113 : decode cX12_readTree 113 = .ok (.goto (-44), 3) := by decide +kernel
theorem dX12_readTree_116 : decode cX12_readTree 116 = .ok (.iload_n 1, 1) := by decide +kernel
theorem dX12_readTree_117 : decode cX12_readTree 117 = .ok (.ifCond .ne 5, 3) := by decide +kernel
theorem dX12_readTree_120 : decode cX12_readTree 120 = .ok (.iconst 1, 1) := by decide +kernel
theorem dX12_readTree_121 : decode cX12_readTree 121 = .ok (.ireturn, 1) := by decide +kernel
theorem dX12_readTree_122 : decode cX12_readTree 122 = .ok (.aload_n 0, 1) := by decide +kernel
theorem dX12_readTree_123 : decode cX12_readTree 123 = .ok (.bipush 44, 2) := by decide +kernel
theorem dX12_readTree_125 : decode cX12_readTree 125 = .ok (.invokevirtual 409, 3) := by decide +kernel
theorem dX12_readTree_128 : decode cX12_readTree 128 = .ok (.ifCond .ne (-108), 3) := by decide +kernel
theorem dX12_readTree_131 : decode cX12_readTree 131 = .ok (.iconst 0, 1) := by decide +kernel
theorem dX12_readTree_132 : decode cX12_readTree 132 = .ok (.ireturn, 1) := by decide +kernel
theorem dX12_readTree_133 : decode cX12_readTree 133 = .ok (.aload_n 0, 1) := by decide +kernel
theorem dX12_readTree_134 : decode cX12_readTree 134 = .ok (.invokevirtual 412, 3) := by decide +kernel
theorem dX12_readTree_137 : decode cX12_readTree 137 = .ok (.ifCond .ne 9, 3) := by decide +kernel
theorem dX12_readTree_140 : decode cX12_readTree 140 = .ok (.aload_n 0, 1) := by decide +kernel
theorem dX12_readTree_141 : decode cX12_readTree 141 = .ok (.iconst 1, 1) := by decide +kernel
theorem dX12_readTree_142 : decode cX12_readTree 142 = .ok (.invokevirtual 268, 3) := by decide +kernel
theorem dX12_readTree_145 : decode cX12_readTree 145 = .ok (.ireturn, 1) := by decide +kernel
theorem dX12_readTree_146 : decode cX12_readTree 146 = .ok (.iconst (-1), 1) := by decide +kernel
theorem dX12_readTree_147 : decode cX12_readTree 147 = .ok (.istore_n 2, 1) := by decide +kernel
theorem dX12_readTree_148 : decode cX12_readTree 148 = .ok (.iconst 0, 1) := by decide +kernel
theorem dX12_readTree_149 : decode cX12_readTree 149 = .ok (.istore_n 3, 1) := by decide +kernel
theorem dX12_readTree_150 : decode cX12_readTree 150 = .ok (.iload_n 3, 1) := by decide +kernel
theorem dX12_readTree_151 : decode cX12_readTree 151 = .ok (.aload_n 0, 1) := by decide +kernel
theorem dX12_readTree_152 : decode cX12_readTree 152 = .ok (.getfield 56, 3) := by decide +kernel
theorem dX12_readTree_155 : decode cX12_readTree 155 = .ok (.sipush 1173, 3) := by decide +kernel
theorem dX12_readTree_158 : decode cX12_readTree 158 = .ok (.aload_n 0, 1) := by decide +kernel
theorem dX12_readTree_159 : decode cX12_readTree 159 = .ok (.getfield 415, 3) := by decide +kernel
theorem dX12_readTree_162 : decode cX12_readTree 162 = .ok (.imul, 1) := by decide +kernel
theorem dX12_readTree_163 : decode cX12_readTree 163 = .ok (.iconst 1, 1) := by decide +kernel
theorem dX12_readTree_164 : decode cX12_readTree 164 = .ok (.iadd, 1) := by decide +kernel
theorem dX12_readTree_165 : decode cX12_readTree 165 = .ok (.iaload, 1) := by decide +kernel
theorem dX12_readTree_166 : decode cX12_readTree 166 = .ok (.if_icmp .ge 30, 3) := by decide +kernel
theorem dX12_readTree_169 : decode cX12_readTree 169 = .ok (.aload_n 0, 1) := by decide +kernel
theorem dX12_readTree_170 : decode cX12_readTree 170 = .ok (.getfield 40, 3) := by decide +kernel
theorem dX12_readTree_173 : decode cX12_readTree 173 = .ok (.aload_n 0, 1) := by decide +kernel
theorem dX12_readTree_174 : decode cX12_readTree 174 = .ok (.getfield 418, 3) := by decide +kernel
theorem dX12_readTree_177 : decode cX12_readTree 177 = .ok (.iload_n 3, 1) := by decide +kernel
theorem dX12_readTree_178 : decode cX12_readTree 178 = .ok (.iadd, 1) := by decide +kernel
theorem dX12_readTree_179 : decode cX12_readTree 179 = .ok (.laload, 1) := by decide +kernel
theorem dX12_readTree_180 : decode cX12_readTree 180 = .ok (.aload_n 0, 1) := by decide +kernel
theorem dX12_readTree_181 : decode cX12_readTree 181 = .ok (.getfield 255, 3) := by decide +kernel
theorem dX12_readTree_184 : decode cX12_readTree 184 = .ok (.lcmp, 1) := by decide +kernel
theorem dX12_readTree_185 : decode cX12_readTree 185 = .ok (.ifCond .ne 5, 3) := by decide +kernel
theorem dX12_readTree_188 : decode cX12_readTree 188 = .ok (.iload_n 3, 1) := by decide +kernel
theorem dX12_readTree_189 : decode cX12_readTree 189 = .ok (.istore_n 2, 1) := by decide +kernel
theorem dX12_readTree_190 : decode cX12_readTree 190 = .ok (.iinc 3 1, 3) := by decide +kernel
theorem dX12_readTree_193 : decode cX12_readTree 193 = .ok (.goto (-43), 3) := by decide +kernel
theorem dX12_readTree_196 : decode cX12_readTree 196 = .ok (.iload_n 2, 1) := by decide +kernel
theorem dX12_readTree_197 : decode cX12_readTree 197 = .ok (.ifCond .ge 9, 3) := by decide +kernel
theorem dX12_readTree_200 : decode cX12_readTree 200 = .ok (.aload_n 0, 1) := by decide +kernel
theorem dX12_readTree_201 : decode cX12_readTree 201 = .ok (.iconst 3, 1) := by decide +kernel
theorem dX12_readTree_202 : decode cX12_readTree 202 = .ok (.invokevirtual 268, 3) := by decide +kernel
theorem dX12_readTree_205 : decode cX12_readTree 205 = .ok (.ireturn, 1) := by decide +kernel
theorem dX12_readTree_206 : decode cX12_readTree 206 = .ok (.aload_n 0, 1) := by decide +kernel
theorem dX12_readTree_207 : decode cX12_readTree 207 = .ok (.aload_n 0, 1) := by decide +kernel
theorem dX12_readTree_208 : decode cX12_readTree 208 = .ok (.getfield 399, 3) := by decide +kernel
theorem dX12_readTree_211 : decode cX12_readTree 211 = .ok (.iconst 2, 1) := by decide +kernel
theorem dX12_readTree_212 : decode cX12_readTree 212 = .ok (.ishl, 1) := by decide +kernel
theorem dX12_readTree_213 : decode cX12_readTree 213 = .ok (.iload_n 2, 1) := by decide +kernel
theorem dX12_readTree_214 : decode cX12_readTree 214 = .ok (.iconst 1, 1) := by decide +kernel
theorem dX12_readTree_215 : decode cX12_readTree 215 = .ok (.iadd, 1) := by decide +kernel
theorem dX12_readTree_216 : decode cX12_readTree 216 = .ok (.ior, 1) := by decide +kernel
theorem dX12_readTree_217 : decode cX12_readTree 217 = .ok (.putfield 399, 3) := by decide +kernel
theorem dX12_readTree_220 : decode cX12_readTree 220 = .ok (.aload_n 0, 1) := by decide +kernel
theorem dX12_readTree_221 : decode cX12_readTree 221 = .ok (.invokevirtual 271, 3) := by decide +kernel
theorem dX12_readTree_224 : decode cX12_readTree 224 = .ok (.aload_n 0, 1) := by decide +kernel
theorem dX12_readTree_225 : decode cX12_readTree 225 = .ok (.bipush 40, 2) := by decide +kernel
theorem dX12_readTree_227 : decode cX12_readTree 227 = .ok (.invokevirtual 409, 3) := by decide +kernel
theorem dX12_readTree_230 : decode cX12_readTree 230 = .ok (.ifCond .ne 5, 3) := by decide +kernel
theorem dX12_readTree_233 : decode cX12_readTree 233 = .ok (.iconst 0, 1) := by decide +kernel
theorem dX12_readTree_234 : decode cX12_readTree 234 = .ok (.ireturn, 1) := by decide +kernel
theorem dX12_readTree_235 : decode cX12_readTree 235 = .ok (.aload_n 0, 1) := by decide +kernel
theorem dX12_readTree_236 : decode cX12_readTree 236 = .ok (.getfield 121, 3) := by decide +kernel
theorem dX12_readTree_239 : decode cX12_readTree 239 = .ok (.iload_n 1, 1) := by decide +kernel
theorem dX12_readTree_240 : decode cX12_readTree 240 = .ok (.aload_n 0, 1) := by decide +kernel
theorem dX12_readTree_241 : decode cX12_readTree 241 = .ok (.getfield 56, 3) := by decide +kernel
theorem dX12_readTree_244 : decode cX12_readTree 244 = .ok (.sipush 1173, 3) := by decide +kernel
theorem dX12_readTree_247 : decode cX12_readTree 247 = .ok (.aload_n 0, 1) := by decide +kernel
theorem dX12_readTree_248 : decode cX12_readTree 248 = .ok (.getfield 415, 3) := by decide +kernel
theorem dX12_readTree_251 : decode cX12_readTree 251 = .ok (.imul, 1) := by decide +kernel
theorem dX12_readTree_252 : decode cX12_readTree 252 = .ok (.iconst 4, 1) := by decide +kernel
theorem dX12_readTree_253 : decode cX12_readTree 253 = .ok (.iadd, 1) := by decide +kernel
theorem dX12_readTree_254 : decode cX12_readTree 254 = .ok (.iload_n 2, 1) := by decide +kernel
theorem dX12_readTree_255 : decode cX12_readTree 255 = .ok (.iadd, 1) := by decide +kernel
theorem dX12_readTree_256 : decode cX12_readTree 256 = .ok (.iaload, 1) := by decide +kernel
theorem dX12_readTree_257 : decode cX12_readTree 257 = .ok (.iastore, 1) := by decide +kernel
theorem dX12_readTree_258 : decode cX12_readTree 258 = .ok (.iinc 1 1, 3) := by decide +kernel
theorem dX12_readTree_261 : decode cX12_readTree 261 = .ok (.goto (-241), 3) := by decide +kernel
theorem dX12_badAt_0 : decode cX12_badAt 0 = .ok (.aload_n 0, 1) := by decide +kernel
theorem dX12_badAt_1 : decode cX12_badAt 1 = .ok (.iload_n 1, 1) := by decide +kernel
theorem dX12_badAt_2 : decode cX12_badAt 2 = .ok (.putfield 259, 3) := by decide +kernel
theorem dX12_badAt_5 : decode cX12_badAt 5 = .ok (.aload_n 0, 1) := by decide +kernel
theorem dX12_badAt_6 : decode cX12_badAt 6 = .ok (.iload_n 2, 1) := by decide +kernel
theorem dX12_badAt_7 : decode cX12_badAt 7 = .ok (.putfield 262, 3) := by decide +kernel
theorem dX12_badAt_10 : decode cX12_badAt 10 = .ok (.iconst 0, 1) := by decide +kernel
theorem dX12_badAt_11 : decode cX12_badAt 11 = .ok (.ireturn, 1) := by decide +kernel
theorem dX12_readSum_0 : decode cX12_readSum 0 = .ok (.aload_n 0, 1) := by decide +kernel
theorem dX12_readSum_1 : decode cX12_readSum 1 = .ok (.getfield 56, 3) := by decide +kernel
theorem dX12_readSum_4 : decode cX12_readSum 4 = .ok (.sipush 1173, 3) := by decide +kernel
theorem dX12_readSum_7 : decode cX12_readSum 7 = .ok (.aload_n 0, 1) := by decide +kernel
theorem dX12_readSum_8 : decode cX12_readSum 8 = .ok (.getfield 415, 3) := by decide +kernel
theorem dX12_readSum_11 : decode cX12_readSum 11 = .ok (.imul, 1) := by decide +kernel
theorem dX12_readSum_12 : decode cX12_readSum 12 = .ok (.iconst 0, 1) := by decide +kernel
theorem dX12_readSum_13 : decode cX12_readSum 13 = .ok (.iadd, 1) := by decide +kernel
theorem dX12_readSum_14 : decode cX12_readSum 14 = .ok (.iaload, 1) := by decide +kernel
theorem dX12_readSum_15 : decode cX12_readSum 15 = .ok (.istore_n 3, 1) := by decide +kernel
theorem dX12_readSum_16 : decode cX12_readSum 16 = .ok (.aload_n 0, 1) := by decide +kernel
theorem dX12_readSum_17 : decode cX12_readSum 17 = .ok (.bipush 45, 2) := by decide +kernel
theorem dX12_readSum_19 : decode cX12_readSum 19 = .ok (.invokevirtual 265, 3) := by decide +kernel
theorem dX12_readSum_22 : decode cX12_readSum 22 = .ok (.istore 4, 2) := by decide +kernel
theorem dX12_readSum_24 : decode cX12_readSum 24 = .ok (.iload 4, 2) := by decide +kernel
theorem dX12_readSum_26 : decode cX12_readSum 26 = .ok (.ifCond .eq 7, 3) := by decide +kernel
theorem dX12_readSum_29 : decode cX12_readSum 29 = .ok (.aload_n 0, 1) := by decide +kernel
theorem dX12_readSum_30 : decode cX12_readSum 30 = .ok (.invokevirtual 271, 3) := by decide +kernel
theorem dX12_readSum_33 : decode cX12_readSum 33 = .ok (.aload_n 0, 1) := by decide +kernel
theorem dX12_readSum_34 : decode cX12_readSum 34 = .ok (.iconst 0, 1) := by decide +kernel
theorem dX12_readSum_35 : decode cX12_readSum 35 = .ok (.invokevirtual 421, 3) := by decide +kernel
theorem dX12_readSum_38 : decode cX12_readSum 38 = .ok (.iconst 1, 1) := by decide +kernel
theorem dX12_readSum_39 : decode cX12_readSum 39 = .ok (.istore 5, 2) := by decide +kernel
theorem dX12_readSum_41 : decode cX12_readSum 41 = .ok (.aload_n 0, 1) := by decide +kernel
theorem dX12_readSum_42 : decode cX12_readSum 42 = .ok (.getfield 242, 3) := by decide +kernel
theorem dX12_readSum_45 : decode cX12_readSum 45 = .ok (.iconst 2, 1) := by decide +kernel
theorem dX12_readSum_46 : decode cX12_readSum 46 = .ok (.if_icmp .ne 15, 3) := by decide +kernel
theorem dX12_readSum_49 : decode cX12_readSum 49 = .ok (.aload_n 0, 1) := by decide +kernel
theorem dX12_readSum_50 : decode cX12_readSum 50 = .ok (.getfield 252, 3) := by decide +kernel
theorem dX12_readSum_53 : decode cX12_readSum 53 = .ok (.iload_n 3, 1) := by decide +kernel
theorem dX12_readSum_54 : decode cX12_readSum 54 = .ok (.irem, 1) := by decide +kernel
theorem dX12_readSum_55 : decode cX12_readSum 55 = .ok (.istore 5, 2) := by decide +kernel
theorem dX12_readSum_57 : decode cX12_readSum 57 = .ok (.aload_n 0, 1) := by decide +kernel
theorem dX12_readSum_58 : decode cX12_readSum 58 = .ok (.invokevirtual 271, 3) := by decide +kernel
theorem dX12_readSum_61 : decode cX12_readSum 61 = .ok (.aload_n 0, 1) := by decide +kernel
theorem dX12_readSum_62 : decode cX12_readSum 62 = .ok (.invokevirtual 424, 3) := by decide +kernel
theorem dX12_readSum_65 : decode cX12_readSum 65 = .ok (.ifCond .ne 5, 3) := by decide +kernel
theorem dX12_readSum_68 : decode cX12_readSum 68 = .ok (.iconst 0, 1) := by decide +kernel
theorem dX12_readSum_69 : decode cX12_readSum 69 = .ok (.ireturn, 1) := by decide +kernel
theorem dX12_readSum_70 : decode cX12_readSum 70 = .ok (.aload_n 0, 1) := by decide +kernel
theorem dX12_readSum_71 : decode cX12_readSum 71 = .ok (.getfield 382, 3) := by decide +kernel
theorem dX12_readSum_74 : decode cX12_readSum 74 = .ok (.ifCond .ne 30, 3) := by decide +kernel
theorem dX12_readSum_77 : decode cX12_readSum 77 = .ok (.iload_n 2, 1) := by decide +kernel
theorem dX12_readSum_78 : decode cX12_readSum 78 = .ok (.ifCond .le 11, 3) := by decide +kernel
theorem dX12_readSum_81 : decode cX12_readSum 81 = .ok (.aload_n 0, 1) := by decide +kernel
theorem dX12_readSum_82 : decode cX12_readSum 82 = .ok (.getfield 402, 3) := by decide +kernel
theorem dX12_readSum_85 : decode cX12_readSum 85 = .ok (.iload_n 2, 1) := by decide +kernel
theorem dX12_readSum_86 : decode cX12_readSum 86 = .ok (.if_icmp .ne 29, 3) := by decide +kernel
theorem dX12_readSum_89 : decode cX12_readSum 89 = .ok (.iload_n 1, 1) := by decide +kernel
theorem dX12_readSum_90 : decode cX12_readSum 90 = .ok (.ifCond .eq 35, 3) := by decide +kernel
theorem dX12_readSum_93 : decode cX12_readSum 93 = .ok (.aload_n 0, 1) := by decide +kernel
theorem dX12_readSum_94 : decode cX12_readSum 94 = .ok (.getfield 402, 3) := by decide +kernel
theorem dX12_readSum_97 : decode cX12_readSum 97 = .ok (.iconst 1, 1) := by decide +kernel
theorem dX12_readSum_98 : decode cX12_readSum 98 = .ok (.if_icmp .ne 27, 3) := by decide +kernel
theorem dX12_readSum_101 : decode cX12_readSum 101 = .ok (.goto 14, 3) := by decide +kernel
theorem dX12_readSum_104 : decode cX12_readSum 104 = .ok (.aload_n 0, 1) := by decide +kernel
theorem dX12_readSum_105 : decode cX12_readSum 105 = .ok (.getfield 402, 3) := by decide +kernel
theorem dX12_readSum_108 : decode cX12_readSum 108 = .ok (.aload_n 0, 1) := by decide +kernel
theorem dX12_readSum_109 : decode cX12_readSum 109 = .ok (.getfield 382, 3) := by decide +kernel
theorem dX12_readSum_112 : decode cX12_readSum 112 = .ok (.if_icmp .eq 13, 3) := by decide +kernel
theorem dX12_readSum_115 : decode cX12_readSum 115 = .ok (.aload_n 0, 1) := by decide +kernel
theorem dX12_readSum_116 : decode cX12_readSum 116 = .ok (.iconst 3, 1) := by decide +kernel
theorem dX12_readSum_117 : decode cX12_readSum 117 = .ok (.aload_n 0, 1) := by decide +kernel
theorem dX12_readSum_118 : decode cX12_readSum 118 = .ok (.getfield 396, 3) := by decide +kernel
theorem dX12_readSum_121 : decode cX12_readSum 121 = .ok (.invokevirtual 427, 3) := by decide +kernel
theorem dX12_readSum_124 : decode cX12_readSum 124 = .ok (.ireturn, 1) := by decide +kernel
theorem dX12_readSum_125 : decode cX12_readSum 125 = .ok (.aload_n 0, 1) := by decide +kernel
theorem dX12_readSum_126 : decode cX12_readSum 126 = .ok (.aload_n 0, 1) := by decide +kernel
theorem dX12_readSum_127 : decode cX12_readSum 127 = .ok (.getfield 402, 3) := by decide +kernel
theorem dX12_readSum_130 : decode cX12_readSum 130 = .ok (.putfield 382, 3) := by decide +kernel
theorem dX12_readSum_133 : decode cX12_readSum 133 = .ok (.aload_n 0, 1) := by decide +kernel
theorem dX12_readSum_134 : decode cX12_readSum 134 = .ok (.aload_n 0, 1) := by decide +kernel
theorem dX12_readSum_135 : decode cX12_readSum 135 = .ok (.getfield 399, 3) := by decide +kernel
theorem dX12_readSum_138 : decode cX12_readSum 138 = .ok (.iload 4, 2) := by decide +kernel
theorem dX12_readSum_140 : decode cX12_readSum 140 = .ok (.ifCond .eq 12, 3) := by decide +kernel
theorem dX12_readSum_143 : decode cX12_readSum 143 = .ok (.iload_n 3, 1) := by decide +kernel
theorem dX12_readSum_144 : decode cX12_readSum 144 = .ok (.iload 5, 2) := by decide +kernel
theorem dX12_readSum_146 : decode cX12_readSum 146 = .ok (.isub, 1) := by decide +kernel
theorem dX12_readSum_147 : decode cX12_readSum 147 = .ok (.iload_n 3, 1) := by decide +kernel
theorem dX12_readSum_148 : decode cX12_readSum 148 = .ok (.irem, 1) := by decide +kernel
theorem dX12_readSum_149 : decode cX12_readSum 149 = .ok (.goto 5, 3) := by decide +kernel
theorem dX12_readSum_152 : decode cX12_readSum 152 = .ok (.iload 5, 2) := by decide +kernel
theorem dX12_readSum_154 : decode cX12_readSum 154 = .ok (.aload_n 0, 1) := by decide +kernel
theorem dX12_readSum_155 : decode cX12_readSum 155 = .ok (.getfield 415, 3) := by decide +kernel
theorem dX12_readSum_158 : decode cX12_readSum 158 = .ok (.iload_n 3, 1) := by decide +kernel
theorem dX12_readSum_159 : decode cX12_readSum 159 = .ok (.invokevirtual 430, 3) := by decide +kernel
theorem dX12_readSum_162 : decode cX12_readSum 162 = .ok (.aload_n 0, 1) := by decide +kernel
theorem dX12_readSum_163 : decode cX12_readSum 163 = .ok (.bipush 43, 2) := by decide +kernel
theorem dX12_readSum_165 : decode cX12_readSum 165 = .ok (.invokevirtual 265, 3) := by decide +kernel
theorem dX12_readSum_168 : decode cX12_readSum 168 = .ok (.ifCond .ne 15, 3) := by decide +kernel
theorem dX12_readSum_171 : decode cX12_readSum 171 = .ok (.aload_n 0, 1) := by decide +kernel
theorem dX12_readSum_172 : decode cX12_readSum 172 = .ok (.bipush 45, 2) := by decide +kernel
theorem dX12_readSum_174 : decode cX12_readSum 174 = .ok (.invokevirtual 265, 3) := by decide +kernel
theorem dX12_readSum_177 : decode cX12_readSum 177 = .ok (.ifCond .ne 6, 3) := by decide +kernel
theorem dX12_readSum_180 : decode cX12_readSum 180 = .ok (.goto 18, 3) := by decide +kernel
theorem dX12_readSum_183 : decode cX12_readSum 183 = .ok (.aload_n 0, 1) := by decide +kernel
theorem dX12_readSum_184 : decode cX12_readSum 184 = .ok (.bipush 45, 2) := by decide +kernel
theorem dX12_readSum_186 : decode cX12_readSum 186 = .ok (.invokevirtual 265, 3) := by decide +kernel
theorem dX12_readSum_189 : decode cX12_readSum 189 = .ok (.istore 4, 2) := by decide +kernel
theorem dX12_readSum_191 : decode cX12_readSum 191 = .ok (.aload_n 0, 1) := by decide +kernel
theorem dX12_readSum_192 : decode cX12_readSum 192 = .ok (.invokevirtual 271, 3) := by decide +kernel
theorem dX12_readSum_195 : decode cX12_readSum 195 = .ok (.goto (-157), 3) := by decide +kernel
theorem dX12_readSum_198 : decode cX12_readSum 198 = .ok (.aload_n 0, 1) := by decide +kernel
theorem dX12_readSum_199 : decode cX12_readSum 199 = .ok (.invokevirtual 434, 3) := by decide +kernel
theorem dX12_readSum_202 : decode cX12_readSum 202 = .ok (.iconst 1, 1) := by decide +kernel
theorem dX12_readSum_203 : decode cX12_readSum 203 = .ok (.ireturn, 1) := by decide +kernel
theorem dX12_isPrime_0 : decode cX12_isPrime 0 = .ok (.iconst 2, 1) := by decide +kernel
theorem dX12_isPrime_1 : decode cX12_isPrime 1 = .ok (.istore_n 1, 1) := by decide +kernel
theorem dX12_isPrime_2 : decode cX12_isPrime 2 = .ok (.iload_n 1, 1) := by decide +kernel
theorem dX12_isPrime_3 : decode cX12_isPrime 3 = .ok (.iload_n 1, 1) := by decide +kernel
theorem dX12_isPrime_4 : decode cX12_isPrime 4 = .ok (.imul, 1) := by decide +kernel
theorem dX12_isPrime_5 : decode cX12_isPrime 5 = .ok (.iload_n 0, 1) := by decide +kernel
theorem dX12_isPrime_6 : decode cX12_isPrime 6 = .ok (.if_icmp .gt 17, 3) := by decide +kernel
theorem dX12_isPrime_9 : decode cX12_isPrime 9 = .ok (.iload_n 0, 1) := by decide +kernel
theorem dX12_isPrime_10 : decode cX12_isPrime 10 = .ok (.iload_n 1, 1) := by decide +kernel
theorem dX12_isPrime_11 : decode cX12_isPrime 11 = .ok (.irem, 1) := by decide +kernel
theorem dX12_isPrime_12 : decode cX12_isPrime 12 = .ok (.ifCond .ne 5, 3) := by decide +kernel
theorem dX12_isPrime_15 : decode cX12_isPrime 15 = .ok (.iconst 0, 1) := by decide +kernel
theorem dX12_isPrime_16 : decode cX12_isPrime 16 = .ok (.ireturn, 1) := by decide +kernel
theorem dX12_isPrime_17 : decode cX12_isPrime 17 = .ok (.iinc 1 1, 3) := by decide +kernel
theorem dX12_isPrime_20 : decode cX12_isPrime 20 = .ok (.goto (-18), 3) := by decide +kernel
theorem dX12_isPrime_23 : decode cX12_isPrime 23 = .ok (.iload_n 0, 1) := by decide +kernel
theorem dX12_isPrime_24 : decode cX12_isPrime 24 = .ok (.iconst 1, 1) := by decide +kernel
theorem dX12_isPrime_25 : decode cX12_isPrime 25 = .ok (.if_icmp .le 7, 3) := by decide +kernel
theorem dX12_isPrime_28 : decode cX12_isPrime 28 = .ok (.iconst 1, 1) := by decide +kernel
theorem dX12_isPrime_29 : decode cX12_isPrime 29 = .ok (.goto 4, 3) := by decide +kernel
theorem dX12_isPrime_32 : decode cX12_isPrime 32 = .ok (.iconst 0, 1) := by decide +kernel
theorem dX12_isPrime_33 : decode cX12_isPrime 33 = .ok (.ireturn, 1) := by decide +kernel
theorem dX12_line_0 : decode cX12_line 0 = .ok (.aload_n 0, 1) := by decide +kernel
theorem dX12_line_1 : decode cX12_line 1 = .ok (.ldc2_w 388, 3) := by decide +kernel
theorem dX12_line_4 : decode cX12_line 4 = .ok (.invokevirtual 405, 3) := by decide +kernel
theorem dX12_line_7 : decode cX12_line 7 = .ok (.ifCond .eq 80, 3) := by decide +kernel
theorem dX12_line_10 : decode cX12_line 10 = .ok (.aload_n 0, 1) := by decide +kernel
theorem dX12_line_11 : decode cX12_line 11 = .ok (.getfield 437, 3) := by decide +kernel
theorem dX12_line_14 : decode cX12_line 14 = .ok (.ifCond .ne 12, 3) := by decide +kernel
theorem dX12_line_17 : decode cX12_line 17 = .ok (.aload_n 0, 1) := by decide +kernel
theorem dX12_line_18 : decode cX12_line 18 = .ok (.getfield 37, 3) := by decide +kernel
theorem dX12_line_21 : decode cX12_line 21 = .ok (.iconst 2, 1) := by decide +kernel
theorem dX12_line_22 : decode cX12_line 22 = .ok (.iaload, 1) := by decide +kernel
theorem dX12_line_23 : decode cX12_line 23 = .ok (.ifCond .le 9, 3) := by decide +kernel
theorem dX12_line_26 : decode cX12_line 26 = .ok (.aload_n 0, 1) := by decide +kernel
theorem dX12_line_27 : decode cX12_line 27 = .ok (.iconst 3, 1) := by decide +kernel
theorem dX12_line_28 : decode cX12_line 28 = .ok (.invokevirtual 268, 3) := by decide +kernel
theorem dX12_line_31 : decode cX12_line 31 = .ok (.ireturn, 1) := by decide +kernel
theorem dX12_line_32 : decode cX12_line 32 = .ok (.aload_n 0, 1) := by decide +kernel
theorem dX12_line_33 : decode cX12_line 33 = .ok (.iconst 1, 1) := by decide +kernel
theorem dX12_line_34 : decode cX12_line 34 = .ok (.putfield 437, 3) := by decide +kernel
theorem dX12_line_37 : decode cX12_line 37 = .ok (.aload_n 0, 1) := by decide +kernel
theorem dX12_line_38 : decode cX12_line 38 = .ok (.invokevirtual 271, 3) := by decide +kernel
theorem dX12_line_41 : decode cX12_line 41 = .ok (.aload_n 0, 1) := by decide +kernel
theorem dX12_line_42 : decode cX12_line 42 = .ok (.getfield 242, 3) := by decide +kernel
theorem dX12_line_45 : decode cX12_line 45 = .ok (.iconst 2, 1) := by decide +kernel
theorem dX12_line_46 : decode cX12_line 46 = .ok (.if_icmp .eq 9, 3) := by decide +kernel
theorem dX12_line_49 : decode cX12_line 49 = .ok (.aload_n 0, 1) := by decide +kernel
theorem dX12_line_50 : decode cX12_line 50 = .ok (.iconst 1, 1) := by decide +kernel
theorem dX12_line_51 : decode cX12_line 51 = .ok (.invokevirtual 268, 3) := by decide +kernel
theorem dX12_line_54 : decode cX12_line 54 = .ok (.ireturn, 1) := by decide +kernel
theorem dX12_line_55 : decode cX12_line 55 = .ok (.aload_n 0, 1) := by decide +kernel
theorem dX12_line_56 : decode cX12_line 56 = .ok (.getfield 252, 3) := by decide +kernel
theorem dX12_line_59 : decode cX12_line 59 = .ok (.invokestatic 441, 3) := by decide +kernel
theorem dX12_line_62 : decode cX12_line 62 = .ok (.ifCond .ne 9, 3) := by decide +kernel
theorem dX12_line_65 : decode cX12_line 65 = .ok (.aload_n 0, 1) := by decide +kernel
theorem dX12_line_66 : decode cX12_line 66 = .ok (.iconst 2, 1) := by decide +kernel
theorem dX12_line_67 : decode cX12_line 67 = .ok (.invokevirtual 268, 3) := by decide +kernel
theorem dX12_line_70 : decode cX12_line 70 = .ok (.ireturn, 1) := by decide +kernel
theorem dX12_line_71 : decode cX12_line 71 = .ok (.aload_n 0, 1) := by decide +kernel
theorem dX12_line_72 : decode cX12_line 72 = .ok (.getfield 37, 3) := by decide +kernel
theorem dX12_line_75 : decode cX12_line 75 = .ok (.iconst 0, 1) := by decide +kernel
theorem dX12_line_76 : decode cX12_line 76 = .ok (.aload_n 0, 1) := by decide +kernel
theorem dX12_line_77 : decode cX12_line 77 = .ok (.getfield 252, 3) := by decide +kernel
theorem dX12_line_80 : decode cX12_line 80 = .ok (.iastore, 1) := by decide +kernel
theorem dX12_line_81 : decode cX12_line 81 = .ok (.aload_n 0, 1) := by decide +kernel
theorem dX12_line_82 : decode cX12_line 82 = .ok (.invokevirtual 271, 3) := by decide +kernel
theorem dX12_line_85 : decode cX12_line 85 = .ok (.iconst 1, 1) := by decide +kernel
theorem dX12_line_86 : decode cX12_line 86 = .ok (.ireturn, 1) := by decide +kernel
theorem dX12_line_87 : decode cX12_line 87 = .ok (.aload_n 0, 1) := by decide +kernel
theorem dX12_line_88 : decode cX12_line 88 = .ok (.ldc2_w 390, 3) := by decide +kernel
theorem dX12_line_91 : decode cX12_line 91 = .ok (.invokevirtual 405, 3) := by decide +kernel
theorem dX12_line_94 : decode cX12_line 94 = .ok (.ifCond .eq 8, 3) := by decide +kernel
theorem dX12_line_97 : decode cX12_line 97 = .ok (.aload_n 0, 1) := by decide +kernel
theorem dX12_line_98 : decode cX12_line 98 = .ok (.invokevirtual 444, 3) := by decide +kernel
theorem dX12_line_101 : decode cX12_line 101 = .ok (.ireturn, 1) := by decide +kernel
theorem dX12_line_102 : decode cX12_line 102 = .ok (.aload_n 0, 1) := by decide +kernel
theorem dX12_line_103 : decode cX12_line 103 = .ok (.ldc2_w 392, 3) := by decide +kernel
theorem dX12_line_106 : decode cX12_line 106 = .ok (.invokevirtual 405, 3) := by decide +kernel
theorem dX12_line_109 : decode cX12_line 109 = .ok (.ifCond .ne 9, 3) := by decide +kernel
theorem dX12_line_112 : decode cX12_line 112 = .ok (.aload_n 0, 1) := by decide +kernel
theorem dX12_line_113 : decode cX12_line 113 = .ok (.iconst 1, 1) := by decide +kernel
theorem dX12_line_114 : decode cX12_line 114 = .ok (.invokevirtual 268, 3) := by decide +kernel
theorem dX12_line_117 : decode cX12_line 117 = .ok (.ireturn, 1) := by decide +kernel
theorem dX12_line_118 : decode cX12_line 118 = .ok (.aload_n 0, 1) := by decide +kernel
theorem dX12_line_119 : decode cX12_line 119 = .ok (.getfield 37, 3) := by decide +kernel
theorem dX12_line_122 : decode cX12_line 122 = .ok (.iconst 2, 1) := by decide +kernel
theorem dX12_line_123 : decode cX12_line 123 = .ok (.iaload, 1) := by decide +kernel
theorem dX12_line_124 : decode cX12_line 124 = .ok (.istore_n 1, 1) := by decide +kernel
theorem dX12_line_125 : decode cX12_line 125 = .ok (.iload_n 1, 1) := by decide +kernel
theorem dX12_line_126 : decode cX12_line 126 = .ok (.bipush 18, 2) := by decide +kernel
theorem dX12_line_128 : decode cX12_line 128 = .ok (.if_icmp .ne 9, 3) := by decide +kernel
theorem dX12_line_131 : decode cX12_line 131 = .ok (.aload_n 0, 1) := by decide +kernel
theorem dX12_line_132 : decode cX12_line 132 = .ok (.iconst 4, 1) := by decide +kernel
theorem dX12_line_133 : decode cX12_line 133 = .ok (.invokevirtual 268, 3) := by decide +kernel
theorem dX12_line_136 : decode cX12_line 136 = .ok (.ireturn, 1) := by decide +kernel
theorem dX12_line_137 : decode cX12_line 137 = .ok (.aload_n 0, 1) := by decide +kernel
theorem dX12_line_138 : decode cX12_line 138 = .ok (.invokevirtual 271, 3) := by decide +kernel
theorem dX12_line_141 : decode cX12_line 141 = .ok (.iconst 0, 1) := by decide +kernel
theorem dX12_line_142 : decode cX12_line 142 = .ok (.istore_n 2, 1) := by decide +kernel
theorem dX12_line_143 : decode cX12_line 143 = .ok (.iload_n 2, 1) := by decide +kernel
theorem dX12_line_144 : decode cX12_line 144 = .ok (.sipush 1173, 3) := by decide +kernel
theorem dX12_line_147 : decode cX12_line 147 = .ok (.if_icmp .ge 25, 3) := by decide +kernel
theorem dX12_line_150 : decode cX12_line 150 = .ok (.aload_n 0, 1) := by decide +kernel
theorem dX12_line_151 : decode cX12_line 151 = .ok (.getfield 56, 3) := by decide +kernel
theorem dX12_line_154 : decode cX12_line 154 = .ok (.sipush 1173, 3) := by decide +kernel
theorem dX12_line_157 : decode cX12_line 157 = .ok (.iload_n 2, 1) := by decide +kernel
theorem dX12_line_158 : decode cX12_line 158 = .ok (.iadd, 1) := by decide +kernel
theorem dX12_line_159 : decode cX12_line 159 = .ok (.aload_n 0, 1) := by decide +kernel
theorem dX12_line_160 : decode cX12_line 160 = .ok (.getfield 37, 3) := by decide +kernel
theorem dX12_line_163 : decode cX12_line 163 = .ok (.iload_n 2, 1) := by decide +kernel
theorem dX12_line_164 : decode cX12_line 164 = .ok (.iaload, 1) := by decide +kernel
theorem dX12_line_165 : decode cX12_line 165 = .ok (.iastore, 1) := by decide +kernel
theorem dX12_line_166 : decode cX12_line 166 = .ok (.iinc 2 1, 3) := by decide +kernel
theorem dX12_line_169 : decode cX12_line 169 = .ok (.goto (-26), 3) := by decide +kernel
theorem dX12_line_172 : decode cX12_line 172 = .ok (.aload_n 0, 1) := by decide +kernel
theorem dX12_line_173 : decode cX12_line 173 = .ok (.iconst 1, 1) := by decide +kernel
theorem dX12_line_174 : decode cX12_line 174 = .ok (.iconst 0, 1) := by decide +kernel
theorem dX12_line_175 : decode cX12_line 175 = .ok (.invokevirtual 447, 3) := by decide +kernel
theorem dX12_line_178 : decode cX12_line 178 = .ok (.ifCond .ne 5, 3) := by decide +kernel
theorem dX12_line_181 : decode cX12_line 181 = .ok (.iconst 0, 1) := by decide +kernel
theorem dX12_line_182 : decode cX12_line 182 = .ok (.ireturn, 1) := by decide +kernel
theorem dX12_line_183 : decode cX12_line 183 = .ok (.aload_n 0, 1) := by decide +kernel
theorem dX12_line_184 : decode cX12_line 184 = .ok (.getfield 37, 3) := by decide +kernel
theorem dX12_line_187 : decode cX12_line 187 = .ok (.bipush 7, 2) := by decide +kernel
theorem dX12_line_189 : decode cX12_line 189 = .ok (.iload_n 1, 1) := by decide +kernel
theorem dX12_line_190 : decode cX12_line 190 = .ok (.iadd, 1) := by decide +kernel
theorem dX12_line_191 : decode cX12_line 191 = .ok (.aload_n 0, 1) := by decide +kernel
theorem dX12_line_192 : decode cX12_line 192 = .ok (.getfield 382, 3) := by decide +kernel
theorem dX12_line_195 : decode cX12_line 195 = .ok (.iastore, 1) := by decide +kernel
theorem dX12_line_196 : decode cX12_line 196 = .ok (.aload_n 0, 1) := by decide +kernel
theorem dX12_line_197 : decode cX12_line 197 = .ok (.getfield 37, 3) := by decide +kernel
theorem dX12_line_200 : decode cX12_line 200 = .ok (.bipush 25, 2) := by decide +kernel
theorem dX12_line_202 : decode cX12_line 202 = .ok (.iload_n 1, 1) := by decide +kernel
theorem dX12_line_203 : decode cX12_line 203 = .ok (.iadd, 1) := by decide +kernel
theorem dX12_line_204 : decode cX12_line 204 = .ok (.iaload, 1) := by decide +kernel
theorem dX12_line_205 : decode cX12_line 205 = .ok (.istore_n 2, 1) := by decide +kernel
theorem dX12_line_206 : decode cX12_line 206 = .ok (.iconst 0, 1) := by decide +kernel
theorem dX12_line_207 : decode cX12_line 207 = .ok (.istore_n 3, 1) := by decide +kernel
theorem dX12_line_208 : decode cX12_line 208 = .ok (.iload_n 3, 1) := by decide +kernel
theorem dX12_line_209 : decode cX12_line 209 = .ok (.aload_n 0, 1) := by decide +kernel
theorem dX12_line_210 : decode cX12_line 210 = .ok (.getfield 379, 3) := by decide +kernel
theorem dX12_line_213 : decode cX12_line 213 = .ok (.if_icmp .ge 44, 3) := by decide +kernel
theorem dX12_line_216 : decode cX12_line 216 = .ok (.aload_n 0, 1) := by decide +kernel
theorem dX12_line_217 : decode cX12_line 217 = .ok (.getfield 37, 3) := by decide +kernel
theorem dX12_line_220 : decode cX12_line 220 = .ok (.bipush 44, 2) := by decide +kernel
theorem dX12_line_222 : decode cX12_line 222 = .ok (.iload_n 2, 1) := by decide +kernel
theorem dX12_line_223 : decode cX12_line 223 = .ok (.iadd, 1) := by decide +kernel
theorem dX12_line_224 : decode cX12_line 224 = .ok (.iload_n 3, 1) := by decide +kernel
theorem dX12_line_225 : decode cX12_line 225 = .ok (.iadd, 1) := by decide +kernel
theorem dX12_line_226 : decode cX12_line 226 = .ok (.aload_n 0, 1) := by decide +kernel
theorem dX12_line_227 : decode cX12_line 227 = .ok (.getfield 112, 3) := by decide +kernel
theorem dX12_line_230 : decode cX12_line 230 = .ok (.iload_n 3, 1) := by decide +kernel
theorem dX12_line_231 : decode cX12_line 231 = .ok (.iaload, 1) := by decide +kernel
theorem dX12_line_232 : decode cX12_line 232 = .ok (.iastore, 1) := by decide +kernel
theorem dX12_line_233 : decode cX12_line 233 = .ok (.aload_n 0, 1) := by decide +kernel
theorem dX12_line_234 : decode cX12_line 234 = .ok (.getfield 37, 3) := by decide +kernel
theorem dX12_line_237 : decode cX12_line 237 = .ok (.sipush 244, 3) := by decide +kernel
theorem dX12_line_240 : decode cX12_line 240 = .ok (.iload_n 2, 1) := by decide +kernel
theorem dX12_line_241 : decode cX12_line 241 = .ok (.iadd, 1) := by decide +kernel
theorem dX12_line_242 : decode cX12_line 242 = .ok (.iload_n 3, 1) := by decide +kernel
theorem dX12_line_243 : decode cX12_line 243 = .ok (.iadd, 1) := by decide +kernel
theorem dX12_line_244 : decode cX12_line 244 = .ok (.aload_n 0, 1) := by decide +kernel
theorem dX12_line_245 : decode cX12_line 245 = .ok (.getfield 115, 3) := by decide +kernel
theorem dX12_line_248 : decode cX12_line 248 = .ok (.iload_n 3, 1) := by decide +kernel
theorem dX12_line_249 : decode cX12_line 249 = .ok (.iaload, 1) := by decide +kernel
theorem dX12_line_250 : decode cX12_line 250 = .ok (.iastore, 1) := by decide +kernel
theorem dX12_line_251 : decode cX12_line 251 = .ok (.iinc 3 1, 3) := by decide +kernel
theorem dX12_line_254 : decode cX12_line 254 = .ok (.goto (-46), 3) := by decide +kernel
theorem dX12_line_257 : decode cX12_line 257 = .ok (.aload_n 0, 1) := by decide +kernel
theorem dX12_line_258 : decode cX12_line 258 = .ok (.getfield 37, 3) := by decide +kernel
theorem dX12_line_261 : decode cX12_line 261 = .ok (.bipush 25, 2) := by decide +kernel
theorem dX12_line_263 : decode cX12_line 263 = .ok (.iload_n 1, 1) := by decide +kernel
theorem dX12_line_264 : decode cX12_line 264 = .ok (.iadd, 1) := by decide +kernel
theorem dX12_line_265 : decode cX12_line 265 = .ok (.iconst 1, 1) := by decide +kernel
theorem dX12_line_266 : decode cX12_line 266 = .ok (.iadd, 1) := by decide +kernel
theorem dX12_line_267 : decode cX12_line 267 = .ok (.iload_n 2, 1) := by decide +kernel
theorem dX12_line_268 : decode cX12_line 268 = .ok (.aload_n 0, 1) := by decide +kernel
theorem dX12_line_269 : decode cX12_line 269 = .ok (.getfield 379, 3) := by decide +kernel
theorem dX12_line_272 : decode cX12_line 272 = .ok (.iadd, 1) := by decide +kernel
theorem dX12_line_273 : decode cX12_line 273 = .ok (.iastore, 1) := by decide +kernel
theorem dX12_line_274 : decode cX12_line 274 = .ok (.aload_n 0, 1) := by decide +kernel
theorem dX12_line_275 : decode cX12_line 275 = .ok (.getfield 37, 3) := by decide +kernel
theorem dX12_line_278 : decode cX12_line 278 = .ok (.iconst 2, 1) := by decide +kernel
theorem dX12_line_279 : decode cX12_line 279 = .ok (.dup2, 1) := by decide +kernel
theorem dX12_line_280 : decode cX12_line 280 = .ok (.iaload, 1) := by decide +kernel
theorem dX12_line_281 : decode cX12_line 281 = .ok (.iconst 1, 1) := by decide +kernel
theorem dX12_line_282 : decode cX12_line 282 = .ok (.iadd, 1) := by decide +kernel
theorem dX12_line_283 : decode cX12_line 283 = .ok (.iastore, 1) := by decide +kernel
theorem dX12_line_284 : decode cX12_line 284 = .ok (.iconst 1, 1) := by decide +kernel
theorem dX12_line_285 : decode cX12_line 285 = .ok (.ireturn, 1) := by decide +kernel
theorem dX12_readAct_0 : decode cX12_readAct 0 = .ok (.aload_n 0, 1) := by decide +kernel
theorem dX12_readAct_1 : decode cX12_readAct 1 = .ok (.getfield 37, 3) := by decide +kernel
theorem dX12_readAct_4 : decode cX12_readAct 4 = .ok (.iconst 1, 1) := by decide +kernel
theorem dX12_readAct_5 : decode cX12_readAct 5 = .ok (.iaload, 1) := by decide +kernel
theorem dX12_readAct_6 : decode cX12_readAct 6 = .ok (.istore_n 1, 1) := by decide +kernel
theorem dX12_readAct_7 : decode cX12_readAct 7 = .ok (.aload_n 0, 1) := by decide +kernel
theorem dX12_readAct_8 : decode cX12_readAct 8 = .ok (.getfield 37, 3) := by decide +kernel
theorem dX12_readAct_11 : decode cX12_readAct 11 = .ok (.iconst 2, 1) := by decide +kernel
theorem dX12_readAct_12 : decode cX12_readAct 12 = .ok (.iaload, 1) := by decide +kernel
theorem dX12_readAct_13 : decode cX12_readAct 13 = .ok (.ifCond .le 9, 3) := by decide +kernel
theorem dX12_readAct_16 : decode cX12_readAct 16 = .ok (.aload_n 0, 1) := by decide +kernel
theorem dX12_readAct_17 : decode cX12_readAct 17 = .ok (.iconst 3, 1) := by decide +kernel
theorem dX12_readAct_18 : decode cX12_readAct 18 = .ok (.invokevirtual 268, 3) := by decide +kernel
theorem dX12_readAct_21 : decode cX12_readAct 21 = .ok (.ireturn, 1) := by decide +kernel
theorem dX12_readAct_22 : decode cX12_readAct 22 = .ok (.iload_n 1, 1) := by decide +kernel
theorem dX12_readAct_23 : decode cX12_readAct 23 = .ok (.iconst 3, 1) := by decide +kernel
theorem dX12_readAct_24 : decode cX12_readAct 24 = .ok (.if_icmp .ne 9, 3) := by decide +kernel
theorem dX12_readAct_27 : decode cX12_readAct 27 = .ok (.aload_n 0, 1) := by decide +kernel
theorem dX12_readAct_28 : decode cX12_readAct 28 = .ok (.iconst 4, 1) := by decide +kernel
theorem dX12_readAct_29 : decode cX12_readAct 29 = .ok (.invokevirtual 268, 3) := by decide +kernel
theorem dX12_readAct_32 : decode cX12_readAct 32 = .ok (.ireturn, 1) := by decide +kernel
theorem dX12_readAct_33 : decode cX12_readAct 33 = .ok (.aload_n 0, 1) := by decide +kernel
theorem dX12_readAct_34 : decode cX12_readAct 34 = .ok (.invokevirtual 271, 3) := by decide +kernel
theorem dX12_readAct_37 : decode cX12_readAct 37 = .ok (.aload_n 0, 1) := by decide +kernel
theorem dX12_readAct_38 : decode cX12_readAct 38 = .ok (.invokevirtual 412, 3) := by decide +kernel
theorem dX12_readAct_41 : decode cX12_readAct 41 = .ok (.ifCond .ne 9, 3) := by decide +kernel
theorem dX12_readAct_44 : decode cX12_readAct 44 = .ok (.aload_n 0, 1) := by decide +kernel
theorem dX12_readAct_45 : decode cX12_readAct 45 = .ok (.iconst 1, 1) := by decide +kernel
theorem dX12_readAct_46 : decode cX12_readAct 46 = .ok (.invokevirtual 268, 3) := by decide +kernel
theorem dX12_readAct_49 : decode cX12_readAct 49 = .ok (.ireturn, 1) := by decide +kernel
theorem dX12_readAct_50 : decode cX12_readAct 50 = .ok (.iconst 0, 1) := by decide +kernel
theorem dX12_readAct_51 : decode cX12_readAct 51 = .ok (.istore_n 2, 1) := by decide +kernel
theorem dX12_readAct_52 : decode cX12_readAct 52 = .ok (.iload_n 2, 1) := by decide +kernel
theorem dX12_readAct_53 : decode cX12_readAct 53 = .ok (.iload_n 1, 1) := by decide +kernel
theorem dX12_readAct_54 : decode cX12_readAct 54 = .ok (.if_icmp .ge 31, 3) := by decide +kernel
theorem dX12_readAct_57 : decode cX12_readAct 57 = .ok (.aload_n 0, 1) := by decide +kernel
theorem dX12_readAct_58 : decode cX12_readAct 58 = .ok (.getfield 40, 3) := by decide +kernel
theorem dX12_readAct_61 : decode cX12_readAct 61 = .ok (.iconst 3, 1) := by decide +kernel
theorem dX12_readAct_62 : decode cX12_readAct 62 = .ok (.iload_n 2, 1) := by decide +kernel
theorem dX12_readAct_63 : decode cX12_readAct 63 = .ok (.iadd, 1) := by decide +kernel
theorem dX12_readAct_64 : decode cX12_readAct 64 = .ok (.laload, 1) := by decide +kernel
theorem dX12_readAct_65 : decode cX12_readAct 65 = .ok (.aload_n 0, 1) := by decide +kernel
theorem dX12_readAct_66 : decode cX12_readAct 66 = .ok (.getfield 255, 3) := by decide +kernel
theorem dX12_readAct_69 : decode cX12_readAct 69 = .ok (.lcmp, 1) := by decide +kernel
theorem dX12_readAct_70 : decode cX12_readAct 70 = .ok (.ifCond .ne 9, 3) := by decide +kernel
theorem dX12_readAct_73 : decode cX12_readAct 73 = .ok (.aload_n 0, 1) := by decide +kernel
theorem dX12_readAct_74 : decode cX12_readAct 74 = .ok (.iconst 3, 1) := by decide +kernel
theorem dX12_readAct_75 : decode cX12_readAct 75 = .ok (.invokevirtual 268, 3) := by decide +kernel
theorem dX12_readAct_78 : decode cX12_readAct 78 = .ok (.ireturn, 1) := by decide +kernel
theorem dX12_readAct_79 : decode cX12_readAct 79 = .ok (.iinc 2 1, 3) := by decide +kernel
theorem dX12_readAct_82 : decode cX12_readAct 82 = .ok (.goto (-30), 3) := by decide +kernel
theorem dX12_readAct_85 : decode cX12_readAct 85 = .ok (.aload_n 0, 1) := by decide +kernel
theorem dX12_readAct_86 : decode cX12_readAct 86 = .ok (.getfield 40, 3) := by decide +kernel
theorem dX12_readAct_89 : decode cX12_readAct 89 = .ok (.iconst 3, 1) := by decide +kernel
theorem dX12_readAct_90 : decode cX12_readAct 90 = .ok (.iload_n 1, 1) := by decide +kernel
theorem dX12_readAct_91 : decode cX12_readAct 91 = .ok (.iadd, 1) := by decide +kernel
theorem dX12_readAct_92 : decode cX12_readAct 92 = .ok (.aload_n 0, 1) := by decide +kernel
theorem dX12_readAct_93 : decode cX12_readAct 93 = .ok (.getfield 255, 3) := by decide +kernel
theorem dX12_readAct_96 : decode cX12_readAct 96 = .ok (.lastore, 1) := by decide +kernel
theorem dX12_readAct_97 : decode cX12_readAct 97 = .ok (.aload_n 0, 1) := by decide +kernel
theorem dX12_readAct_98 : decode cX12_readAct 98 = .ok (.invokevirtual 271, 3) := by decide +kernel
theorem dX12_readAct_101 : decode cX12_readAct 101 = .ok (.aload_n 0, 1) := by decide +kernel
theorem dX12_readAct_102 : decode cX12_readAct 102 = .ok (.getfield 242, 3) := by decide +kernel
theorem dX12_readAct_105 : decode cX12_readAct 105 = .ok (.iconst 2, 1) := by decide +kernel
theorem dX12_readAct_106 : decode cX12_readAct 106 = .ok (.if_icmp .eq 9, 3) := by decide +kernel
theorem dX12_readAct_109 : decode cX12_readAct 109 = .ok (.aload_n 0, 1) := by decide +kernel
theorem dX12_readAct_110 : decode cX12_readAct 110 = .ok (.iconst 1, 1) := by decide +kernel
theorem dX12_readAct_111 : decode cX12_readAct 111 = .ok (.invokevirtual 268, 3) := by decide +kernel
theorem dX12_readAct_114 : decode cX12_readAct 114 = .ok (.ireturn, 1) := by decide +kernel
theorem dX12_readAct_115 : decode cX12_readAct 115 = .ok (.aload_n 0, 1) := by decide +kernel
theorem dX12_readAct_116 : decode cX12_readAct 116 = .ok (.getfield 252, 3) := by decide +kernel
theorem dX12_readAct_119 : decode cX12_readAct 119 = .ok (.iconst 2, 1) := by decide +kernel
theorem dX12_readAct_120 : decode cX12_readAct 120 = .ok (.iconst 4, 1) := by decide +kernel
theorem dX12_readAct_121 : decode cX12_readAct 121 = .ok (.invokestatic 451, 3) := by decide +kernel
theorem dX12_readAct_124 : decode cX12_readAct 124 = .ok (.ifCond .ne 9, 3) := by decide +kernel
theorem dX12_readAct_127 : decode cX12_readAct 127 = .ok (.aload_n 0, 1) := by decide +kernel
theorem dX12_readAct_128 : decode cX12_readAct 128 = .ok (.iconst 2, 1) := by decide +kernel
theorem dX12_readAct_129 : decode cX12_readAct 129 = .ok (.invokevirtual 268, 3) := by decide +kernel
theorem dX12_readAct_132 : decode cX12_readAct 132 = .ok (.ireturn, 1) := by decide +kernel
theorem dX12_readAct_133 : decode cX12_readAct 133 = .ok (.aload_n 0, 1) := by decide +kernel
theorem dX12_readAct_134 : decode cX12_readAct 134 = .ok (.getfield 37, 3) := by decide +kernel
theorem dX12_readAct_137 : decode cX12_readAct 137 = .ok (.iconst 4, 1) := by decide +kernel
theorem dX12_readAct_138 : decode cX12_readAct 138 = .ok (.iload_n 1, 1) := by decide +kernel
theorem dX12_readAct_139 : decode cX12_readAct 139 = .ok (.iadd, 1) := by decide +kernel
theorem dX12_readAct_140 : decode cX12_readAct 140 = .ok (.aload_n 0, 1) := by decide +kernel
theorem dX12_readAct_141 : decode cX12_readAct 141 = .ok (.getfield 252, 3) := by decide +kernel
theorem dX12_readAct_144 : decode cX12_readAct 144 = .ok (.iastore, 1) := by decide +kernel
theorem dX12_readAct_145 : decode cX12_readAct 145 = .ok (.aload_n 0, 1) := by decide +kernel
theorem dX12_readAct_146 : decode cX12_readAct 146 = .ok (.getfield 37, 3) := by decide +kernel
theorem dX12_readAct_149 : decode cX12_readAct 149 = .ok (.iconst 1, 1) := by decide +kernel
theorem dX12_readAct_150 : decode cX12_readAct 150 = .ok (.dup2, 1) := by decide +kernel
theorem dX12_readAct_151 : decode cX12_readAct 151 = .ok (.iaload, 1) := by decide +kernel
theorem dX12_readAct_152 : decode cX12_readAct 152 = .ok (.iconst 1, 1) := by decide +kernel
theorem dX12_readAct_153 : decode cX12_readAct 153 = .ok (.iadd, 1) := by decide +kernel
theorem dX12_readAct_154 : decode cX12_readAct 154 = .ok (.iastore, 1) := by decide +kernel
theorem dX12_readAct_155 : decode cX12_readAct 155 = .ok (.aload_n 0, 1) := by decide +kernel
theorem dX12_readAct_156 : decode cX12_readAct 156 = .ok (.invokevirtual 271, 3) := by decide +kernel
theorem dX12_readAct_159 : decode cX12_readAct 159 = .ok (.iconst 1, 1) := by decide +kernel
theorem dX12_readAct_160 : decode cX12_readAct 160 = .ok (.ireturn, 1) := by decide +kernel
theorem dX12_world_0 : decode cX12_world 0 = .ok (.aload_n 0, 1) := by decide +kernel
theorem dX12_world_1 : decode cX12_world 1 = .ok (.iconst 0, 1) := by decide +kernel
theorem dX12_world_2 : decode cX12_world 2 = .ok (.putfield 1, 3) := by decide +kernel
theorem dX12_world_5 : decode cX12_world 5 = .ok (.aload_n 0, 1) := by decide +kernel
theorem dX12_world_6 : decode cX12_world 6 = .ok (.sipush 900, 3) := by decide +kernel
theorem dX12_world_9 : decode cX12_world 9 = .ok (.invokevirtual 454, 3) := by decide +kernel
theorem dX12_world_12 : decode cX12_world 12 = .ok (.aload_n 0, 1) := by decide +kernel
theorem dX12_world_13 : decode cX12_world 13 = .ok (.iconst 0, 1) := by decide +kernel
theorem dX12_world_14 : decode cX12_world 14 = .ok (.putfield 259, 3) := by decide +kernel
theorem dX12_world_17 : decode cX12_world 17 = .ok (.aload_n 0, 1) := by decide +kernel
theorem dX12_world_18 : decode cX12_world 18 = .ok (.iconst 0, 1) := by decide +kernel
theorem dX12_world_19 : decode cX12_world 19 = .ok (.putfield 457, 3) := by decide +kernel
theorem dX12_world_22 : decode cX12_world 22 = .ok (.aload_n 0, 1) := by decide +kernel
theorem dX12_world_23 : decode cX12_world 23 = .ok (.iconst 0, 1) := by decide +kernel
theorem dX12_world_24 : decode cX12_world 24 = .ok (.putfield 437, 3) := by decide +kernel
theorem dX12_world_27 : decode cX12_world 27 = .ok (.aload_n 0, 1) := by decide +kernel
theorem dX12_world_28 : decode cX12_world 28 = .ok (.invokevirtual 223, 3) := by decide +kernel
theorem dX12_world_31 : decode cX12_world 31 = .ok (.aload_n 0, 1) := by decide +kernel
theorem dX12_world_32 : decode cX12_world 32 = .ok (.iconst 3, 1) := by decide +kernel
theorem dX12_world_33 : decode cX12_world 33 = .ok (.putfield 418, 3) := by decide +kernel
theorem dX12_world_36 : decode cX12_world 36 = .ok (.aload_n 0, 1) := by decide +kernel
theorem dX12_world_37 : decode cX12_world 37 = .ok (.iconst 1, 1) := by decide +kernel
theorem dX12_world_38 : decode cX12_world 38 = .ok (.putfield 415, 3) := by decide +kernel
theorem dX12_world_41 : decode cX12_world 41 = .ok (.aload_n 0, 1) := by decide +kernel
theorem dX12_world_42 : decode cX12_world 42 = .ok (.invokevirtual 460, 3) := by decide +kernel
theorem dX12_world_45 : decode cX12_world 45 = .ok (.aload_n 0, 1) := by decide +kernel
theorem dX12_world_46 : decode cX12_world 46 = .ok (.invokevirtual 271, 3) := by decide +kernel
theorem dX12_world_49 : decode cX12_world 49 = .ok (.aload_n 0, 1) := by decide +kernel
theorem dX12_world_50 : decode cX12_world 50 = .ok (.getfield 242, 3) := by decide +kernel
theorem dX12_world_53 : decode cX12_world 53 = .ok (.ifCond .eq 39, 3) := by decide +kernel
theorem dX12_world_56 : decode cX12_world 56 = .ok (.aload_n 0, 1) := by decide +kernel
theorem dX12_world_57 : decode cX12_world 57 = .ok (.invokevirtual 463, 3) := by decide +kernel
theorem dX12_world_60 : decode cX12_world 60 = .ok (.ifCond .eq 12, 3) := by decide +kernel
theorem dX12_world_63 : decode cX12_world 63 = .ok (.aload_n 0, 1) := by decide +kernel
theorem dX12_world_64 : decode cX12_world 64 = .ok (.bipush 59, 2) := by decide +kernel
theorem dX12_world_66 : decode cX12_world 66 = .ok (.invokevirtual 409, 3) := by decide +kernel
theorem dX12_world_69 : decode cX12_world 69 = .ok (.ifCond .ne 10, 3) := by decide +kernel
theorem dX12_world_72 : decode cX12_world 72 = .ok (.iconst (-1), 1) := by decide +kernel
theorem dX12_world_73 : decode cX12_world 73 = .ok (.aload_n 0, 1) := by decide +kernel
theorem dX12_world_74 : decode cX12_world 74 = .ok (.getfield 262, 3) := by decide +kernel
theorem dX12_world_77 : decode cX12_world 77 = .ok (.isub, 1) := by decide +kernel
theorem dX12_world_78 : decode cX12_world 78 = .ok (.ireturn, 1) := by decide +kernel
theorem dX12_world_79 : decode cX12_world 79 = .ok (.aload_n 0, 1) := by decide +kernel
theorem dX12_world_80 : decode cX12_world 80 = .ok (.dup, 1) := by decide +kernel
theorem dX12_world_81 : decode cX12_world 81 = .ok (.getfield 457, 3) := by decide +kernel
theorem dX12_world_84 : decode cX12_world 84 = .ok (.iconst 1, 1) := by decide +kernel
theorem dX12_world_85 : decode cX12_world 85 = .ok (.iadd, 1) := by decide +kernel
theorem dX12_world_86 : decode cX12_world 86 = .ok (.putfield 457, 3) := by decide +kernel
theorem dX12_world_89 : decode cX12_world 89 = .ok (.goto (-40), 3) := by decide +kernel
theorem dX12_world_92 : decode cX12_world 92 = .ok (.iconst 0, 1) := by decide +kernel
theorem dX12_world_93 : decode cX12_world 93 = .ok (.istore_n 1, 1) := by decide +kernel
theorem dX12_world_94 : decode cX12_world 94 = .ok (.iload_n 1, 1) := by decide +kernel
theorem dX12_world_95 : decode cX12_world 95 = .ok (.sipush 1173, 3) := by decide +kernel
theorem dX12_world_98 : decode cX12_world 98 = .ok (.if_icmp .ge 21, 3) := by decide +kernel
theorem dX12_world_101 : decode cX12_world 101 = .ok (.aload_n 0, 1) := by decide +kernel
theorem dX12_world_102 : decode cX12_world 102 = .ok (.getfield 33, 3) := by decide +kernel
theorem dX12_world_105 : decode cX12_world 105 = .ok (.iload_n 1, 1) := by decide +kernel
theorem dX12_world_106 : decode cX12_world 106 = .ok (.aload_n 0, 1) := by decide +kernel
theorem dX12_world_107 : decode cX12_world 107 = .ok (.getfield 37, 3) := by decide +kernel
theorem dX12_world_110 : decode cX12_world 110 = .ok (.iload_n 1, 1) := by decide +kernel
theorem dX12_world_111 : decode cX12_world 111 = .ok (.iaload, 1) := by decide +kernel
theorem dX12_world_112 : decode cX12_world 112 = .ok (.iastore, 1) := by decide +kernel
theorem dX12_world_113 : decode cX12_world 113 = .ok (.iinc 1 1, 3) := by decide +kernel
theorem dX12_world_116 : decode cX12_world 116 = .ok (.goto (-22), 3) := by decide +kernel
theorem dX12_world_119 : decode cX12_world 119 = .ok (.iconst 0, 1) := by decide +kernel
theorem dX12_world_120 : decode cX12_world 120 = .ok (.istore_n 1, 1) := by decide +kernel
theorem dX12_world_121 : decode cX12_world 121 = .ok (.iload_n 1, 1) := by decide +kernel
theorem dX12_world_122 : decode cX12_world 122 = .ok (.iconst 3, 1) := by decide +kernel
theorem dX12_world_123 : decode cX12_world 123 = .ok (.if_icmp .ge 23, 3) := by decide +kernel
theorem dX12_world_126 : decode cX12_world 126 = .ok (.aload_n 0, 1) := by decide +kernel
theorem dX12_world_127 : decode cX12_world 127 = .ok (.getfield 40, 3) := by decide +kernel
theorem dX12_world_130 : decode cX12_world 130 = .ok (.iload_n 1, 1) := by decide +kernel
theorem dX12_world_131 : decode cX12_world 131 = .ok (.aload_n 0, 1) := by decide +kernel
theorem dX12_world_132 : decode cX12_world 132 = .ok (.getfield 40, 3) := by decide +kernel
theorem dX12_world_135 : decode cX12_world 135 = .ok (.iconst 3, 1) := by decide +kernel
theorem dX12_world_136 : decode cX12_world 136 = .ok (.iload_n 1, 1) := by decide +kernel
theorem dX12_world_137 : decode cX12_world 137 = .ok (.iadd, 1) := by decide +kernel
theorem dX12_world_138 : decode cX12_world 138 = .ok (.laload, 1) := by decide +kernel
theorem dX12_world_139 : decode cX12_world 139 = .ok (.lastore, 1) := by decide +kernel
theorem dX12_world_140 : decode cX12_world 140 = .ok (.iinc 1 1, 3) := by decide +kernel
theorem dX12_world_143 : decode cX12_world 143 = .ok (.goto (-22), 3) := by decide +kernel
theorem dX12_world_146 : decode cX12_world 146 = .ok (.aload_n 0, 1) := by decide +kernel
theorem dX12_world_147 : decode cX12_world 147 = .ok (.iconst (-1), 1) := by decide +kernel
theorem dX12_world_148 : decode cX12_world 148 = .ok (.putfield 91, 3) := by decide +kernel
theorem dX12_world_151 : decode cX12_world 151 = .ok (.aload_n 0, 1) := by decide +kernel
theorem dX12_world_152 : decode cX12_world 152 = .ok (.invokevirtual 226, 3) := by decide +kernel
theorem dX12_world_155 : decode cX12_world 155 = .ok (.aload_n 0, 1) := by decide +kernel
theorem dX12_world_156 : decode cX12_world 156 = .ok (.getfield 457, 3) := by decide +kernel
theorem dX12_world_159 : decode cX12_world 159 = .ok (.ireturn, 1) := by decide +kernel
theorem dX12_fault_0 : decode cX12_fault 0 = .ok (.aload_n 0, 1) := by decide +kernel
theorem dX12_fault_1 : decode cX12_fault 1 = .ok (.iconst 0, 1) := by decide +kernel
theorem dX12_fault_2 : decode cX12_fault 2 = .ok (.putfield 1, 3) := by decide +kernel
theorem dX12_fault_5 : decode cX12_fault 5 = .ok (.aload_n 0, 1) := by decide +kernel
theorem dX12_fault_6 : decode cX12_fault 6 = .ok (.getfield 259, 3) := by decide +kernel
theorem dX12_fault_9 : decode cX12_fault 9 = .ok (.ireturn, 1) := by decide +kernel
theorem dX12_isAct_0 : decode cX12_isAct 0 = .ok (.iload_n 1, 1) := by decide +kernel
theorem dX12_isAct_1 : decode cX12_isAct 1 = .ok (.iconst 0, 1) := by decide +kernel
theorem dX12_isAct_2 : decode cX12_isAct 2 = .ok (.aload_n 0, 1) := by decide +kernel
theorem dX12_isAct_3 : decode cX12_isAct 3 = .ok (.getfield 33, 3) := by decide +kernel
theorem dX12_isAct_6 : decode cX12_isAct 6 = .ok (.iconst 1, 1) := by decide +kernel
theorem dX12_isAct_7 : decode cX12_isAct 7 = .ok (.iaload, 1) := by decide +kernel
theorem dX12_isAct_8 : decode cX12_isAct 8 = .ok (.iconst 1, 1) := by decide +kernel
theorem dX12_isAct_9 : decode cX12_isAct 9 = .ok (.isub, 1) := by decide +kernel
theorem dX12_isAct_10 : decode cX12_isAct 10 = .ok (.invokestatic 451, 3) := by decide +kernel
theorem dX12_isAct_13 : decode cX12_isAct 13 = .ok (.ireturn, 1) := by decide +kernel
theorem dX12_isLaw_0 : decode cX12_isLaw 0 = .ok (.iload_n 1, 1) := by decide +kernel
theorem dX12_isLaw_1 : decode cX12_isLaw 1 = .ok (.iconst 0, 1) := by decide +kernel
theorem dX12_isLaw_2 : decode cX12_isLaw 2 = .ok (.aload_n 0, 1) := by decide +kernel
theorem dX12_isLaw_3 : decode cX12_isLaw 3 = .ok (.getfield 33, 3) := by decide +kernel
theorem dX12_isLaw_6 : decode cX12_isLaw 6 = .ok (.iconst 2, 1) := by decide +kernel
theorem dX12_isLaw_7 : decode cX12_isLaw 7 = .ok (.iaload, 1) := by decide +kernel
theorem dX12_isLaw_8 : decode cX12_isLaw 8 = .ok (.iconst 1, 1) := by decide +kernel
theorem dX12_isLaw_9 : decode cX12_isLaw 9 = .ok (.isub, 1) := by decide +kernel
theorem dX12_isLaw_10 : decode cX12_isLaw 10 = .ok (.invokestatic 451, 3) := by decide +kernel
theorem dX12_isLaw_13 : decode cX12_isLaw 13 = .ok (.ireturn, 1) := by decide +kernel
theorem dX12_act_0 : decode cX12_act 0 = .ok (.aload_n 0, 1) := by decide +kernel
theorem dX12_act_1 : decode cX12_act 1 = .ok (.iconst 0, 1) := by decide +kernel
theorem dX12_act_2 : decode cX12_act 2 = .ok (.putfield 1, 3) := by decide +kernel
theorem dX12_act_5 : decode cX12_act 5 = .ok (.aload_n 0, 1) := by decide +kernel
theorem dX12_act_6 : decode cX12_act 6 = .ok (.iload_n 1, 1) := by decide +kernel
theorem dX12_act_7 : decode cX12_act 7 = .ok (.invokevirtual 466, 3) := by decide +kernel
theorem dX12_act_10 : decode cX12_act 10 = .ok (.ifCond .eq 14, 3) := by decide +kernel
theorem dX12_act_13 : decode cX12_act 13 = .ok (.aload_n 0, 1) := by decide +kernel
theorem dX12_act_14 : decode cX12_act 14 = .ok (.getfield 33, 3) := by decide +kernel
theorem dX12_act_17 : decode cX12_act 17 = .ok (.iconst 4, 1) := by decide +kernel
theorem dX12_act_18 : decode cX12_act 18 = .ok (.iload_n 1, 1) := by decide +kernel
theorem dX12_act_19 : decode cX12_act 19 = .ok (.iadd, 1) := by decide +kernel
theorem dX12_act_20 : decode cX12_act 20 = .ok (.iaload, 1) := by decide +kernel
theorem dX12_act_21 : decode cX12_act 21 = .ok (.goto 4, 3) := by decide +kernel
theorem dX12_act_24 : decode cX12_act 24 = .ok (.iconst (-1), 1) := by decide +kernel
theorem dX12_act_25 : decode cX12_act 25 = .ok (.ireturn, 1) := by decide +kernel
theorem dX12_law_0 : decode cX12_law 0 = .ok (.aload_n 0, 1) := by decide +kernel
theorem dX12_law_1 : decode cX12_law 1 = .ok (.iconst 0, 1) := by decide +kernel
theorem dX12_law_2 : decode cX12_law 2 = .ok (.putfield 1, 3) := by decide +kernel
theorem dX12_law_5 : decode cX12_law 5 = .ok (.aload_n 0, 1) := by decide +kernel
theorem dX12_law_6 : decode cX12_law 6 = .ok (.iload_n 1, 1) := by decide +kernel
theorem dX12_law_7 : decode cX12_law 7 = .ok (.invokevirtual 469, 3) := by decide +kernel
theorem dX12_law_10 : decode cX12_law 10 = .ok (.ifCond .eq 12, 3) := by decide +kernel
theorem dX12_law_13 : decode cX12_law 13 = .ok (.iload_n 2, 1) := by decide +kernel
theorem dX12_law_14 : decode cX12_law 14 = .ok (.iconst 0, 1) := by decide +kernel
theorem dX12_law_15 : decode cX12_law 15 = .ok (.iconst 1, 1) := by decide +kernel
theorem dX12_law_16 : decode cX12_law 16 = .ok (.invokestatic 451, 3) := by decide +kernel
theorem dX12_law_19 : decode cX12_law 19 = .ok (.ifCond .ne 7, 3) := by decide +kernel
theorem dX12_law_22 : decode cX12_law 22 = .ok (.iconst (-1), 1) := by decide +kernel
theorem dX12_law_23 : decode cX12_law 23 = .ok (.goto 40, 3) := by decide +kernel
theorem dX12_law_26 : decode cX12_law 26 = .ok (.iload_n 2, 1) := by decide +kernel
theorem dX12_law_27 : decode cX12_law 27 = .ok (.ifCond .ne 15, 3) := by decide +kernel
theorem dX12_law_30 : decode cX12_law 30 = .ok (.aload_n 0, 1) := by decide +kernel
theorem dX12_law_31 : decode cX12_law 31 = .ok (.getfield 33, 3) := by decide +kernel
theorem dX12_law_34 : decode cX12_law 34 = .ok (.bipush 7, 2) := by decide +kernel
theorem dX12_law_36 : decode cX12_law 36 = .ok (.iload_n 1, 1) := by decide +kernel
theorem dX12_law_37 : decode cX12_law 37 = .ok (.iadd, 1) := by decide +kernel
theorem dX12_law_38 : decode cX12_law 38 = .ok (.iaload, 1) := by decide +kernel
theorem dX12_law_39 : decode cX12_law 39 = .ok (.goto 24, 3) := by decide +kernel
theorem dX12_law_42 : decode cX12_law 42 = .ok (.aload_n 0, 1) := by decide +kernel
theorem dX12_law_43 : decode cX12_law 43 = .ok (.getfield 33, 3) := by decide +kernel
theorem dX12_law_46 : decode cX12_law 46 = .ok (.bipush 25, 2) := by decide +kernel
theorem dX12_law_48 : decode cX12_law 48 = .ok (.iload_n 1, 1) := by decide +kernel
theorem dX12_law_49 : decode cX12_law 49 = .ok (.iadd, 1) := by decide +kernel
theorem dX12_law_50 : decode cX12_law 50 = .ok (.iconst 1, 1) := by decide +kernel
theorem dX12_law_51 : decode cX12_law 51 = .ok (.iadd, 1) := by decide +kernel
theorem dX12_law_52 : decode cX12_law 52 = .ok (.iaload, 1) := by decide +kernel
theorem dX12_law_53 : decode cX12_law 53 = .ok (.aload_n 0, 1) := by decide +kernel
theorem dX12_law_54 : decode cX12_law 54 = .ok (.getfield 33, 3) := by decide +kernel
theorem dX12_law_57 : decode cX12_law 57 = .ok (.bipush 25, 2) := by decide +kernel
theorem dX12_law_59 : decode cX12_law 59 = .ok (.iload_n 1, 1) := by decide +kernel
theorem dX12_law_60 : decode cX12_law 60 = .ok (.iadd, 1) := by decide +kernel
theorem dX12_law_61 : decode cX12_law 61 = .ok (.iaload, 1) := by decide +kernel
theorem dX12_law_62 : decode cX12_law 62 = .ok (.isub, 1) := by decide +kernel
theorem dX12_law_63 : decode cX12_law 63 = .ok (.ireturn, 1) := by decide +kernel
theorem dX12_trees_0 : decode cX12_trees 0 = .ok (.aload_n 0, 1) := by decide +kernel
theorem dX12_trees_1 : decode cX12_trees 1 = .ok (.iconst 0, 1) := by decide +kernel
theorem dX12_trees_2 : decode cX12_trees 2 = .ok (.putfield 1, 3) := by decide +kernel
theorem dX12_trees_5 : decode cX12_trees 5 = .ok (.iload_n 1, 1) := by decide +kernel
theorem dX12_trees_6 : decode cX12_trees 6 = .ok (.iconst 1, 1) := by decide +kernel
theorem dX12_trees_7 : decode cX12_trees 7 = .ok (.bipush 10, 2) := by decide +kernel
theorem dX12_trees_9 : decode cX12_trees 9 = .ok (.invokestatic 451, 3) := by decide +kernel
theorem dX12_trees_12 : decode cX12_trees 12 = .ok (.ifCond .ne 7, 3) := by decide +kernel
theorem dX12_trees_15 : decode cX12_trees 15 = .ok (.ldc2_w 472, 3) := by decide +kernel
theorem dX12_trees_18 : decode cX12_trees 18 = .ok (.lreturn, 1) := by decide +kernel
theorem dX12_trees_19 : decode cX12_trees 19 = .ok (.aload_n 0, 1) := by decide +kernel
theorem dX12_trees_20 : decode cX12_trees 20 = .ok (.invokevirtual 373, 3) := by decide +kernel
theorem dX12_trees_23 : decode cX12_trees 23 = .ok (.aload_n 0, 1) := by decide +kernel
theorem dX12_trees_24 : decode cX12_trees 24 = .ok (.iconst 0, 1) := by decide +kernel
theorem dX12_trees_25 : decode cX12_trees 25 = .ok (.invokevirtual 342, 3) := by decide +kernel
theorem dX12_trees_28 : decode cX12_trees 28 = .ok (.aload_n 0, 1) := by decide +kernel
theorem dX12_trees_29 : decode cX12_trees 29 = .ok (.getfield 94, 3) := by decide +kernel
theorem dX12_trees_32 : decode cX12_trees 32 = .ok (.iload_n 1, 1) := by decide +kernel
theorem dX12_trees_33 : decode cX12_trees 33 = .ok (.laload, 1) := by decide +kernel
theorem dX12_trees_34 : decode cX12_trees 34 = .ok (.lreturn, 1) := by decide +kernel
theorem dX12_hold_0 : decode cX12_hold 0 = .ok (.aload_n 0, 1) := by decide +kernel
theorem dX12_hold_1 : decode cX12_hold 1 = .ok (.getfield 229, 3) := by decide +kernel
theorem dX12_hold_4 : decode cX12_hold 4 = .ok (.bipush 8, 2) := by decide +kernel
theorem dX12_hold_6 : decode cX12_hold 6 = .ok (.if_icmp .ne 44, 3) := by decide +kernel
theorem dX12_hold_9 : decode cX12_hold 9 = .ok (.iconst 0, 1) := by decide +kernel
theorem dX12_hold_10 : decode cX12_hold 10 = .ok (.istore_n 1, 1) := by decide +kernel
theorem dX12_hold_11 : decode cX12_hold 11 = .ok (.iload_n 1, 1) := by decide +kernel
theorem dX12_hold_12 : decode cX12_hold 12 = .ok (.sipush 18214, 3) := by decide +kernel
theorem dX12_hold_15 : decode cX12_hold 15 = .ok (.if_icmp .ge 25, 3) := by decide +kernel
theorem dX12_hold_18 : decode cX12_hold 18 = .ok (.aload_n 0, 1) := by decide +kernel
theorem dX12_hold_19 : decode cX12_hold 19 = .ok (.getfield 124, 3) := by decide +kernel
theorem dX12_hold_22 : decode cX12_hold 22 = .ok (.iload_n 1, 1) := by decide +kernel
theorem dX12_hold_23 : decode cX12_hold 23 = .ok (.aload_n 0, 1) := by decide +kernel
theorem dX12_hold_24 : decode cX12_hold 24 = .ok (.getfield 124, 3) := by decide +kernel
theorem dX12_hold_27 : decode cX12_hold 27 = .ok (.iload_n 1, 1) := by decide +kernel
theorem dX12_hold_28 : decode cX12_hold 28 = .ok (.sipush 2602, 3) := by decide +kernel
theorem dX12_hold_31 : decode cX12_hold 31 = .ok (.iadd, 1) := by decide +kernel
theorem dX12_hold_32 : decode cX12_hold 32 = .ok (.iaload, 1) := by decide +kernel
theorem dX12_hold_33 : decode cX12_hold 33 = .ok (.iastore, 1) := by decide +kernel
theorem dX12_hold_34 : decode cX12_hold 34 = .ok (.iinc 1 1, 3) := by decide +kernel
theorem dX12_hold_37 : decode cX12_hold 37 = .ok (.goto (-26), 3) := by decide +kernel
theorem dX12_hold_40 : decode cX12_hold 40 = .ok (.aload_n 0, 1) := by decide +kernel
theorem dX12_hold_41 : decode cX12_hold 41 = .ok (.dup, 1) := by decide +kernel
theorem dX12_hold_42 : decode cX12_hold 42 = .ok (.getfield 229, 3) := by decide +kernel
theorem dX12_hold_45 : decode cX12_hold 45 = .ok (.iconst 1, 1) := by decide +kernel
theorem dX12_hold_46 : decode cX12_hold 46 = .ok (.isub, 1) := by decide +kernel
theorem dX12_hold_47 : decode cX12_hold 47 = .ok (.putfield 229, 3) := by decide +kernel
theorem dX12_hold_50 : decode cX12_hold 50 = .ok (.iconst 0, 1) := by decide +kernel
theorem dX12_hold_51 : decode cX12_hold 51 = .ok (.istore_n 1, 1) := by decide +kernel
theorem dX12_hold_52 : decode cX12_hold 52 = .ok (.iload_n 1, 1) := by decide +kernel
theorem dX12_hold_53 : decode cX12_hold 53 = .ok (.sipush 2602, 3) := by decide +kernel
theorem dX12_hold_56 : decode cX12_hold 56 = .ok (.if_icmp .ge 34, 3) := by decide +kernel
theorem dX12_hold_59 : decode cX12_hold 59 = .ok (.aload_n 0, 1) := by decide +kernel
theorem dX12_hold_60 : decode cX12_hold 60 = .ok (.getfield 124, 3) := by decide +kernel
theorem dX12_hold_63 : decode cX12_hold 63 = .ok (.sipush 2602, 3) := by decide +kernel
theorem dX12_hold_66 : decode cX12_hold 66 = .ok (.aload_n 0, 1) := by decide +kernel
theorem dX12_hold_67 : decode cX12_hold 67 = .ok (.getfield 229, 3) := by decide +kernel
theorem dX12_hold_70 : decode cX12_hold 70 = .ok (.imul, 1) := by decide +kernel
theorem dX12_hold_71 : decode cX12_hold 71 = .ok (.iload_n 1, 1) := by decide +kernel
theorem dX12_hold_72 : decode cX12_hold 72 = .ok (.iadd, 1) := by decide +kernel
theorem dX12_hold_73 : decode cX12_hold 73 = .ok (.aload_n 0, 1) := by decide +kernel
theorem dX12_hold_74 : decode cX12_hold 74 = .ok (.getfield 33, 3) := by decide +kernel
theorem dX12_hold_77 : decode cX12_hold 77 = .ok (.sipush 1173, 3) := by decide +kernel
theorem dX12_hold_80 : decode cX12_hold 80 = .ok (.iload_n 1, 1) := by decide +kernel
theorem dX12_hold_81 : decode cX12_hold 81 = .ok (.iadd, 1) := by decide +kernel
theorem dX12_hold_82 : decode cX12_hold 82 = .ok (.iaload, 1) := by decide +kernel
theorem dX12_hold_83 : decode cX12_hold 83 = .ok (.iastore, 1) := by decide +kernel
theorem dX12_hold_84 : decode cX12_hold 84 = .ok (.iinc 1 1, 3) := by decide +kernel
theorem dX12_hold_87 : decode cX12_hold 87 = .ok (.goto (-35), 3) := by decide +kernel
theorem dX12_hold_90 : decode cX12_hold 90 = .ok (.aload_n 0, 1) := by decide +kernel
theorem dX12_hold_91 : decode cX12_hold 91 = .ok (.dup, 1) := by decide +kernel
theorem dX12_hold_92 : decode cX12_hold 92 = .ok (.getfield 229, 3) := by decide +kernel
theorem dX12_hold_95 : decode cX12_hold 95 = .ok (.iconst 1, 1) := by decide +kernel
theorem dX12_hold_96 : decode cX12_hold 96 = .ok (.iadd, 1) := by decide +kernel
theorem dX12_hold_97 : decode cX12_hold 97 = .ok (.putfield 229, 3) := by decide +kernel
theorem dX12_hold_100 : decode cX12_hold 100 = .ok (.return_, 1) := by decide +kernel
theorem dX12_keepSum_0 : decode cX12_keepSum 0 = .ok (.aload_n 0, 1) := by decide +kernel
theorem dX12_keepSum_1 : decode cX12_keepSum 1 = .ok (.invokevirtual 474, 3) := by decide +kernel
theorem dX12_keepSum_4 : decode cX12_keepSum 4 = .ok (.aload_n 0, 1) := by decide +kernel
theorem dX12_keepSum_5 : decode cX12_keepSum 5 = .ok (.getfield 33, 3) := by decide +kernel
theorem dX12_keepSum_8 : decode cX12_keepSum 8 = .ok (.sipush 1173, 3) := by decide +kernel
theorem dX12_keepSum_11 : decode cX12_keepSum 11 = .ok (.aload_n 0, 1) := by decide +kernel
theorem dX12_keepSum_12 : decode cX12_keepSum 12 = .ok (.getfield 382, 3) := by decide +kernel
theorem dX12_keepSum_15 : decode cX12_keepSum 15 = .ok (.iastore, 1) := by decide +kernel
theorem dX12_keepSum_16 : decode cX12_keepSum 16 = .ok (.aload_n 0, 1) := by decide +kernel
theorem dX12_keepSum_17 : decode cX12_keepSum 17 = .ok (.getfield 33, 3) := by decide +kernel
theorem dX12_keepSum_20 : decode cX12_keepSum 20 = .ok (.sipush 1174, 3) := by decide +kernel
theorem dX12_keepSum_23 : decode cX12_keepSum 23 = .ok (.aload_n 0, 1) := by decide +kernel
theorem dX12_keepSum_24 : decode cX12_keepSum 24 = .ok (.getfield 379, 3) := by decide +kernel
theorem dX12_keepSum_27 : decode cX12_keepSum 27 = .ok (.iastore, 1) := by decide +kernel
theorem dX12_keepSum_28 : decode cX12_keepSum 28 = .ok (.iconst 0, 1) := by decide +kernel
theorem dX12_keepSum_29 : decode cX12_keepSum 29 = .ok (.istore_n 1, 1) := by decide +kernel
theorem dX12_keepSum_30 : decode cX12_keepSum 30 = .ok (.iload_n 1, 1) := by decide +kernel
theorem dX12_keepSum_31 : decode cX12_keepSum 31 = .ok (.aload_n 0, 1) := by decide +kernel
theorem dX12_keepSum_32 : decode cX12_keepSum 32 = .ok (.getfield 379, 3) := by decide +kernel
theorem dX12_keepSum_35 : decode cX12_keepSum 35 = .ok (.if_icmp .ge 41, 3) := by decide +kernel
theorem dX12_keepSum_38 : decode cX12_keepSum 38 = .ok (.aload_n 0, 1) := by decide +kernel
theorem dX12_keepSum_39 : decode cX12_keepSum 39 = .ok (.getfield 33, 3) := by decide +kernel
theorem dX12_keepSum_42 : decode cX12_keepSum 42 = .ok (.sipush 1175, 3) := by decide +kernel
theorem dX12_keepSum_45 : decode cX12_keepSum 45 = .ok (.iload_n 1, 1) := by decide +kernel
theorem dX12_keepSum_46 : decode cX12_keepSum 46 = .ok (.iadd, 1) := by decide +kernel
theorem dX12_keepSum_47 : decode cX12_keepSum 47 = .ok (.aload_n 0, 1) := by decide +kernel
theorem dX12_keepSum_48 : decode cX12_keepSum 48 = .ok (.getfield 112, 3) := by decide +kernel
theorem dX12_keepSum_51 : decode cX12_keepSum 51 = .ok (.iload_n 1, 1) := by decide +kernel
theorem dX12_keepSum_52 : decode cX12_keepSum 52 = .ok (.iaload, 1) := by decide +kernel
theorem dX12_keepSum_53 : decode cX12_keepSum 53 = .ok (.iastore, 1) := by decide +kernel
theorem dX12_keepSum_54 : decode cX12_keepSum 54 = .ok (.aload_n 0, 1) := by decide +kernel
theorem dX12_keepSum_55 : decode cX12_keepSum 55 = .ok (.getfield 33, 3) := by decide +kernel
theorem dX12_keepSum_58 : decode cX12_keepSum 58 = .ok (.sipush 2475, 3) := by decide +kernel
theorem dX12_keepSum_61 : decode cX12_keepSum 61 = .ok (.iload_n 1, 1) := by decide +kernel
theorem dX12_keepSum_62 : decode cX12_keepSum 62 = .ok (.iadd, 1) := by decide +kernel
theorem dX12_keepSum_63 : decode cX12_keepSum 63 = .ok (.aload_n 0, 1) := by decide +kernel
theorem dX12_keepSum_64 : decode cX12_keepSum 64 = .ok (.getfield 115, 3) := by decide +kernel
theorem dX12_keepSum_67 : decode cX12_keepSum 67 = .ok (.iload_n 1, 1) := by decide +kernel
theorem dX12_keepSum_68 : decode cX12_keepSum 68 = .ok (.iaload, 1) := by decide +kernel
theorem dX12_keepSum_69 : decode cX12_keepSum 69 = .ok (.iastore, 1) := by decide +kernel
theorem dX12_keepSum_70 : decode cX12_keepSum 70 = .ok (.iinc 1 1, 3) := by decide +kernel
theorem dX12_keepSum_73 : decode cX12_keepSum 73 = .ok (.goto (-43), 3) := by decide +kernel
theorem dX12_keepSum_76 : decode cX12_keepSum 76 = .ok (.aload_n 0, 1) := by decide +kernel
theorem dX12_keepSum_77 : decode cX12_keepSum 77 = .ok (.getfield 379, 3) := by decide +kernel
theorem dX12_keepSum_80 : decode cX12_keepSum 80 = .ok (.ireturn, 1) := by decide +kernel
theorem dX12_undo_0 : decode cX12_undo 0 = .ok (.aload_n 0, 1) := by decide +kernel
theorem dX12_undo_1 : decode cX12_undo 1 = .ok (.iconst 0, 1) := by decide +kernel
theorem dX12_undo_2 : decode cX12_undo 2 = .ok (.putfield 1, 3) := by decide +kernel
theorem dX12_undo_5 : decode cX12_undo 5 = .ok (.aload_n 0, 1) := by decide +kernel
theorem dX12_undo_6 : decode cX12_undo 6 = .ok (.getfield 229, 3) := by decide +kernel
theorem dX12_undo_9 : decode cX12_undo 9 = .ok (.ifCond .ne 5, 3) := by decide +kernel
theorem dX12_undo_12 : decode cX12_undo 12 = .ok (.iconst (-1), 1) := by decide +kernel
theorem dX12_undo_13 : decode cX12_undo 13 = .ok (.ireturn, 1) := by decide +kernel
theorem dX12_undo_14 : decode cX12_undo 14 = .ok (.aload_n 0, 1) := by decide +kernel
theorem dX12_undo_15 : decode cX12_undo 15 = .ok (.dup, 1) := by decide +kernel
theorem dX12_undo_16 : decode cX12_undo 16 = .ok (.getfield 229, 3) := by decide +kernel
theorem dX12_undo_19 : decode cX12_undo 19 = .ok (.iconst 1, 1) := by decide +kernel
theorem dX12_undo_20 : decode cX12_undo 20 = .ok (.isub, 1) := by decide +kernel
theorem dX12_undo_21 : decode cX12_undo 21 = .ok (.putfield 229, 3) := by decide +kernel
theorem dX12_undo_24 : decode cX12_undo 24 = .ok (.iconst 0, 1) := by decide +kernel
theorem dX12_undo_25 : decode cX12_undo 25 = .ok (.istore_n 1, 1) := by decide +kernel
theorem dX12_undo_26 : decode cX12_undo 26 = .ok (.iload_n 1, 1) := by decide +kernel
theorem dX12_undo_27 : decode cX12_undo 27 = .ok (.sipush 2602, 3) := by decide +kernel
theorem dX12_undo_30 : decode cX12_undo 30 = .ok (.if_icmp .ge 34, 3) := by decide +kernel
theorem dX12_undo_33 : decode cX12_undo 33 = .ok (.aload_n 0, 1) := by decide +kernel
theorem dX12_undo_34 : decode cX12_undo 34 = .ok (.getfield 33, 3) := by decide +kernel
theorem dX12_undo_37 : decode cX12_undo 37 = .ok (.sipush 1173, 3) := by decide +kernel
theorem dX12_undo_40 : decode cX12_undo 40 = .ok (.iload_n 1, 1) := by decide +kernel
theorem dX12_undo_41 : decode cX12_undo 41 = .ok (.iadd, 1) := by decide +kernel
theorem dX12_undo_42 : decode cX12_undo 42 = .ok (.aload_n 0, 1) := by decide +kernel
theorem dX12_undo_43 : decode cX12_undo 43 = .ok (.getfield 124, 3) := by decide +kernel
theorem dX12_undo_46 : decode cX12_undo 46 = .ok (.sipush 2602, 3) := by decide +kernel
theorem dX12_undo_49 : decode cX12_undo 49 = .ok (.aload_n 0, 1) := by decide +kernel
theorem dX12_undo_50 : decode cX12_undo 50 = .ok (.getfield 229, 3) := by decide +kernel
theorem dX12_undo_53 : decode cX12_undo 53 = .ok (.imul, 1) := by decide +kernel
theorem dX12_undo_54 : decode cX12_undo 54 = .ok (.iload_n 1, 1) := by decide +kernel
theorem dX12_undo_55 : decode cX12_undo 55 = .ok (.iadd, 1) := by decide +kernel
theorem dX12_undo_56 : decode cX12_undo 56 = .ok (.iaload, 1) := by decide +kernel
theorem dX12_undo_57 : decode cX12_undo 57 = .ok (.iastore, 1) := by decide +kernel
theorem dX12_undo_58 : decode cX12_undo 58 = .ok (.iinc 1 1, 3) := by decide +kernel
theorem dX12_undo_61 : decode cX12_undo 61 = .ok (.goto (-35), 3) := by decide +kernel
theorem dX12_undo_64 : decode cX12_undo 64 = .ok (.aload_n 0, 1) := by decide +kernel
theorem dX12_undo_65 : decode cX12_undo 65 = .ok (.getfield 33, 3) := by decide +kernel
theorem dX12_undo_68 : decode cX12_undo 68 = .ok (.sipush 1174, 3) := by decide +kernel
theorem dX12_undo_71 : decode cX12_undo 71 = .ok (.iaload, 1) := by decide +kernel
theorem dX12_undo_72 : decode cX12_undo 72 = .ok (.ireturn, 1) := by decide +kernel
theorem dX12_addLaw_0 : decode cX12_addLaw 0 = .ok (.aload_n 0, 1) := by decide +kernel
theorem dX12_addLaw_1 : decode cX12_addLaw 1 = .ok (.getfield 33, 3) := by decide +kernel
theorem dX12_addLaw_4 : decode cX12_addLaw 4 = .ok (.bipush 25, 2) := by decide +kernel
theorem dX12_addLaw_6 : decode cX12_addLaw 6 = .ok (.iload_n 1, 1) := by decide +kernel
theorem dX12_addLaw_7 : decode cX12_addLaw 7 = .ok (.iadd, 1) := by decide +kernel
theorem dX12_addLaw_8 : decode cX12_addLaw 8 = .ok (.iaload, 1) := by decide +kernel
theorem dX12_addLaw_9 : decode cX12_addLaw 9 = .ok (.istore_n 3, 1) := by decide +kernel
theorem dX12_addLaw_10 : decode cX12_addLaw 10 = .ok (.iload_n 3, 1) := by decide +kernel
theorem dX12_addLaw_11 : decode cX12_addLaw 11 = .ok (.aload_n 0, 1) := by decide +kernel
theorem dX12_addLaw_12 : decode cX12_addLaw 12 = .ok (.getfield 33, 3) := by decide +kernel
theorem dX12_addLaw_15 : decode cX12_addLaw 15 = .ok (.bipush 25, 2) := by decide +kernel
theorem dX12_addLaw_17 : decode cX12_addLaw 17 = .ok (.iload_n 1, 1) := by decide +kernel
theorem dX12_addLaw_18 : decode cX12_addLaw 18 = .ok (.iadd, 1) := by decide +kernel
theorem dX12_addLaw_19 : decode cX12_addLaw 19 = .ok (.iconst 1, 1) := by decide +kernel
theorem dX12_addLaw_20 : decode cX12_addLaw 20 = .ok (.iadd, 1) := by decide +kernel
theorem dX12_addLaw_21 : decode cX12_addLaw 21 = .ok (.iaload, 1) := by decide +kernel
theorem dX12_addLaw_22 : decode cX12_addLaw 22 = .ok (.if_icmp .ge 48, 3) := by decide +kernel
theorem dX12_addLaw_25 : decode cX12_addLaw 25 = .ok (.aload_n 0, 1) := by decide +kernel
theorem dX12_addLaw_26 : decode cX12_addLaw 26 = .ok (.aload_n 0, 1) := by decide +kernel
theorem dX12_addLaw_27 : decode cX12_addLaw 27 = .ok (.getfield 33, 3) := by decide +kernel
theorem dX12_addLaw_30 : decode cX12_addLaw 30 = .ok (.bipush 44, 2) := by decide +kernel
theorem dX12_addLaw_32 : decode cX12_addLaw 32 = .ok (.iload_n 3, 1) := by decide +kernel
theorem dX12_addLaw_33 : decode cX12_addLaw 33 = .ok (.iadd, 1) := by decide +kernel
theorem dX12_addLaw_34 : decode cX12_addLaw 34 = .ok (.iaload, 1) := by decide +kernel
theorem dX12_addLaw_35 : decode cX12_addLaw 35 = .ok (.aload_n 0, 1) := by decide +kernel
theorem dX12_addLaw_36 : decode cX12_addLaw 36 = .ok (.getfield 33, 3) := by decide +kernel
theorem dX12_addLaw_39 : decode cX12_addLaw 39 = .ok (.sipush 244, 3) := by decide +kernel
theorem dX12_addLaw_42 : decode cX12_addLaw 42 = .ok (.iload_n 3, 1) := by decide +kernel
theorem dX12_addLaw_43 : decode cX12_addLaw 43 = .ok (.iadd, 1) := by decide +kernel
theorem dX12_addLaw_44 : decode cX12_addLaw 44 = .ok (.iaload, 1) := by decide +kernel
theorem dX12_addLaw_45 : decode cX12_addLaw 45 = .ok (.iload_n 2, 1) := by decide +kernel
theorem dX12_addLaw_46 : decode cX12_addLaw 46 = .ok (.imul, 1) := by decide +kernel
theorem dX12_addLaw_47 : decode cX12_addLaw 47 = .ok (.aload_n 0, 1) := by decide +kernel
theorem dX12_addLaw_48 : decode cX12_addLaw 48 = .ok (.getfield 33, 3) := by decide +kernel
theorem dX12_addLaw_51 : decode cX12_addLaw 51 = .ok (.iconst 0, 1) := by decide +kernel
theorem dX12_addLaw_52 : decode cX12_addLaw 52 = .ok (.iaload, 1) := by decide +kernel
theorem dX12_addLaw_53 : decode cX12_addLaw 53 = .ok (.irem, 1) := by decide +kernel
theorem dX12_addLaw_54 : decode cX12_addLaw 54 = .ok (.iconst 0, 1) := by decide +kernel
theorem dX12_addLaw_55 : decode cX12_addLaw 55 = .ok (.aload_n 0, 1) := by decide +kernel
theorem dX12_addLaw_56 : decode cX12_addLaw 56 = .ok (.getfield 33, 3) := by decide +kernel
theorem dX12_addLaw_59 : decode cX12_addLaw 59 = .ok (.iconst 0, 1) := by decide +kernel
theorem dX12_addLaw_60 : decode cX12_addLaw 60 = .ok (.iaload, 1) := by decide +kernel
theorem dX12_addLaw_61 : decode cX12_addLaw 61 = .ok (.invokevirtual 430, 3) := by decide +kernel
theorem dX12_addLaw_64 : decode cX12_addLaw 64 = .ok (.iinc 3 1, 3) := by decide +kernel
theorem dX12_addLaw_67 : decode cX12_addLaw 67 = .ok (.goto (-57), 3) := by decide +kernel
theorem dX12_addLaw_70 : decode cX12_addLaw 70 = .ok (.return_, 1) := by decide +kernel
theorem dX12_addHere_0 : decode cX12_addHere 0 = .ok (.iconst 0, 1) := by decide +kernel
theorem dX12_addHere_1 : decode cX12_addHere 1 = .ok (.istore_n 2, 1) := by decide +kernel
theorem dX12_addHere_2 : decode cX12_addHere 2 = .ok (.iload_n 2, 1) := by decide +kernel
theorem dX12_addHere_3 : decode cX12_addHere 3 = .ok (.aload_n 0, 1) := by decide +kernel
theorem dX12_addHere_4 : decode cX12_addHere 4 = .ok (.getfield 33, 3) := by decide +kernel
theorem dX12_addHere_7 : decode cX12_addHere 7 = .ok (.sipush 1174, 3) := by decide +kernel
theorem dX12_addHere_10 : decode cX12_addHere 10 = .ok (.iaload, 1) := by decide +kernel
theorem dX12_addHere_11 : decode cX12_addHere 11 = .ok (.if_icmp .ge 49, 3) := by decide +kernel
theorem dX12_addHere_14 : decode cX12_addHere 14 = .ok (.aload_n 0, 1) := by decide +kernel
theorem dX12_addHere_15 : decode cX12_addHere 15 = .ok (.aload_n 0, 1) := by decide +kernel
theorem dX12_addHere_16 : decode cX12_addHere 16 = .ok (.getfield 33, 3) := by decide +kernel
theorem dX12_addHere_19 : decode cX12_addHere 19 = .ok (.sipush 1175, 3) := by decide +kernel
theorem dX12_addHere_22 : decode cX12_addHere 22 = .ok (.iload_n 2, 1) := by decide +kernel
theorem dX12_addHere_23 : decode cX12_addHere 23 = .ok (.iadd, 1) := by decide +kernel
theorem dX12_addHere_24 : decode cX12_addHere 24 = .ok (.iaload, 1) := by decide +kernel
theorem dX12_addHere_25 : decode cX12_addHere 25 = .ok (.aload_n 0, 1) := by decide +kernel
theorem dX12_addHere_26 : decode cX12_addHere 26 = .ok (.getfield 33, 3) := by decide +kernel
theorem dX12_addHere_29 : decode cX12_addHere 29 = .ok (.sipush 2475, 3) := by decide +kernel
theorem dX12_addHere_32 : decode cX12_addHere 32 = .ok (.iload_n 2, 1) := by decide +kernel
theorem dX12_addHere_33 : decode cX12_addHere 33 = .ok (.iadd, 1) := by decide +kernel
theorem dX12_addHere_34 : decode cX12_addHere 34 = .ok (.iaload, 1) := by decide +kernel
theorem dX12_addHere_35 : decode cX12_addHere 35 = .ok (.iload_n 1, 1) := by decide +kernel
theorem dX12_addHere_36 : decode cX12_addHere 36 = .ok (.imul, 1) := by decide +kernel
theorem dX12_addHere_37 : decode cX12_addHere 37 = .ok (.aload_n 0, 1) := by decide +kernel
theorem dX12_addHere_38 : decode cX12_addHere 38 = .ok (.getfield 33, 3) := by decide +kernel
theorem dX12_addHere_41 : decode cX12_addHere 41 = .ok (.iconst 0, 1) := by decide +kernel
theorem dX12_addHere_42 : decode cX12_addHere 42 = .ok (.iaload, 1) := by decide +kernel
theorem dX12_addHere_43 : decode cX12_addHere 43 = .ok (.irem, 1) := by decide +kernel
theorem dX12_addHere_44 : decode cX12_addHere 44 = .ok (.iconst 0, 1) := by decide +kernel
theorem dX12_addHere_45 : decode cX12_addHere 45 = .ok (.aload_n 0, 1) := by decide +kernel
theorem dX12_addHere_46 : decode cX12_addHere 46 = .ok (.getfield 33, 3) := by decide +kernel
theorem dX12_addHere_49 : decode cX12_addHere 49 = .ok (.iconst 0, 1) := by decide +kernel
theorem dX12_addHere_50 : decode cX12_addHere 50 = .ok (.iaload, 1) := by decide +kernel
theorem dX12_addHere_51 : decode cX12_addHere 51 = .ok (.invokevirtual 430, 3) := by decide +kernel
theorem dX12_addHere_54 : decode cX12_addHere 54 = .ok (.iinc 2 1, 3) := by decide +kernel
theorem dX12_addHere_57 : decode cX12_addHere 57 = .ok (.goto (-55), 3) := by decide +kernel
theorem dX12_addHere_60 : decode cX12_addHere 60 = .ok (.return_, 1) := by decide +kernel
theorem dX12_rest_0 : decode cX12_rest 0 = .ok (.iload_n 1, 1) := by decide +kernel
theorem dX12_rest_1 : decode cX12_rest 1 = .ok (.aload_n 0, 1) := by decide +kernel
theorem dX12_rest_2 : decode cX12_rest 2 = .ok (.getfield 33, 3) := by decide +kernel
theorem dX12_rest_5 : decode cX12_rest 5 = .ok (.iconst 0, 1) := by decide +kernel
theorem dX12_rest_6 : decode cX12_rest 6 = .ok (.iaload, 1) := by decide +kernel
theorem dX12_rest_7 : decode cX12_rest 7 = .ok (.irem, 1) := by decide +kernel
theorem dX12_rest_8 : decode cX12_rest 8 = .ok (.aload_n 0, 1) := by decide +kernel
theorem dX12_rest_9 : decode cX12_rest 9 = .ok (.getfield 33, 3) := by decide +kernel
theorem dX12_rest_12 : decode cX12_rest 12 = .ok (.iconst 0, 1) := by decide +kernel
theorem dX12_rest_13 : decode cX12_rest 13 = .ok (.iaload, 1) := by decide +kernel
theorem dX12_rest_14 : decode cX12_rest 14 = .ok (.iadd, 1) := by decide +kernel
theorem dX12_rest_15 : decode cX12_rest 15 = .ok (.aload_n 0, 1) := by decide +kernel
theorem dX12_rest_16 : decode cX12_rest 16 = .ok (.getfield 33, 3) := by decide +kernel
theorem dX12_rest_19 : decode cX12_rest 19 = .ok (.iconst 0, 1) := by decide +kernel
theorem dX12_rest_20 : decode cX12_rest 20 = .ok (.iaload, 1) := by decide +kernel
theorem dX12_rest_21 : decode cX12_rest 21 = .ok (.irem, 1) := by decide +kernel
theorem dX12_rest_22 : decode cX12_rest 22 = .ok (.ireturn, 1) := by decide +kernel
theorem dX12_take_0 : decode cX12_take 0 = .ok (.aload_n 0, 1) := by decide +kernel
theorem dX12_take_1 : decode cX12_take 1 = .ok (.iconst 0, 1) := by decide +kernel
theorem dX12_take_2 : decode cX12_take 2 = .ok (.putfield 1, 3) := by decide +kernel
theorem dX12_take_5 : decode cX12_take 5 = .ok (.aload_n 0, 1) := by decide +kernel
theorem dX12_take_6 : decode cX12_take 6 = .ok (.iload_n 1, 1) := by decide +kernel
theorem dX12_take_7 : decode cX12_take 7 = .ok (.invokevirtual 469, 3) := by decide +kernel
theorem dX12_take_10 : decode cX12_take 10 = .ok (.ifCond .ne 5, 3) := by decide +kernel
theorem dX12_take_13 : decode cX12_take 13 = .ok (.iconst (-1), 1) := by decide +kernel
theorem dX12_take_14 : decode cX12_take 14 = .ok (.ireturn, 1) := by decide +kernel
theorem dX12_take_15 : decode cX12_take 15 = .ok (.aload_n 0, 1) := by decide +kernel
theorem dX12_take_16 : decode cX12_take 16 = .ok (.invokevirtual 373, 3) := by decide +kernel
theorem dX12_take_19 : decode cX12_take 19 = .ok (.aload_n 0, 1) := by decide +kernel
theorem dX12_take_20 : decode cX12_take 20 = .ok (.aload_n 0, 1) := by decide +kernel
theorem dX12_take_21 : decode cX12_take 21 = .ok (.getfield 33, 3) := by decide +kernel
theorem dX12_take_24 : decode cX12_take 24 = .ok (.bipush 7, 2) := by decide +kernel
theorem dX12_take_26 : decode cX12_take 26 = .ok (.iload_n 1, 1) := by decide +kernel
theorem dX12_take_27 : decode cX12_take 27 = .ok (.iadd, 1) := by decide +kernel
theorem dX12_take_28 : decode cX12_take 28 = .ok (.iaload, 1) := by decide +kernel
theorem dX12_take_29 : decode cX12_take 29 = .ok (.invokevirtual 421, 3) := by decide +kernel
theorem dX12_take_32 : decode cX12_take 32 = .ok (.aload_n 0, 1) := by decide +kernel
theorem dX12_take_33 : decode cX12_take 33 = .ok (.iload_n 1, 1) := by decide +kernel
theorem dX12_take_34 : decode cX12_take 34 = .ok (.iconst 1, 1) := by decide +kernel
theorem dX12_take_35 : decode cX12_take 35 = .ok (.invokevirtual 477, 3) := by decide +kernel
theorem dX12_take_38 : decode cX12_take 38 = .ok (.aload_n 0, 1) := by decide +kernel
theorem dX12_take_39 : decode cX12_take 39 = .ok (.invokevirtual 480, 3) := by decide +kernel
theorem dX12_take_42 : decode cX12_take 42 = .ok (.ireturn, 1) := by decide +kernel
theorem dX12_readOwn_0 : decode cX12_readOwn 0 = .ok (.aload_n 0, 1) := by decide +kernel
theorem dX12_readOwn_1 : decode cX12_readOwn 1 = .ok (.sipush 400, 3) := by decide +kernel
theorem dX12_readOwn_4 : decode cX12_readOwn 4 = .ok (.invokevirtual 454, 3) := by decide +kernel
theorem dX12_readOwn_7 : decode cX12_readOwn 7 = .ok (.aload_n 0, 1) := by decide +kernel
theorem dX12_readOwn_8 : decode cX12_readOwn 8 = .ok (.iconst 0, 1) := by decide +kernel
theorem dX12_readOwn_9 : decode cX12_readOwn 9 = .ok (.putfield 259, 3) := by decide +kernel
theorem dX12_readOwn_12 : decode cX12_readOwn 12 = .ok (.aload_n 0, 1) := by decide +kernel
theorem dX12_readOwn_13 : decode cX12_readOwn 13 = .ok (.invokevirtual 373, 3) := by decide +kernel
theorem dX12_readOwn_16 : decode cX12_readOwn 16 = .ok (.aload_n 0, 1) := by decide +kernel
theorem dX12_readOwn_17 : decode cX12_readOwn 17 = .ok (.iconst 0, 1) := by decide +kernel
theorem dX12_readOwn_18 : decode cX12_readOwn 18 = .ok (.putfield 418, 3) := by decide +kernel
theorem dX12_readOwn_21 : decode cX12_readOwn 21 = .ok (.aload_n 0, 1) := by decide +kernel
theorem dX12_readOwn_22 : decode cX12_readOwn 22 = .ok (.iconst 0, 1) := by decide +kernel
theorem dX12_readOwn_23 : decode cX12_readOwn 23 = .ok (.putfield 415, 3) := by decide +kernel
theorem dX12_readOwn_26 : decode cX12_readOwn 26 = .ok (.aload_n 0, 1) := by decide +kernel
theorem dX12_readOwn_27 : decode cX12_readOwn 27 = .ok (.invokevirtual 271, 3) := by decide +kernel
theorem dX12_readOwn_30 : decode cX12_readOwn 30 = .ok (.aload_n 0, 1) := by decide +kernel
theorem dX12_readOwn_31 : decode cX12_readOwn 31 = .ok (.iconst 0, 1) := by decide +kernel
theorem dX12_readOwn_32 : decode cX12_readOwn 32 = .ok (.iconst 0, 1) := by decide +kernel
theorem dX12_readOwn_33 : decode cX12_readOwn 33 = .ok (.invokevirtual 447, 3) := by decide +kernel
theorem dX12_readOwn_36 : decode cX12_readOwn 36 = .ok (.ifCond .eq 22, 3) := by decide +kernel
theorem dX12_readOwn_39 : decode cX12_readOwn 39 = .ok (.aload_n 0, 1) := by decide +kernel
theorem dX12_readOwn_40 : decode cX12_readOwn 40 = .ok (.getfield 242, 3) := by decide +kernel
theorem dX12_readOwn_43 : decode cX12_readOwn 43 = .ok (.ifCond .eq 11, 3) := by decide +kernel
theorem dX12_readOwn_46 : decode cX12_readOwn 46 = .ok (.aload_n 0, 1) := by decide +kernel
theorem dX12_readOwn_47 : decode cX12_readOwn 47 = .ok (.iconst 1, 1) := by decide +kernel
theorem dX12_readOwn_48 : decode cX12_readOwn 48 = .ok (.invokevirtual 268, 3) := by decide +kernel
theorem dX12_readOwn_51 : decode cX12_readOwn 51 = .ok (.ifCond .eq 7, 3) := by decide +kernel
theorem dX12_readOwn_54 : decode cX12_readOwn 54 = .ok (.iconst 1, 1) := by decide +kernel
theorem dX12_readOwn_55 : decode cX12_readOwn 55 = .ok (.goto 4, 3) := by decide +kernel
theorem dX12_readOwn_58 : decode cX12_readOwn 58 = .ok (.iconst 0, 1) := by decide +kernel
theorem dX12_readOwn_59 : decode cX12_readOwn 59 = .ok (.ireturn, 1) := by decide +kernel
theorem dX12_sum_0 : decode cX12_sum 0 = .ok (.aload_n 0, 1) := by decide +kernel
theorem dX12_sum_1 : decode cX12_sum 1 = .ok (.iconst 0, 1) := by decide +kernel
theorem dX12_sum_2 : decode cX12_sum 2 = .ok (.putfield 1, 3) := by decide +kernel
theorem dX12_sum_5 : decode cX12_sum 5 = .ok (.aload_n 0, 1) := by decide +kernel
theorem dX12_sum_6 : decode cX12_sum 6 = .ok (.invokevirtual 483, 3) := by decide +kernel
theorem dX12_sum_9 : decode cX12_sum 9 = .ok (.ifCond .eq 10, 3) := by decide +kernel
theorem dX12_sum_12 : decode cX12_sum 12 = .ok (.aload_n 0, 1) := by decide +kernel
theorem dX12_sum_13 : decode cX12_sum 13 = .ok (.invokevirtual 480, 3) := by decide +kernel
theorem dX12_sum_16 : decode cX12_sum 16 = .ok (.goto 9, 3) := by decide +kernel
theorem dX12_sum_19 : decode cX12_sum 19 = .ok (.iconst (-1), 1) := by decide +kernel
theorem dX12_sum_20 : decode cX12_sum 20 = .ok (.aload_n 0, 1) := by decide +kernel
theorem dX12_sum_21 : decode cX12_sum 21 = .ok (.getfield 262, 3) := by decide +kernel
theorem dX12_sum_24 : decode cX12_sum 24 = .ok (.isub, 1) := by decide +kernel
theorem dX12_sum_25 : decode cX12_sum 25 = .ok (.ireturn, 1) := by decide +kernel
theorem dX12_leaves_0 : decode cX12_leaves 0 = .ok (.aload_n 0, 1) := by decide +kernel
theorem dX12_leaves_1 : decode cX12_leaves 1 = .ok (.iconst 0, 1) := by decide +kernel
theorem dX12_leaves_2 : decode cX12_leaves 2 = .ok (.putfield 1, 3) := by decide +kernel
theorem dX12_leaves_5 : decode cX12_leaves 5 = .ok (.aload_n 0, 1) := by decide +kernel
theorem dX12_leaves_6 : decode cX12_leaves 6 = .ok (.getfield 33, 3) := by decide +kernel
theorem dX12_leaves_9 : decode cX12_leaves 9 = .ok (.sipush 1173, 3) := by decide +kernel
theorem dX12_leaves_12 : decode cX12_leaves 12 = .ok (.iaload, 1) := by decide +kernel
theorem dX12_leaves_13 : decode cX12_leaves 13 = .ok (.ireturn, 1) := by decide +kernel
theorem dX12_term_0 : decode cX12_term 0 = .ok (.aload_n 0, 1) := by decide +kernel
theorem dX12_term_1 : decode cX12_term 1 = .ok (.iload_n 1, 1) := by decide +kernel
theorem dX12_term_2 : decode cX12_term 2 = .ok (.iconst 0, 1) := by decide +kernel
theorem dX12_term_3 : decode cX12_term 3 = .ok (.aload_n 0, 1) := by decide +kernel
theorem dX12_term_4 : decode cX12_term 4 = .ok (.getfield 33, 3) := by decide +kernel
theorem dX12_term_7 : decode cX12_term 7 = .ok (.sipush 1174, 3) := by decide +kernel
theorem dX12_term_10 : decode cX12_term 10 = .ok (.iaload, 1) := by decide +kernel
theorem dX12_term_11 : decode cX12_term 11 = .ok (.iconst 1, 1) := by decide +kernel
theorem dX12_term_12 : decode cX12_term 12 = .ok (.isub, 1) := by decide +kernel
theorem dX12_term_13 : decode cX12_term 13 = .ok (.invokestatic 451, 3) := by decide +kernel
theorem dX12_term_16 : decode cX12_term 16 = .ok (.ifCond .ne 7, 3) := by decide +kernel
theorem dX12_term_19 : decode cX12_term 19 = .ok (.iconst 1, 1) := by decide +kernel
theorem dX12_term_20 : decode cX12_term 20 = .ok (.goto 4, 3) := by decide +kernel
theorem dX12_term_23 : decode cX12_term 23 = .ok (.iconst 0, 1) := by decide +kernel
theorem dX12_term_24 : decode cX12_term 24 = .ok (.invokevirtual 486, 3) := by decide +kernel
theorem dX12_term_27 : decode cX12_term 27 = .ok (.ifCond .eq 7, 3) := by decide +kernel
theorem dX12_term_30 : decode cX12_term 30 = .ok (.iconst 0, 1) := by decide +kernel
theorem dX12_term_31 : decode cX12_term 31 = .ok (.goto 13, 3) := by decide +kernel
theorem dX12_term_34 : decode cX12_term 34 = .ok (.aload_n 0, 1) := by decide +kernel
theorem dX12_term_35 : decode cX12_term 35 = .ok (.getfield 33, 3) := by decide +kernel
theorem dX12_term_38 : decode cX12_term 38 = .ok (.sipush 2475, 3) := by decide +kernel
theorem dX12_term_41 : decode cX12_term 41 = .ok (.iload_n 1, 1) := by decide +kernel
theorem dX12_term_42 : decode cX12_term 42 = .ok (.iadd, 1) := by decide +kernel
theorem dX12_term_43 : decode cX12_term 43 = .ok (.iaload, 1) := by decide +kernel
theorem dX12_term_44 : decode cX12_term 44 = .ok (.ireturn, 1) := by decide +kernel
theorem dX12_write_0 : decode cX12_write 0 = .ok (.aload_n 0, 1) := by decide +kernel
theorem dX12_write_1 : decode cX12_write 1 = .ok (.iload_n 1, 1) := by decide +kernel
theorem dX12_write_2 : decode cX12_write 2 = .ok (.invokevirtual 277, 3) := by decide +kernel
theorem dX12_write_5 : decode cX12_write 5 = .ok (.iconst 0, 1) := by decide +kernel
theorem dX12_write_6 : decode cX12_write 6 = .ok (.istore_n 2, 1) := by decide +kernel
theorem dX12_write_7 : decode cX12_write 7 = .ok (.iconst 0, 1) := by decide +kernel
theorem dX12_write_8 : decode cX12_write 8 = .ok (.istore_n 3, 1) := by decide +kernel
theorem dX12_write_9 : decode cX12_write 9 = .ok (.iconst 0, 1) := by decide +kernel
theorem dX12_write_10 : decode cX12_write 10 = .ok (.istore 4, 2) := by decide +kernel
theorem dX12_write_12 : decode cX12_write 12 = .ok (.iload 4, 2) := by decide +kernel
theorem dX12_write_14 : decode cX12_write 14 = .ok (.aload_n 0, 1) := by decide +kernel
theorem dX12_write_15 : decode cX12_write 15 = .ok (.getfield 274, 3) := by decide +kernel
theorem dX12_write_18 : decode cX12_write 18 = .ok (.if_icmp .ge 199, 3) := by decide +kernel
theorem dX12_write_21 : decode cX12_write 21 = .ok (.aload_n 0, 1) := by decide +kernel
theorem dX12_write_22 : decode cX12_write 22 = .ok (.getfield 44, 3) := by decide +kernel
theorem dX12_write_25 : decode cX12_write 25 = .ok (.iload 4, 2) := by decide +kernel
theorem dX12_write_27 : decode cX12_write 27 = .ok (.iaload, 1) := by decide +kernel
theorem dX12_write_28 : decode cX12_write 28 = .ok (.ifCond .le 109, 3) := by decide +kernel
theorem dX12_write_31 : decode cX12_write 31 = .ok (.aload_n 0, 1) := by decide +kernel
theorem dX12_write_32 : decode cX12_write 32 = .ok (.getfield 40, 3) := by decide +kernel
theorem dX12_write_35 : decode cX12_write 35 = .ok (.aload_n 0, 1) := by decide +kernel
theorem dX12_write_36 : decode cX12_write 36 = .ok (.getfield 44, 3) := by decide +kernel
theorem dX12_write_39 : decode cX12_write 39 = .ok (.iload 4, 2) := by decide +kernel
theorem dX12_write_41 : decode cX12_write 41 = .ok (.iaload, 1) := by decide +kernel
theorem dX12_write_42 : decode cX12_write 42 = .ok (.iconst 1, 1) := by decide +kernel
theorem dX12_write_43 : decode cX12_write 43 = .ok (.isub, 1) := by decide +kernel
theorem dX12_write_44 : decode cX12_write 44 = .ok (.laload, 1) := by decide +kernel
theorem dX12_write_45 : decode cX12_write 45 = .ok (.lstore 5, 2) := by decide +kernel
theorem dX12_write_47 : decode cX12_write 47 = .ok (.bipush 40, 2) := by decide +kernel
theorem dX12_write_49 : decode cX12_write 49 = .ok (.istore 7, 2) := by decide +kernel
theorem dX12_write_51 : decode cX12_write 51 = .ok (.iload 7, 2) := by decide +kernel
theorem dX12_write_53 : decode cX12_write 53 = .ok (.ifCond .lt 45, 3) := by decide +kernel
theorem dX12_write_56 : decode cX12_write 56 = .ok (.lload 5, 2) := by decide +kernel
theorem dX12_write_58 : decode cX12_write 58 = .ok (.iload 7, 2) := by decide +kernel
theorem dX12_write_60 : decode cX12_write 60 = .ok (.lshr, 1) := by decide +kernel
theorem dX12_write_61 : decode cX12_write 61 = .ok (.ldc2_w 490, 3) := by decide +kernel
theorem dX12_write_64 : decode cX12_write 64 = .ok (.land, 1) := by decide +kernel
theorem dX12_write_65 : decode cX12_write 65 = .ok (.lconst 0, 1) := by decide +kernel
theorem dX12_write_66 : decode cX12_write 66 = .ok (.lcmp, 1) := by decide +kernel
theorem dX12_write_67 : decode cX12_write 67 = .ok (.ifCond .ne 6, 3) := by decide +kernel
theorem dX12_write_70 : decode cX12_write 70 = .ok (.goto 22, 3) := by decide +kernel
theorem dX12_write_73 : decode cX12_write 73 = .ok (.aload_n 0, 1) := by decide +kernel
theorem dX12_write_74 : decode cX12_write 74 = .ok (.getfield 127, 3) := by decide +kernel
theorem dX12_write_77 : decode cX12_write 77 = .ok (.iload_n 2, 1) := by decide +kernel
theorem dX12_write_78 : decode cX12_write 78 = .ok (.lload 5, 2) := by decide +kernel
theorem dX12_write_80 : decode cX12_write 80 = .ok (.iload 7, 2) := by decide +kernel
theorem dX12_write_82 : decode cX12_write 82 = .ok (.lshr, 1) := by decide +kernel
theorem dX12_write_83 : decode cX12_write 83 = .ok (.ldc2_w 490, 3) := by decide +kernel
theorem dX12_write_86 : decode cX12_write 86 = .ok (.land, 1) := by decide +kernel
theorem dX12_write_87 : decode cX12_write 87 = .ok (.l2i, 1) := by decide +kernel
theorem dX12_write_88 : decode cX12_write 88 = .ok (.iastore, 1) := by decide +kernel
theorem dX12_write_89 : decode cX12_write 89 = .ok (.iinc 2 1, 3) := by decide +kernel
theorem dX12_write_92 : decode cX12_write 92 = .ok (.iinc 7 (-8), 3) := by decide +kernel
theorem dX12_write_95 : decode cX12_write 95 = .ok (.goto (-44), 3) := by decide +kernel
theorem dX12_write_98 : decode cX12_write 98 = .ok (.aload_n 0, 1) := by decide +kernel
theorem dX12_write_99 : decode cX12_write 99 = .ok (.getfield 127, 3) := by decide +kernel
theorem dX12_write_102 : decode cX12_write 102 = .ok (.iload_n 2, 1) := by decide +kernel
theorem dX12_write_103 : decode cX12_write 103 = .ok (.bipush 40, 2) := by decide +kernel
theorem dX12_write_105 : decode cX12_write 105 = .ok (.iastore, 1) := by decide +kernel
theorem dX12_write_106 : decode cX12_write 106 = .ok (.iinc 2 1, 3) := by decide +kernel
theorem dX12_write_109 : decode cX12_write 109 = .ok (.aload_n 0, 1) := by decide +kernel
theorem dX12_write_110 : decode cX12_write 110 = .ok (.getfield 130, 3) := by decide +kernel
theorem dX12_write_113 : decode cX12_write 113 = .ok (.iload_n 3, 1) := by decide +kernel
theorem dX12_write_114 : decode cX12_write 114 = .ok (.aload_n 0, 1) := by decide +kernel
theorem dX12_write_115 : decode cX12_write 115 = .ok (.getfield 33, 3) := by decide +kernel
theorem dX12_write_118 : decode cX12_write 118 = .ok (.iconst 4, 1) := by decide +kernel
theorem dX12_write_119 : decode cX12_write 119 = .ok (.aload_n 0, 1) := by decide +kernel
theorem dX12_write_120 : decode cX12_write 120 = .ok (.getfield 44, 3) := by decide +kernel
theorem dX12_write_123 : decode cX12_write 123 = .ok (.iload 4, 2) := by decide +kernel
theorem dX12_write_125 : decode cX12_write 125 = .ok (.iaload, 1) := by decide +kernel
theorem dX12_write_126 : decode cX12_write 126 = .ok (.iadd, 1) := by decide +kernel
theorem dX12_write_127 : decode cX12_write 127 = .ok (.iconst 1, 1) := by decide +kernel
theorem dX12_write_128 : decode cX12_write 128 = .ok (.isub, 1) := by decide +kernel
theorem dX12_write_129 : decode cX12_write 129 = .ok (.iaload, 1) := by decide +kernel
theorem dX12_write_130 : decode cX12_write 130 = .ok (.iastore, 1) := by decide +kernel
theorem dX12_write_131 : decode cX12_write 131 = .ok (.iinc 3 1, 3) := by decide +kernel
theorem dX12_write_134 : decode cX12_write 134 = .ok (.goto 77, 3) := by decide +kernel
theorem dX12_write_137 : decode cX12_write 137 = .ok (.aload_n 0, 1) := by decide +kernel
theorem dX12_write_138 : decode cX12_write 138 = .ok (.getfield 127, 3) := by decide +kernel
theorem dX12_write_141 : decode cX12_write 141 = .ok (.iload_n 2, 1) := by decide +kernel
theorem dX12_write_142 : decode cX12_write 142 = .ok (.bipush 120, 2) := by decide +kernel
theorem dX12_write_144 : decode cX12_write 144 = .ok (.iastore, 1) := by decide +kernel
theorem dX12_write_145 : decode cX12_write 145 = .ok (.iinc 2 1, 3) := by decide +kernel
theorem dX12_write_148 : decode cX12_write 148 = .ok (.iload_n 3, 1) := by decide +kernel
theorem dX12_write_149 : decode cX12_write 149 = .ok (.ifCond .le 62, 3) := by decide +kernel
theorem dX12_write_152 : decode cX12_write 152 = .ok (.aload_n 0, 1) := by decide +kernel
theorem dX12_write_153 : decode cX12_write 153 = .ok (.getfield 130, 3) := by decide +kernel
theorem dX12_write_156 : decode cX12_write 156 = .ok (.iload_n 3, 1) := by decide +kernel
theorem dX12_write_157 : decode cX12_write 157 = .ok (.iconst 1, 1) := by decide +kernel
theorem dX12_write_158 : decode cX12_write 158 = .ok (.isub, 1) := by decide +kernel
theorem dX12_write_159 : decode cX12_write 159 = .ok (.dup2, 1) := by decide +kernel
theorem dX12_write_160 : decode cX12_write 160 = .ok (.iaload, 1) := by decide +kernel
theorem dX12_write_161 : decode cX12_write 161 = .ok (.iconst 1, 1) := by decide +kernel
theorem dX12_write_162 : decode cX12_write 162 = .ok (.isub, 1) := by decide +kernel
theorem dX12_write_163 : decode cX12_write 163 = .ok (.iastore, 1) := by decide +kernel
theorem dX12_write_164 : decode cX12_write 164 = .ok (.aload_n 0, 1) := by decide +kernel
theorem dX12_write_165 : decode cX12_write 165 = .ok (.getfield 127, 3) := by decide +kernel
theorem dX12_write_168 : decode cX12_write 168 = .ok (.iload_n 2, 1) := by decide +kernel
theorem dX12_write_169 : decode cX12_write 169 = .ok (.aload_n 0, 1) := by decide +kernel
theorem dX12_write_170 : decode cX12_write 170 = .ok (.getfield 130, 3) := by decide +kernel
theorem dX12_write_173 : decode cX12_write 173 = .ok (.iload_n 3, 1) := by decide +kernel
theorem dX12_write_174 : decode cX12_write 174 = .ok (.iconst 1, 1) := by decide +kernel
theorem dX12_write_175 : decode cX12_write 175 = .ok (.isub, 1) := by decide +kernel
theorem dX12_write_176 : decode cX12_write 176 = .ok (.iaload, 1) := by decide +kernel
theorem dX12_write_177 : decode cX12_write 177 = .ok (.ifCond .le 8, 3) := by decide +kernel
theorem dX12_write_180 : decode cX12_write 180 = .ok (.bipush 44, 2) := by decide +kernel
theorem dX12_write_182 : decode cX12_write 182 = .ok (.goto 5, 3) := by decide +kernel
theorem dX12_write_185 : decode cX12_write 185 = .ok (.bipush 41, 2) := by decide +kernel
theorem dX12_write_187 : decode cX12_write 187 = .ok (.iastore, 1) := by decide +kernel
theorem dX12_write_188 : decode cX12_write 188 = .ok (.iinc 2 1, 3) := by decide +kernel
theorem dX12_write_191 : decode cX12_write 191 = .ok (.aload_n 0, 1) := by decide +kernel
theorem dX12_write_192 : decode cX12_write 192 = .ok (.getfield 130, 3) := by decide +kernel
theorem dX12_write_195 : decode cX12_write 195 = .ok (.iload_n 3, 1) := by decide +kernel
theorem dX12_write_196 : decode cX12_write 196 = .ok (.iconst 1, 1) := by decide +kernel
theorem dX12_write_197 : decode cX12_write 197 = .ok (.isub, 1) := by decide +kernel
theorem dX12_write_198 : decode cX12_write 198 = .ok (.iaload, 1) := by decide +kernel
theorem dX12_write_199 : decode cX12_write 199 = .ok (.ifCond .le 6, 3) := by decide +kernel
theorem dX12_write_202 : decode cX12_write 202 = .ok (.goto 9, 3) := by decide +kernel
theorem dX12_write_205 : decode cX12_write 205 = .ok (.iinc 3 (-1), 3) := by decide +kernel
theorem dX12_write_208 : decode cX12_write 208 = .ok (.goto (-60), 3) := by decide +kernel
theorem dX12_write_211 : decode cX12_write 211 = .ok (.iinc 4 1, 3) := by decide +kernel
theorem dX12_write_214 : decode cX12_write 214 = .ok (.goto (-202), 3) := by decide +kernel
theorem dX12_write_217 : decode cX12_write 217 = .ok (.iload_n 2, 1) := by decide +kernel
theorem dX12_write_218 : decode cX12_write 218 = .ok (.ireturn, 1) := by decide +kernel
theorem dX12_termAt_0 : decode cX12_termAt 0 = .ok (.aload_n 0, 1) := by decide +kernel
theorem dX12_termAt_1 : decode cX12_termAt 1 = .ok (.iconst 0, 1) := by decide +kernel
theorem dX12_termAt_2 : decode cX12_termAt 2 = .ok (.putfield 1, 3) := by decide +kernel
theorem dX12_termAt_5 : decode cX12_termAt 5 = .ok (.iload_n 1, 1) := by decide +kernel
theorem dX12_termAt_6 : decode cX12_termAt 6 = .ok (.iconst 0, 1) := by decide +kernel
theorem dX12_termAt_7 : decode cX12_termAt 7 = .ok (.aload_n 0, 1) := by decide +kernel
theorem dX12_termAt_8 : decode cX12_termAt 8 = .ok (.getfield 33, 3) := by decide +kernel
theorem dX12_termAt_11 : decode cX12_termAt 11 = .ok (.sipush 1174, 3) := by decide +kernel
theorem dX12_termAt_14 : decode cX12_termAt 14 = .ok (.iaload, 1) := by decide +kernel
theorem dX12_termAt_15 : decode cX12_termAt 15 = .ok (.iconst 1, 1) := by decide +kernel
theorem dX12_termAt_16 : decode cX12_termAt 16 = .ok (.isub, 1) := by decide +kernel
theorem dX12_termAt_17 : decode cX12_termAt 17 = .ok (.invokestatic 451, 3) := by decide +kernel
theorem dX12_termAt_20 : decode cX12_termAt 20 = .ok (.ifCond .ne 5, 3) := by decide +kernel
theorem dX12_termAt_23 : decode cX12_termAt 23 = .ok (.iconst (-1), 1) := by decide +kernel
theorem dX12_termAt_24 : decode cX12_termAt 24 = .ok (.ireturn, 1) := by decide +kernel
theorem dX12_termAt_25 : decode cX12_termAt 25 = .ok (.aload_n 0, 1) := by decide +kernel
theorem dX12_termAt_26 : decode cX12_termAt 26 = .ok (.aload_n 0, 1) := by decide +kernel
theorem dX12_termAt_27 : decode cX12_termAt 27 = .ok (.getfield 33, 3) := by decide +kernel
theorem dX12_termAt_30 : decode cX12_termAt 30 = .ok (.sipush 1175, 3) := by decide +kernel
theorem dX12_termAt_33 : decode cX12_termAt 33 = .ok (.iload_n 1, 1) := by decide +kernel
theorem dX12_termAt_34 : decode cX12_termAt 34 = .ok (.iadd, 1) := by decide +kernel
theorem dX12_termAt_35 : decode cX12_termAt 35 = .ok (.iaload, 1) := by decide +kernel
theorem dX12_termAt_36 : decode cX12_termAt 36 = .ok (.invokevirtual 492, 3) := by decide +kernel
theorem dX12_termAt_39 : decode cX12_termAt 39 = .ok (.istore_n 3, 1) := by decide +kernel
theorem dX12_termAt_40 : decode cX12_termAt 40 = .ok (.iload_n 2, 1) := by decide +kernel
theorem dX12_termAt_41 : decode cX12_termAt 41 = .ok (.iconst 0, 1) := by decide +kernel
theorem dX12_termAt_42 : decode cX12_termAt 42 = .ok (.iload_n 3, 1) := by decide +kernel
theorem dX12_termAt_43 : decode cX12_termAt 43 = .ok (.iconst 1, 1) := by decide +kernel
theorem dX12_termAt_44 : decode cX12_termAt 44 = .ok (.isub, 1) := by decide +kernel
theorem dX12_termAt_45 : decode cX12_termAt 45 = .ok (.invokestatic 451, 3) := by decide +kernel
theorem dX12_termAt_48 : decode cX12_termAt 48 = .ok (.ifCond .eq 12, 3) := by decide +kernel
theorem dX12_termAt_51 : decode cX12_termAt 51 = .ok (.aload_n 0, 1) := by decide +kernel
theorem dX12_termAt_52 : decode cX12_termAt 52 = .ok (.getfield 127, 3) := by decide +kernel
theorem dX12_termAt_55 : decode cX12_termAt 55 = .ok (.iload_n 2, 1) := by decide +kernel
theorem dX12_termAt_56 : decode cX12_termAt 56 = .ok (.iaload, 1) := by decide +kernel
theorem dX12_termAt_57 : decode cX12_termAt 57 = .ok (.goto 4, 3) := by decide +kernel
theorem dX12_termAt_60 : decode cX12_termAt 60 = .ok (.iconst (-1), 1) := by decide +kernel
theorem dX12_termAt_61 : decode cX12_termAt 61 = .ok (.ireturn, 1) := by decide +kernel
theorem dX12_rowSum_0 : decode cX12_rowSum 0 = .ok (.aload_n 0, 1) := by decide +kernel
theorem dX12_rowSum_1 : decode cX12_rowSum 1 = .ok (.iload_n 1, 1) := by decide +kernel
theorem dX12_rowSum_2 : decode cX12_rowSum 2 = .ok (.invokevirtual 421, 3) := by decide +kernel
theorem dX12_rowSum_5 : decode cX12_rowSum 5 = .ok (.aload_n 0, 1) := by decide +kernel
theorem dX12_rowSum_6 : decode cX12_rowSum 6 = .ok (.getfield 62, 3) := by decide +kernel
theorem dX12_rowSum_9 : decode cX12_rowSum 9 = .ok (.iload_n 1, 1) := by decide +kernel
theorem dX12_rowSum_10 : decode cX12_rowSum 10 = .ok (.iaload, 1) := by decide +kernel
theorem dX12_rowSum_11 : decode cX12_rowSum 11 = .ok (.iconst 1, 1) := by decide +kernel
theorem dX12_rowSum_12 : decode cX12_rowSum 12 = .ok (.isub, 1) := by decide +kernel
theorem dX12_rowSum_13 : decode cX12_rowSum 13 = .ok (.istore_n 2, 1) := by decide +kernel
theorem dX12_rowSum_14 : decode cX12_rowSum 14 = .ok (.iload_n 2, 1) := by decide +kernel
theorem dX12_rowSum_15 : decode cX12_rowSum 15 = .ok (.ifCond .lt 48, 3) := by decide +kernel
theorem dX12_rowSum_18 : decode cX12_rowSum 18 = .ok (.aload_n 0, 1) := by decide +kernel
theorem dX12_rowSum_19 : decode cX12_rowSum 19 = .ok (.getfield 106, 3) := by decide +kernel
theorem dX12_rowSum_22 : decode cX12_rowSum 22 = .ok (.iload_n 2, 1) := by decide +kernel
theorem dX12_rowSum_23 : decode cX12_rowSum 23 = .ok (.iaload, 1) := by decide +kernel
theorem dX12_rowSum_24 : decode cX12_rowSum 24 = .ok (.ifCond .eq 33, 3) := by decide +kernel
theorem dX12_rowSum_27 : decode cX12_rowSum 27 = .ok (.aload_n 0, 1) := by decide +kernel
theorem dX12_rowSum_28 : decode cX12_rowSum 28 = .ok (.aload_n 0, 1) := by decide +kernel
theorem dX12_rowSum_29 : decode cX12_rowSum 29 = .ok (.getfield 74, 3) := by decide +kernel
theorem dX12_rowSum_32 : decode cX12_rowSum 32 = .ok (.aload_n 0, 1) := by decide +kernel
theorem dX12_rowSum_33 : decode cX12_rowSum 33 = .ok (.getfield 65, 3) := by decide +kernel
theorem dX12_rowSum_36 : decode cX12_rowSum 36 = .ok (.iload_n 1, 1) := by decide +kernel
theorem dX12_rowSum_37 : decode cX12_rowSum 37 = .ok (.iaload, 1) := by decide +kernel
theorem dX12_rowSum_38 : decode cX12_rowSum 38 = .ok (.iload_n 2, 1) := by decide +kernel
theorem dX12_rowSum_39 : decode cX12_rowSum 39 = .ok (.iadd, 1) := by decide +kernel
theorem dX12_rowSum_40 : decode cX12_rowSum 40 = .ok (.iaload, 1) := by decide +kernel
theorem dX12_rowSum_41 : decode cX12_rowSum 41 = .ok (.aload_n 0, 1) := by decide +kernel
theorem dX12_rowSum_42 : decode cX12_rowSum 42 = .ok (.getfield 106, 3) := by decide +kernel
theorem dX12_rowSum_45 : decode cX12_rowSum 45 = .ok (.iload_n 2, 1) := by decide +kernel
theorem dX12_rowSum_46 : decode cX12_rowSum 46 = .ok (.iaload, 1) := by decide +kernel
theorem dX12_rowSum_47 : decode cX12_rowSum 47 = .ok (.iconst 0, 1) := by decide +kernel
theorem dX12_rowSum_48 : decode cX12_rowSum 48 = .ok (.aload_n 0, 1) := by decide +kernel
theorem dX12_rowSum_49 : decode cX12_rowSum 49 = .ok (.getfield 33, 3) := by decide +kernel
theorem dX12_rowSum_52 : decode cX12_rowSum 52 = .ok (.iconst 0, 1) := by decide +kernel
theorem dX12_rowSum_53 : decode cX12_rowSum 53 = .ok (.iaload, 1) := by decide +kernel
theorem dX12_rowSum_54 : decode cX12_rowSum 54 = .ok (.invokevirtual 430, 3) := by decide +kernel
theorem dX12_rowSum_57 : decode cX12_rowSum 57 = .ok (.iinc 2 (-1), 3) := by decide +kernel
theorem dX12_rowSum_60 : decode cX12_rowSum 60 = .ok (.goto (-46), 3) := by decide +kernel
theorem dX12_rowSum_63 : decode cX12_rowSum 63 = .ok (.return_, 1) := by decide +kernel
theorem dX12_reduce_0 : decode cX12_reduce 0 = .ok (.aload_n 0, 1) := by decide +kernel
theorem dX12_reduce_1 : decode cX12_reduce 1 = .ok (.iconst 0, 1) := by decide +kernel
theorem dX12_reduce_2 : decode cX12_reduce 2 = .ok (.putfield 1, 3) := by decide +kernel
theorem dX12_reduce_5 : decode cX12_reduce 5 = .ok (.aload_n 0, 1) := by decide +kernel
theorem dX12_reduce_6 : decode cX12_reduce 6 = .ok (.getfield 33, 3) := by decide +kernel
theorem dX12_reduce_9 : decode cX12_reduce 9 = .ok (.sipush 1173, 3) := by decide +kernel
theorem dX12_reduce_12 : decode cX12_reduce 12 = .ok (.iaload, 1) := by decide +kernel
theorem dX12_reduce_13 : decode cX12_reduce 13 = .ok (.istore_n 1, 1) := by decide +kernel
theorem dX12_reduce_14 : decode cX12_reduce 14 = .ok (.aload_n 0, 1) := by decide +kernel
theorem dX12_reduce_15 : decode cX12_reduce 15 = .ok (.iconst 0, 1) := by decide +kernel
theorem dX12_reduce_16 : decode cX12_reduce 16 = .ok (.iload_n 1, 1) := by decide +kernel
theorem dX12_reduce_17 : decode cX12_reduce 17 = .ok (.invokevirtual 495, 3) := by decide +kernel
theorem dX12_reduce_20 : decode cX12_reduce 20 = .ok (.ifCond .eq 5, 3) := by decide +kernel
theorem dX12_reduce_23 : decode cX12_reduce 23 = .ok (.iconst (-1), 1) := by decide +kernel
theorem dX12_reduce_24 : decode cX12_reduce 24 = .ok (.ireturn, 1) := by decide +kernel
theorem dX12_reduce_25 : decode cX12_reduce 25 = .ok (.aload_n 0, 1) := by decide +kernel
theorem dX12_reduce_26 : decode cX12_reduce 26 = .ok (.aload_n 0, 1) := by decide +kernel
theorem dX12_reduce_27 : decode cX12_reduce 27 = .ok (.getfield 62, 3) := by decide +kernel
theorem dX12_reduce_30 : decode cX12_reduce 30 = .ok (.iload_n 1, 1) := by decide +kernel
theorem dX12_reduce_31 : decode cX12_reduce 31 = .ok (.iaload, 1) := by decide +kernel
theorem dX12_reduce_32 : decode cX12_reduce 32 = .ok (.invokevirtual 361, 3) := by decide +kernel
theorem dX12_reduce_35 : decode cX12_reduce 35 = .ok (.iconst 0, 1) := by decide +kernel
theorem dX12_reduce_36 : decode cX12_reduce 36 = .ok (.istore_n 2, 1) := by decide +kernel
theorem dX12_reduce_37 : decode cX12_reduce 37 = .ok (.iload_n 2, 1) := by decide +kernel
theorem dX12_reduce_38 : decode cX12_reduce 38 = .ok (.aload_n 0, 1) := by decide +kernel
theorem dX12_reduce_39 : decode cX12_reduce 39 = .ok (.getfield 33, 3) := by decide +kernel
theorem dX12_reduce_42 : decode cX12_reduce 42 = .ok (.sipush 1174, 3) := by decide +kernel
theorem dX12_reduce_45 : decode cX12_reduce 45 = .ok (.iaload, 1) := by decide +kernel
theorem dX12_reduce_46 : decode cX12_reduce 46 = .ok (.if_icmp .ge 40, 3) := by decide +kernel
theorem dX12_reduce_49 : decode cX12_reduce 49 = .ok (.aload_n 0, 1) := by decide +kernel
theorem dX12_reduce_50 : decode cX12_reduce 50 = .ok (.getfield 106, 3) := by decide +kernel
theorem dX12_reduce_53 : decode cX12_reduce 53 = .ok (.aload_n 0, 1) := by decide +kernel
theorem dX12_reduce_54 : decode cX12_reduce 54 = .ok (.iconst 0, 1) := by decide +kernel
theorem dX12_reduce_55 : decode cX12_reduce 55 = .ok (.iload_n 1, 1) := by decide +kernel
theorem dX12_reduce_56 : decode cX12_reduce 56 = .ok (.aload_n 0, 1) := by decide +kernel
theorem dX12_reduce_57 : decode cX12_reduce 57 = .ok (.getfield 33, 3) := by decide +kernel
theorem dX12_reduce_60 : decode cX12_reduce 60 = .ok (.sipush 1175, 3) := by decide +kernel
theorem dX12_reduce_63 : decode cX12_reduce 63 = .ok (.iload_n 2, 1) := by decide +kernel
theorem dX12_reduce_64 : decode cX12_reduce 64 = .ok (.iadd, 1) := by decide +kernel
theorem dX12_reduce_65 : decode cX12_reduce 65 = .ok (.iaload, 1) := by decide +kernel
theorem dX12_reduce_66 : decode cX12_reduce 66 = .ok (.invokevirtual 364, 3) := by decide +kernel
theorem dX12_reduce_69 : decode cX12_reduce 69 = .ok (.aload_n 0, 1) := by decide +kernel
theorem dX12_reduce_70 : decode cX12_reduce 70 = .ok (.getfield 33, 3) := by decide +kernel
theorem dX12_reduce_73 : decode cX12_reduce 73 = .ok (.sipush 2475, 3) := by decide +kernel
theorem dX12_reduce_76 : decode cX12_reduce 76 = .ok (.iload_n 2, 1) := by decide +kernel
theorem dX12_reduce_77 : decode cX12_reduce 77 = .ok (.iadd, 1) := by decide +kernel
theorem dX12_reduce_78 : decode cX12_reduce 78 = .ok (.iaload, 1) := by decide +kernel
theorem dX12_reduce_79 : decode cX12_reduce 79 = .ok (.iastore, 1) := by decide +kernel
theorem dX12_reduce_80 : decode cX12_reduce 80 = .ok (.iinc 2 1, 3) := by decide +kernel
theorem dX12_reduce_83 : decode cX12_reduce 83 = .ok (.goto (-46), 3) := by decide +kernel
theorem dX12_reduce_86 : decode cX12_reduce 86 = .ok (.aload_n 0, 1) := by decide +kernel
theorem dX12_reduce_87 : decode cX12_reduce 87 = .ok (.iconst 0, 1) := by decide +kernel
theorem dX12_reduce_88 : decode cX12_reduce 88 = .ok (.iload_n 1, 1) := by decide +kernel
theorem dX12_reduce_89 : decode cX12_reduce 89 = .ok (.invokevirtual 339, 3) := by decide +kernel
theorem dX12_reduce_92 : decode cX12_reduce 92 = .ok (.aload_n 0, 1) := by decide +kernel
theorem dX12_reduce_93 : decode cX12_reduce 93 = .ok (.iload_n 1, 1) := by decide +kernel
theorem dX12_reduce_94 : decode cX12_reduce 94 = .ok (.invokevirtual 498, 3) := by decide +kernel
theorem dX12_reduce_97 : decode cX12_reduce 97 = .ok (.aload_n 0, 1) := by decide +kernel
theorem dX12_reduce_98 : decode cX12_reduce 98 = .ok (.invokevirtual 480, 3) := by decide +kernel
theorem dX12_reduce_101 : decode cX12_reduce 101 = .ok (.ireturn, 1) := by decide +kernel
theorem dX12_size_0 : decode cX12_size 0 = .ok (.aload_n 0, 1) := by decide +kernel
theorem dX12_size_1 : decode cX12_size 1 = .ok (.iconst 0, 1) := by decide +kernel
theorem dX12_size_2 : decode cX12_size 2 = .ok (.putfield 1, 3) := by decide +kernel
theorem dX12_size_5 : decode cX12_size 5 = .ok (.iload_n 1, 1) := by decide +kernel
theorem dX12_size_6 : decode cX12_size 6 = .ok (.iconst 1, 1) := by decide +kernel
theorem dX12_size_7 : decode cX12_size 7 = .ok (.bipush 7, 2) := by decide +kernel
theorem dX12_size_9 : decode cX12_size 9 = .ok (.invokestatic 451, 3) := by decide +kernel
theorem dX12_size_12 : decode cX12_size 12 = .ok (.ifCond .eq 12, 3) := by decide +kernel
theorem dX12_size_15 : decode cX12_size 15 = .ok (.aload_n 0, 1) := by decide +kernel
theorem dX12_size_16 : decode cX12_size 16 = .ok (.iconst 0, 1) := by decide +kernel
theorem dX12_size_17 : decode cX12_size 17 = .ok (.iload_n 1, 1) := by decide +kernel
theorem dX12_size_18 : decode cX12_size 18 = .ok (.invokevirtual 495, 3) := by decide +kernel
theorem dX12_size_21 : decode cX12_size 21 = .ok (.ifCond .eq 7, 3) := by decide +kernel
theorem dX12_size_24 : decode cX12_size 24 = .ok (.iconst (-1), 1) := by decide +kernel
theorem dX12_size_25 : decode cX12_size 25 = .ok (.goto 9, 3) := by decide +kernel
theorem dX12_size_28 : decode cX12_size 28 = .ok (.aload_n 0, 1) := by decide +kernel
theorem dX12_size_29 : decode cX12_size 29 = .ok (.iconst 0, 1) := by decide +kernel
theorem dX12_size_30 : decode cX12_size 30 = .ok (.iload_n 1, 1) := by decide +kernel
theorem dX12_size_31 : decode cX12_size 31 = .ok (.invokevirtual 501, 3) := by decide +kernel
theorem dX12_size_34 : decode cX12_size 34 = .ok (.ireturn, 1) := by decide +kernel
theorem dX12_normalAt_0 : decode cX12_normalAt 0 = .ok (.aload_n 0, 1) := by decide +kernel
theorem dX12_normalAt_1 : decode cX12_normalAt 1 = .ok (.iconst 0, 1) := by decide +kernel
theorem dX12_normalAt_2 : decode cX12_normalAt 2 = .ok (.putfield 1, 3) := by decide +kernel
theorem dX12_normalAt_5 : decode cX12_normalAt 5 = .ok (.iload_n 1, 1) := by decide +kernel
theorem dX12_normalAt_6 : decode cX12_normalAt 6 = .ok (.iconst 1, 1) := by decide +kernel
theorem dX12_normalAt_7 : decode cX12_normalAt 7 = .ok (.bipush 7, 2) := by decide +kernel
theorem dX12_normalAt_9 : decode cX12_normalAt 9 = .ok (.invokestatic 451, 3) := by decide +kernel
theorem dX12_normalAt_12 : decode cX12_normalAt 12 = .ok (.ifCond .eq 16, 3) := by decide +kernel
theorem dX12_normalAt_15 : decode cX12_normalAt 15 = .ok (.iload_n 2, 1) := by decide +kernel
theorem dX12_normalAt_16 : decode cX12_normalAt 16 = .ok (.ifCond .lt 12, 3) := by decide +kernel
theorem dX12_normalAt_19 : decode cX12_normalAt 19 = .ok (.aload_n 0, 1) := by decide +kernel
theorem dX12_normalAt_20 : decode cX12_normalAt 20 = .ok (.iconst 0, 1) := by decide +kernel
theorem dX12_normalAt_21 : decode cX12_normalAt 21 = .ok (.iload_n 1, 1) := by decide +kernel
theorem dX12_normalAt_22 : decode cX12_normalAt 22 = .ok (.invokevirtual 495, 3) := by decide +kernel
theorem dX12_normalAt_25 : decode cX12_normalAt 25 = .ok (.ifCond .eq 5, 3) := by decide +kernel
theorem dX12_normalAt_28 : decode cX12_normalAt 28 = .ok (.iconst (-1), 1) := by decide +kernel
theorem dX12_normalAt_29 : decode cX12_normalAt 29 = .ok (.ireturn, 1) := by decide +kernel
theorem dX12_normalAt_30 : decode cX12_normalAt 30 = .ok (.iload_n 2, 1) := by decide +kernel
theorem dX12_normalAt_31 : decode cX12_normalAt 31 = .ok (.istore 4, 2) := by decide +kernel
theorem dX12_normalAt_33 : decode cX12_normalAt 33 = .ok (.iconst 0, 1) := by decide +kernel
theorem dX12_normalAt_34 : decode cX12_normalAt 34 = .ok (.istore 5, 2) := by decide +kernel
theorem dX12_normalAt_36 : decode cX12_normalAt 36 = .ok (.iload 5, 2) := by decide +kernel
theorem dX12_normalAt_38 : decode cX12_normalAt 38 = .ok (.aload_n 0, 1) := by decide +kernel
theorem dX12_normalAt_39 : decode cX12_normalAt 39 = .ok (.getfield 62, 3) := by decide +kernel
theorem dX12_normalAt_42 : decode cX12_normalAt 42 = .ok (.iload_n 1, 1) := by decide +kernel
theorem dX12_normalAt_43 : decode cX12_normalAt 43 = .ok (.iaload, 1) := by decide +kernel
theorem dX12_normalAt_44 : decode cX12_normalAt 44 = .ok (.if_icmp .ge 80, 3) := by decide +kernel
theorem dX12_normalAt_47 : decode cX12_normalAt 47 = .ok (.aload_n 0, 1) := by decide +kernel
theorem dX12_normalAt_48 : decode cX12_normalAt 48 = .ok (.getfield 87, 3) := by decide +kernel
theorem dX12_normalAt_51 : decode cX12_normalAt 51 = .ok (.aload_n 0, 1) := by decide +kernel
theorem dX12_normalAt_52 : decode cX12_normalAt 52 = .ok (.getfield 65, 3) := by decide +kernel
theorem dX12_normalAt_55 : decode cX12_normalAt 55 = .ok (.iload_n 1, 1) := by decide +kernel
theorem dX12_normalAt_56 : decode cX12_normalAt 56 = .ok (.iaload, 1) := by decide +kernel
theorem dX12_normalAt_57 : decode cX12_normalAt 57 = .ok (.iload 5, 2) := by decide +kernel
theorem dX12_normalAt_59 : decode cX12_normalAt 59 = .ok (.iadd, 1) := by decide +kernel
theorem dX12_normalAt_60 : decode cX12_normalAt 60 = .ok (.baload, 1) := by decide +kernel
theorem dX12_normalAt_61 : decode cX12_normalAt 61 = .ok (.ifCond .eq 6, 3) := by decide +kernel
theorem dX12_normalAt_64 : decode cX12_normalAt 64 = .ok (.goto 54, 3) := by decide +kernel
theorem dX12_normalAt_67 : decode cX12_normalAt 67 = .ok (.iload 4, 2) := by decide +kernel
theorem dX12_normalAt_69 : decode cX12_normalAt 69 = .ok (.ifCond .ne 46, 3) := by decide +kernel
theorem dX12_normalAt_72 : decode cX12_normalAt 72 = .ok (.aload_n 0, 1) := by decide +kernel
theorem dX12_normalAt_73 : decode cX12_normalAt 73 = .ok (.aload_n 0, 1) := by decide +kernel
theorem dX12_normalAt_74 : decode cX12_normalAt 74 = .ok (.getfield 74, 3) := by decide +kernel
theorem dX12_normalAt_77 : decode cX12_normalAt 77 = .ok (.aload_n 0, 1) := by decide +kernel
theorem dX12_normalAt_78 : decode cX12_normalAt 78 = .ok (.getfield 65, 3) := by decide +kernel
theorem dX12_normalAt_81 : decode cX12_normalAt 81 = .ok (.iload_n 1, 1) := by decide +kernel
theorem dX12_normalAt_82 : decode cX12_normalAt 82 = .ok (.iaload, 1) := by decide +kernel
theorem dX12_normalAt_83 : decode cX12_normalAt 83 = .ok (.iload 5, 2) := by decide +kernel
theorem dX12_normalAt_85 : decode cX12_normalAt 85 = .ok (.iadd, 1) := by decide +kernel
theorem dX12_normalAt_86 : decode cX12_normalAt 86 = .ok (.iaload, 1) := by decide +kernel
theorem dX12_normalAt_87 : decode cX12_normalAt 87 = .ok (.invokevirtual 492, 3) := by decide +kernel
theorem dX12_normalAt_90 : decode cX12_normalAt 90 = .ok (.istore 6, 2) := by decide +kernel
theorem dX12_normalAt_92 : decode cX12_normalAt 92 = .ok (.iload_n 3, 1) := by decide +kernel
theorem dX12_normalAt_93 : decode cX12_normalAt 93 = .ok (.iconst 0, 1) := by decide +kernel
theorem dX12_normalAt_94 : decode cX12_normalAt 94 = .ok (.iload 6, 2) := by decide +kernel
theorem dX12_normalAt_96 : decode cX12_normalAt 96 = .ok (.iconst 1, 1) := by decide +kernel
theorem dX12_normalAt_97 : decode cX12_normalAt 97 = .ok (.isub, 1) := by decide +kernel
theorem dX12_normalAt_98 : decode cX12_normalAt 98 = .ok (.invokestatic 451, 3) := by decide +kernel
theorem dX12_normalAt_101 : decode cX12_normalAt 101 = .ok (.ifCond .eq 12, 3) := by decide +kernel
theorem dX12_normalAt_104 : decode cX12_normalAt 104 = .ok (.aload_n 0, 1) := by decide +kernel
theorem dX12_normalAt_105 : decode cX12_normalAt 105 = .ok (.getfield 127, 3) := by decide +kernel
theorem dX12_normalAt_108 : decode cX12_normalAt 108 = .ok (.iload_n 3, 1) := by decide +kernel
theorem dX12_normalAt_109 : decode cX12_normalAt 109 = .ok (.iaload, 1) := by decide +kernel
theorem dX12_normalAt_110 : decode cX12_normalAt 110 = .ok (.goto 4, 3) := by decide +kernel
theorem dX12_normalAt_113 : decode cX12_normalAt 113 = .ok (.iconst (-1), 1) := by decide +kernel
theorem dX12_normalAt_114 : decode cX12_normalAt 114 = .ok (.ireturn, 1) := by decide +kernel
theorem dX12_normalAt_115 : decode cX12_normalAt 115 = .ok (.iinc 4 (-1), 3) := by decide +kernel
theorem dX12_normalAt_118 : decode cX12_normalAt 118 = .ok (.iinc 5 1, 3) := by decide +kernel
theorem dX12_normalAt_121 : decode cX12_normalAt 121 = .ok (.goto (-85), 3) := by decide +kernel
theorem dX12_normalAt_124 : decode cX12_normalAt 124 = .ok (.iconst (-1), 1) := by decide +kernel
theorem dX12_normalAt_125 : decode cX12_normalAt 125 = .ok (.ireturn, 1) := by decide +kernel
theorem dX12_endOf_0 : decode cX12_endOf 0 = .ok (.iconst 1, 1) := by decide +kernel
theorem dX12_endOf_1 : decode cX12_endOf 1 = .ok (.istore_n 2, 1) := by decide +kernel
theorem dX12_endOf_2 : decode cX12_endOf 2 = .ok (.iload_n 1, 1) := by decide +kernel
theorem dX12_endOf_3 : decode cX12_endOf 3 = .ok (.istore_n 3, 1) := by decide +kernel
theorem dX12_endOf_4 : decode cX12_endOf 4 = .ok (.iload_n 2, 1) := by decide +kernel
theorem dX12_endOf_5 : decode cX12_endOf 5 = .ok (.ifCond .le 42, 3) := by decide +kernel
theorem dX12_endOf_8 : decode cX12_endOf 8 = .ok (.iload_n 2, 1) := by decide +kernel
theorem dX12_endOf_9 : decode cX12_endOf 9 = .ok (.aload_n 0, 1) := by decide +kernel
theorem dX12_endOf_10 : decode cX12_endOf 10 = .ok (.getfield 44, 3) := by decide +kernel
theorem dX12_endOf_13 : decode cX12_endOf 13 = .ok (.iload_n 3, 1) := by decide +kernel
theorem dX12_endOf_14 : decode cX12_endOf 14 = .ok (.iaload, 1) := by decide +kernel
theorem dX12_endOf_15 : decode cX12_endOf 15 = .ok (.ifCond .le 23, 3) := by decide +kernel
theorem dX12_endOf_18 : decode cX12_endOf 18 = .ok (.aload_n 0, 1) := by decide +kernel
theorem dX12_endOf_19 : decode cX12_endOf 19 = .ok (.getfield 33, 3) := by decide +kernel
theorem dX12_endOf_22 : decode cX12_endOf 22 = .ok (.iconst 4, 1) := by decide +kernel
theorem dX12_endOf_23 : decode cX12_endOf 23 = .ok (.aload_n 0, 1) := by decide +kernel
theorem dX12_endOf_24 : decode cX12_endOf 24 = .ok (.getfield 44, 3) := by decide +kernel
theorem dX12_endOf_27 : decode cX12_endOf 27 = .ok (.iload_n 3, 1) := by decide +kernel
theorem dX12_endOf_28 : decode cX12_endOf 28 = .ok (.iaload, 1) := by decide +kernel
theorem dX12_endOf_29 : decode cX12_endOf 29 = .ok (.iadd, 1) := by decide +kernel
theorem dX12_endOf_30 : decode cX12_endOf 30 = .ok (.iconst 1, 1) := by decide +kernel
theorem dX12_endOf_31 : decode cX12_endOf 31 = .ok (.isub, 1) := by decide +kernel
theorem dX12_endOf_32 : decode cX12_endOf 32 = .ok (.iaload, 1) := by decide +kernel
theorem dX12_endOf_33 : decode cX12_endOf 33 = .ok (.iconst 1, 1) := by decide +kernel
theorem dX12_endOf_34 : decode cX12_endOf 34 = .ok (.isub, 1) := by decide +kernel
theorem dX12_endOf_35 : decode cX12_endOf 35 = .ok (.goto 4, 3) := by decide +kernel
theorem dX12_endOf_38 : decode cX12_endOf 38 = .ok (.iconst (-1), 1) := by decide +kernel
theorem dX12_endOf_39 : decode cX12_endOf 39 = .ok (.iadd, 1) := by decide +kernel
theorem dX12_endOf_40 : decode cX12_endOf 40 = .ok (.istore_n 2, 1) := by decide +kernel
theorem dX12_endOf_41 : decode cX12_endOf 41 = .ok (.iinc 3 1, 3) := by decide +kernel
theorem dX12_endOf_44 : decode cX12_endOf 44 = .ok (.goto (-40), 3) := by decide +kernel
theorem dX12_endOf_47 : decode cX12_endOf 47 = .ok (.iload_n 3, 1) := by decide +kernel
theorem dX12_endOf_48 : decode cX12_endOf 48 = .ok (.ireturn, 1) := by decide +kernel
theorem dX12_hasPiece_0 : decode cX12_hasPiece 0 = .ok (.iconst 0, 1) := by decide +kernel
theorem dX12_hasPiece_1 : decode cX12_hasPiece 1 = .ok (.istore_n 2, 1) := by decide +kernel
theorem dX12_hasPiece_2 : decode cX12_hasPiece 2 = .ok (.iload_n 1, 1) := by decide +kernel
theorem dX12_hasPiece_3 : decode cX12_hasPiece 3 = .ok (.istore_n 3, 1) := by decide +kernel
theorem dX12_hasPiece_4 : decode cX12_hasPiece 4 = .ok (.iload_n 3, 1) := by decide +kernel
theorem dX12_hasPiece_5 : decode cX12_hasPiece 5 = .ok (.iconst 1, 1) := by decide +kernel
theorem dX12_hasPiece_6 : decode cX12_hasPiece 6 = .ok (.if_icmp .le 13, 3) := by decide +kernel
theorem dX12_hasPiece_9 : decode cX12_hasPiece 9 = .ok (.iinc 2 1, 3) := by decide +kernel
theorem dX12_hasPiece_12 : decode cX12_hasPiece 12 = .ok (.iload_n 3, 1) := by decide +kernel
theorem dX12_hasPiece_13 : decode cX12_hasPiece 13 = .ok (.iconst 2, 1) := by decide +kernel
theorem dX12_hasPiece_14 : decode cX12_hasPiece 14 = .ok (.ishr, 1) := by decide +kernel
theorem dX12_hasPiece_15 : decode cX12_hasPiece 15 = .ok (.istore_n 3, 1) := by decide +kernel
theorem dX12_hasPiece_16 : decode cX12_hasPiece 16 = .ok (.goto (-12), 3) := by decide +kernel
theorem dX12_hasPiece_19 : decode cX12_hasPiece 19 = .ok (.iconst 0, 1) := by decide +kernel
theorem dX12_hasPiece_20 : decode cX12_hasPiece 20 = .ok (.istore_n 3, 1) := by decide +kernel
theorem dX12_hasPiece_21 : decode cX12_hasPiece 21 = .ok (.iload_n 3, 1) := by decide +kernel
theorem dX12_hasPiece_22 : decode cX12_hasPiece 22 = .ok (.iload_n 2, 1) := by decide +kernel
theorem dX12_hasPiece_23 : decode cX12_hasPiece 23 = .ok (.if_icmp .ge 26, 3) := by decide +kernel
theorem dX12_hasPiece_26 : decode cX12_hasPiece 26 = .ok (.aload_n 0, 1) := by decide +kernel
theorem dX12_hasPiece_27 : decode cX12_hasPiece 27 = .ok (.getfield 133, 3) := by decide +kernel
theorem dX12_hasPiece_30 : decode cX12_hasPiece 30 = .ok (.iload_n 3, 1) := by decide +kernel
theorem dX12_hasPiece_31 : decode cX12_hasPiece 31 = .ok (.iload_n 1, 1) := by decide +kernel
theorem dX12_hasPiece_32 : decode cX12_hasPiece 32 = .ok (.iconst 2, 1) := by decide +kernel
theorem dX12_hasPiece_33 : decode cX12_hasPiece 33 = .ok (.iload_n 2, 1) := by decide +kernel
theorem dX12_hasPiece_34 : decode cX12_hasPiece 34 = .ok (.iconst 1, 1) := by decide +kernel
theorem dX12_hasPiece_35 : decode cX12_hasPiece 35 = .ok (.isub, 1) := by decide +kernel
theorem dX12_hasPiece_36 : decode cX12_hasPiece 36 = .ok (.iload_n 3, 1) := by decide +kernel
theorem dX12_hasPiece_37 : decode cX12_hasPiece 37 = .ok (.isub, 1) := by decide +kernel
theorem dX12_hasPiece_38 : decode cX12_hasPiece 38 = .ok (.imul, 1) := by decide +kernel
theorem dX12_hasPiece_39 : decode cX12_hasPiece 39 = .ok (.ishr, 1) := by decide +kernel
theorem dX12_hasPiece_40 : decode cX12_hasPiece 40 = .ok (.iconst 3, 1) := by decide +kernel
theorem dX12_hasPiece_41 : decode cX12_hasPiece 41 = .ok (.iand, 1) := by decide +kernel
theorem dX12_hasPiece_42 : decode cX12_hasPiece 42 = .ok (.iastore, 1) := by decide +kernel
theorem dX12_hasPiece_43 : decode cX12_hasPiece 43 = .ok (.iinc 3 1, 3) := by decide +kernel
theorem dX12_hasPiece_46 : decode cX12_hasPiece 46 = .ok (.goto (-25), 3) := by decide +kernel
theorem dX12_hasPiece_49 : decode cX12_hasPiece 49 = .ok (.iconst 0, 1) := by decide +kernel
theorem dX12_hasPiece_50 : decode cX12_hasPiece 50 = .ok (.istore_n 3, 1) := by decide +kernel
theorem dX12_hasPiece_51 : decode cX12_hasPiece 51 = .ok (.iload_n 3, 1) := by decide +kernel
theorem dX12_hasPiece_52 : decode cX12_hasPiece 52 = .ok (.aload_n 0, 1) := by decide +kernel
theorem dX12_hasPiece_53 : decode cX12_hasPiece 53 = .ok (.getfield 274, 3) := by decide +kernel
theorem dX12_hasPiece_56 : decode cX12_hasPiece 56 = .ok (.if_icmp .ge 90, 3) := by decide +kernel
theorem dX12_hasPiece_59 : decode cX12_hasPiece 59 = .ok (.iload_n 3, 1) := by decide +kernel
theorem dX12_hasPiece_60 : decode cX12_hasPiece 60 = .ok (.istore 4, 2) := by decide +kernel
theorem dX12_hasPiece_62 : decode cX12_hasPiece 62 = .ok (.iconst 1, 1) := by decide +kernel
theorem dX12_hasPiece_63 : decode cX12_hasPiece 63 = .ok (.istore 5, 2) := by decide +kernel
theorem dX12_hasPiece_65 : decode cX12_hasPiece 65 = .ok (.iconst 0, 1) := by decide +kernel
theorem dX12_hasPiece_66 : decode cX12_hasPiece 66 = .ok (.istore 6, 2) := by decide +kernel
theorem dX12_hasPiece_68 : decode cX12_hasPiece 68 = .ok (.iload 6, 2) := by decide +kernel
theorem dX12_hasPiece_70 : decode cX12_hasPiece 70 = .ok (.iload_n 2, 1) := by decide +kernel
theorem dX12_hasPiece_71 : decode cX12_hasPiece 71 = .ok (.if_icmp .ge 62, 3) := by decide +kernel
theorem dX12_hasPiece_74 : decode cX12_hasPiece 74 = .ok (.iload 5, 2) := by decide +kernel
theorem dX12_hasPiece_76 : decode cX12_hasPiece 76 = .ok (.ifCond .eq 57, 3) := by decide +kernel
theorem dX12_hasPiece_79 : decode cX12_hasPiece 79 = .ok (.aload_n 0, 1) := by decide +kernel
theorem dX12_hasPiece_80 : decode cX12_hasPiece 80 = .ok (.getfield 133, 3) := by decide +kernel
theorem dX12_hasPiece_83 : decode cX12_hasPiece 83 = .ok (.iload 6, 2) := by decide +kernel
theorem dX12_hasPiece_85 : decode cX12_hasPiece 85 = .ok (.iaload, 1) := by decide +kernel
theorem dX12_hasPiece_86 : decode cX12_hasPiece 86 = .ok (.ifCond .ne 14, 3) := by decide +kernel
theorem dX12_hasPiece_89 : decode cX12_hasPiece 89 = .ok (.aload_n 0, 1) := by decide +kernel
theorem dX12_hasPiece_90 : decode cX12_hasPiece 90 = .ok (.iload 4, 2) := by decide +kernel
theorem dX12_hasPiece_92 : decode cX12_hasPiece 92 = .ok (.invokevirtual 504, 3) := by decide +kernel
theorem dX12_hasPiece_95 : decode cX12_hasPiece 95 = .ok (.istore 4, 2) := by decide +kernel
theorem dX12_hasPiece_97 : decode cX12_hasPiece 97 = .ok (.goto 30, 3) := by decide +kernel
theorem dX12_hasPiece_100 : decode cX12_hasPiece 100 = .ok (.aload_n 0, 1) := by decide +kernel
theorem dX12_hasPiece_101 : decode cX12_hasPiece 101 = .ok (.getfield 44, 3) := by decide +kernel
theorem dX12_hasPiece_104 : decode cX12_hasPiece 104 = .ok (.iload 4, 2) := by decide +kernel
theorem dX12_hasPiece_106 : decode cX12_hasPiece 106 = .ok (.iaload, 1) := by decide +kernel
theorem dX12_hasPiece_107 : decode cX12_hasPiece 107 = .ok (.aload_n 0, 1) := by decide +kernel
theorem dX12_hasPiece_108 : decode cX12_hasPiece 108 = .ok (.getfield 133, 3) := by decide +kernel
theorem dX12_hasPiece_111 : decode cX12_hasPiece 111 = .ok (.iload 6, 2) := by decide +kernel
theorem dX12_hasPiece_113 : decode cX12_hasPiece 113 = .ok (.iaload, 1) := by decide +kernel
theorem dX12_hasPiece_114 : decode cX12_hasPiece 114 = .ok (.if_icmp .ne 7, 3) := by decide +kernel
theorem dX12_hasPiece_117 : decode cX12_hasPiece 117 = .ok (.iconst 1, 1) := by decide +kernel
theorem dX12_hasPiece_118 : decode cX12_hasPiece 118 = .ok (.goto 4, 3) := by decide +kernel
theorem dX12_hasPiece_121 : decode cX12_hasPiece 121 = .ok (.iconst 0, 1) := by decide +kernel
theorem dX12_hasPiece_122 : decode cX12_hasPiece 122 = .ok (.istore 5, 2) := by decide +kernel
theorem dX12_hasPiece_124 : decode cX12_hasPiece 124 = .ok (.iinc 4 1, 3) := by decide +kernel
theorem dX12_hasPiece_127 : decode cX12_hasPiece 127 = .ok (.iinc 6 1, 3) := by decide +kernel
theorem dX12_hasPiece_130 : decode cX12_hasPiece 130 = .ok (.goto (-62), 3) := by decide +kernel
theorem dX12_hasPiece_133 : decode cX12_hasPiece 133 = .ok (.iload 5, 2) := by decide +kernel
theorem dX12_hasPiece_135 : decode cX12_hasPiece 135 = .ok (.ifCond .eq 5, 3) := by decide +kernel
theorem dX12_hasPiece_138 : decode cX12_hasPiece 138 = .ok (.iconst 1, 1) := by decide +kernel
theorem dX12_hasPiece_139 : decode cX12_hasPiece 139 = .ok (.ireturn, 1) := by decide +kernel
theorem dX12_hasPiece_140 : decode cX12_hasPiece 140 = .ok (.iinc 3 1, 3) := by decide +kernel
theorem dX12_hasPiece_143 : decode cX12_hasPiece 143 = .ok (.goto (-92), 3) := by decide +kernel
theorem dX12_hasPiece_146 : decode cX12_hasPiece 146 = .ok (.iconst 0, 1) := by decide +kernel
theorem dX12_hasPiece_147 : decode cX12_hasPiece 147 = .ok (.ireturn, 1) := by decide +kernel
theorem dX12_bareOf_0 : decode cX12_bareOf 0 = .ok (.iconst 0, 1) := by decide +kernel
theorem dX12_bareOf_1 : decode cX12_bareOf 1 = .ok (.istore_n 2, 1) := by decide +kernel
theorem dX12_bareOf_2 : decode cX12_bareOf 2 = .ok (.iconst 0, 1) := by decide +kernel
theorem dX12_bareOf_3 : decode cX12_bareOf 3 = .ok (.istore_n 3, 1) := by decide +kernel
theorem dX12_bareOf_4 : decode cX12_bareOf 4 = .ok (.iload_n 3, 1) := by decide +kernel
theorem dX12_bareOf_5 : decode cX12_bareOf 5 = .ok (.aload_n 0, 1) := by decide +kernel
theorem dX12_bareOf_6 : decode cX12_bareOf 6 = .ok (.getfield 62, 3) := by decide +kernel
theorem dX12_bareOf_9 : decode cX12_bareOf 9 = .ok (.iload_n 1, 1) := by decide +kernel
theorem dX12_bareOf_10 : decode cX12_bareOf 10 = .ok (.iaload, 1) := by decide +kernel
theorem dX12_bareOf_11 : decode cX12_bareOf 11 = .ok (.if_icmp .ge 124, 3) := by decide +kernel
theorem dX12_bareOf_14 : decode cX12_bareOf 14 = .ok (.aload_n 0, 1) := by decide +kernel
theorem dX12_bareOf_15 : decode cX12_bareOf 15 = .ok (.aload_n 0, 1) := by decide +kernel
theorem dX12_bareOf_16 : decode cX12_bareOf 16 = .ok (.getfield 74, 3) := by decide +kernel
theorem dX12_bareOf_19 : decode cX12_bareOf 19 = .ok (.aload_n 0, 1) := by decide +kernel
theorem dX12_bareOf_20 : decode cX12_bareOf 20 = .ok (.getfield 65, 3) := by decide +kernel
theorem dX12_bareOf_23 : decode cX12_bareOf 23 = .ok (.iload_n 1, 1) := by decide +kernel
theorem dX12_bareOf_24 : decode cX12_bareOf 24 = .ok (.iaload, 1) := by decide +kernel
theorem dX12_bareOf_25 : decode cX12_bareOf 25 = .ok (.iload_n 3, 1) := by decide +kernel
theorem dX12_bareOf_26 : decode cX12_bareOf 26 = .ok (.iadd, 1) := by decide +kernel
theorem dX12_bareOf_27 : decode cX12_bareOf 27 = .ok (.iaload, 1) := by decide +kernel
theorem dX12_bareOf_28 : decode cX12_bareOf 28 = .ok (.invokevirtual 277, 3) := by decide +kernel
theorem dX12_bareOf_31 : decode cX12_bareOf 31 = .ok (.iconst 1, 1) := by decide +kernel
theorem dX12_bareOf_32 : decode cX12_bareOf 32 = .ok (.istore 4, 2) := by decide +kernel
theorem dX12_bareOf_34 : decode cX12_bareOf 34 = .ok (.iconst 0, 1) := by decide +kernel
theorem dX12_bareOf_35 : decode cX12_bareOf 35 = .ok (.istore 5, 2) := by decide +kernel
theorem dX12_bareOf_37 : decode cX12_bareOf 37 = .ok (.iload 5, 2) := by decide +kernel
theorem dX12_bareOf_39 : decode cX12_bareOf 39 = .ok (.aload_n 0, 1) := by decide +kernel
theorem dX12_bareOf_40 : decode cX12_bareOf 40 = .ok (.getfield 33, 3) := by decide +kernel
theorem dX12_bareOf_43 : decode cX12_bareOf 43 = .ok (.iconst 2, 1) := by decide +kernel
theorem dX12_bareOf_44 : decode cX12_bareOf 44 = .ok (.iaload, 1) := by decide +kernel
theorem dX12_bareOf_45 : decode cX12_bareOf 45 = .ok (.if_icmp .ge 71, 3) := by decide +kernel
theorem dX12_bareOf_48 : decode cX12_bareOf 48 = .ok (.iload 4, 2) := by decide +kernel
theorem dX12_bareOf_50 : decode cX12_bareOf 50 = .ok (.ifCond .eq 66, 3) := by decide +kernel
theorem dX12_bareOf_53 : decode cX12_bareOf 53 = .ok (.aload_n 0, 1) := by decide +kernel
theorem dX12_bareOf_54 : decode cX12_bareOf 54 = .ok (.getfield 33, 3) := by decide +kernel
theorem dX12_bareOf_57 : decode cX12_bareOf 57 = .ok (.bipush 25, 2) := by decide +kernel
theorem dX12_bareOf_59 : decode cX12_bareOf 59 = .ok (.iload 5, 2) := by decide +kernel
theorem dX12_bareOf_61 : decode cX12_bareOf 61 = .ok (.iadd, 1) := by decide +kernel
theorem dX12_bareOf_62 : decode cX12_bareOf 62 = .ok (.iaload, 1) := by decide +kernel
theorem dX12_bareOf_63 : decode cX12_bareOf 63 = .ok (.aload_n 0, 1) := by decide +kernel
theorem dX12_bareOf_64 : decode cX12_bareOf 64 = .ok (.getfield 33, 3) := by decide +kernel
theorem dX12_bareOf_67 : decode cX12_bareOf 67 = .ok (.bipush 25, 2) := by decide +kernel
theorem dX12_bareOf_69 : decode cX12_bareOf 69 = .ok (.iload 5, 2) := by decide +kernel
theorem dX12_bareOf_71 : decode cX12_bareOf 71 = .ok (.iadd, 1) := by decide +kernel
theorem dX12_bareOf_72 : decode cX12_bareOf 72 = .ok (.iconst 1, 1) := by decide +kernel
theorem dX12_bareOf_73 : decode cX12_bareOf 73 = .ok (.iadd, 1) := by decide +kernel
theorem dX12_bareOf_74 : decode cX12_bareOf 74 = .ok (.iaload, 1) := by decide +kernel
theorem dX12_bareOf_75 : decode cX12_bareOf 75 = .ok (.if_icmp .eq 28, 3) := by decide +kernel
theorem dX12_bareOf_78 : decode cX12_bareOf 78 = .ok (.aload_n 0, 1) := by decide +kernel
theorem dX12_bareOf_79 : decode cX12_bareOf 79 = .ok (.aload_n 0, 1) := by decide +kernel
theorem dX12_bareOf_80 : decode cX12_bareOf 80 = .ok (.getfield 33, 3) := by decide +kernel
theorem dX12_bareOf_83 : decode cX12_bareOf 83 = .ok (.bipush 44, 2) := by decide +kernel
theorem dX12_bareOf_85 : decode cX12_bareOf 85 = .ok (.aload_n 0, 1) := by decide +kernel
theorem dX12_bareOf_86 : decode cX12_bareOf 86 = .ok (.getfield 33, 3) := by decide +kernel
theorem dX12_bareOf_89 : decode cX12_bareOf 89 = .ok (.bipush 25, 2) := by decide +kernel
theorem dX12_bareOf_91 : decode cX12_bareOf 91 = .ok (.iload 5, 2) := by decide +kernel
theorem dX12_bareOf_93 : decode cX12_bareOf 93 = .ok (.iadd, 1) := by decide +kernel
theorem dX12_bareOf_94 : decode cX12_bareOf 94 = .ok (.iaload, 1) := by decide +kernel
theorem dX12_bareOf_95 : decode cX12_bareOf 95 = .ok (.iadd, 1) := by decide +kernel
theorem dX12_bareOf_96 : decode cX12_bareOf 96 = .ok (.iaload, 1) := by decide +kernel
theorem dX12_bareOf_97 : decode cX12_bareOf 97 = .ok (.invokevirtual 507, 3) := by decide +kernel
theorem dX12_bareOf_100 : decode cX12_bareOf 100 = .ok (.ifCond .ne 7, 3) := by decide +kernel
theorem dX12_bareOf_103 : decode cX12_bareOf 103 = .ok (.iconst 1, 1) := by decide +kernel
theorem dX12_bareOf_104 : decode cX12_bareOf 104 = .ok (.goto 4, 3) := by decide +kernel
theorem dX12_bareOf_107 : decode cX12_bareOf 107 = .ok (.iconst 0, 1) := by decide +kernel
theorem dX12_bareOf_108 : decode cX12_bareOf 108 = .ok (.istore 4, 2) := by decide +kernel
theorem dX12_bareOf_110 : decode cX12_bareOf 110 = .ok (.iinc 5 1, 3) := by decide +kernel
theorem dX12_bareOf_113 : decode cX12_bareOf 113 = .ok (.goto (-76), 3) := by decide +kernel
theorem dX12_bareOf_116 : decode cX12_bareOf 116 = .ok (.iload_n 2, 1) := by decide +kernel
theorem dX12_bareOf_117 : decode cX12_bareOf 117 = .ok (.iload 4, 2) := by decide +kernel
theorem dX12_bareOf_119 : decode cX12_bareOf 119 = .ok (.ifCond .eq 7, 3) := by decide +kernel
theorem dX12_bareOf_122 : decode cX12_bareOf 122 = .ok (.iconst 1, 1) := by decide +kernel
theorem dX12_bareOf_123 : decode cX12_bareOf 123 = .ok (.goto 4, 3) := by decide +kernel
theorem dX12_bareOf_126 : decode cX12_bareOf 126 = .ok (.iconst 0, 1) := by decide +kernel
theorem dX12_bareOf_127 : decode cX12_bareOf 127 = .ok (.iadd, 1) := by decide +kernel
theorem dX12_bareOf_128 : decode cX12_bareOf 128 = .ok (.istore_n 2, 1) := by decide +kernel
theorem dX12_bareOf_129 : decode cX12_bareOf 129 = .ok (.iinc 3 1, 3) := by decide +kernel
theorem dX12_bareOf_132 : decode cX12_bareOf 132 = .ok (.goto (-128), 3) := by decide +kernel
theorem dX12_bareOf_135 : decode cX12_bareOf 135 = .ok (.iload_n 2, 1) := by decide +kernel
theorem dX12_bareOf_136 : decode cX12_bareOf 136 = .ok (.ireturn, 1) := by decide +kernel
theorem dX12_bare_0 : decode cX12_bare 0 = .ok (.aload_n 0, 1) := by decide +kernel
theorem dX12_bare_1 : decode cX12_bare 1 = .ok (.iconst 0, 1) := by decide +kernel
theorem dX12_bare_2 : decode cX12_bare 2 = .ok (.putfield 1, 3) := by decide +kernel
theorem dX12_bare_5 : decode cX12_bare 5 = .ok (.iload_n 1, 1) := by decide +kernel
theorem dX12_bare_6 : decode cX12_bare 6 = .ok (.iconst 1, 1) := by decide +kernel
theorem dX12_bare_7 : decode cX12_bare 7 = .ok (.bipush 7, 2) := by decide +kernel
theorem dX12_bare_9 : decode cX12_bare 9 = .ok (.invokestatic 451, 3) := by decide +kernel
theorem dX12_bare_12 : decode cX12_bare 12 = .ok (.ifCond .eq 12, 3) := by decide +kernel
theorem dX12_bare_15 : decode cX12_bare 15 = .ok (.aload_n 0, 1) := by decide +kernel
theorem dX12_bare_16 : decode cX12_bare 16 = .ok (.iconst 0, 1) := by decide +kernel
theorem dX12_bare_17 : decode cX12_bare 17 = .ok (.iload_n 1, 1) := by decide +kernel
theorem dX12_bare_18 : decode cX12_bare 18 = .ok (.invokevirtual 495, 3) := by decide +kernel
theorem dX12_bare_21 : decode cX12_bare 21 = .ok (.ifCond .eq 7, 3) := by decide +kernel
theorem dX12_bare_24 : decode cX12_bare 24 = .ok (.iconst (-1), 1) := by decide +kernel
theorem dX12_bare_25 : decode cX12_bare 25 = .ok (.goto 8, 3) := by decide +kernel
theorem dX12_bare_28 : decode cX12_bare 28 = .ok (.aload_n 0, 1) := by decide +kernel
theorem dX12_bare_29 : decode cX12_bare 29 = .ok (.iload_n 1, 1) := by decide +kernel
theorem dX12_bare_30 : decode cX12_bare 30 = .ok (.invokevirtual 510, 3) := by decide +kernel
theorem dX12_bare_33 : decode cX12_bare 33 = .ok (.ireturn, 1) := by decide +kernel
theorem dX12_closed_0 : decode cX12_closed 0 = .ok (.aload_n 0, 1) := by decide +kernel
theorem dX12_closed_1 : decode cX12_closed 1 = .ok (.iconst 0, 1) := by decide +kernel
theorem dX12_closed_2 : decode cX12_closed 2 = .ok (.putfield 1, 3) := by decide +kernel
theorem dX12_closed_5 : decode cX12_closed 5 = .ok (.iload_n 1, 1) := by decide +kernel
theorem dX12_closed_6 : decode cX12_closed 6 = .ok (.iconst 1, 1) := by decide +kernel
theorem dX12_closed_7 : decode cX12_closed 7 = .ok (.bipush 7, 2) := by decide +kernel
theorem dX12_closed_9 : decode cX12_closed 9 = .ok (.invokestatic 451, 3) := by decide +kernel
theorem dX12_closed_12 : decode cX12_closed 12 = .ok (.ifCond .ne 6, 3) := by decide +kernel
theorem dX12_closed_15 : decode cX12_closed 15 = .ok (.bipush (-2), 2) := by decide +kernel
theorem dX12_closed_17 : decode cX12_closed 17 = .ok (.ireturn, 1) := by decide +kernel
theorem dX12_closed_18 : decode cX12_closed 18 = .ok (.iconst 1, 1) := by decide +kernel
theorem dX12_closed_19 : decode cX12_closed 19 = .ok (.istore_n 2, 1) := by decide +kernel
theorem dX12_closed_20 : decode cX12_closed 20 = .ok (.iload_n 2, 1) := by decide +kernel
theorem dX12_closed_21 : decode cX12_closed 21 = .ok (.iload_n 1, 1) := by decide +kernel
theorem dX12_closed_22 : decode cX12_closed 22 = .ok (.if_icmp .gt 36, 3) := by decide +kernel
theorem dX12_closed_25 : decode cX12_closed 25 = .ok (.aload_n 0, 1) := by decide +kernel
theorem dX12_closed_26 : decode cX12_closed 26 = .ok (.iconst 0, 1) := by decide +kernel
theorem dX12_closed_27 : decode cX12_closed 27 = .ok (.iload_n 2, 1) := by decide +kernel
theorem dX12_closed_28 : decode cX12_closed 28 = .ok (.invokevirtual 495, 3) := by decide +kernel
theorem dX12_closed_31 : decode cX12_closed 31 = .ok (.ifCond .eq 5, 3) := by decide +kernel
theorem dX12_closed_34 : decode cX12_closed 34 = .ok (.iconst (-1), 1) := by decide +kernel
theorem dX12_closed_35 : decode cX12_closed 35 = .ok (.ireturn, 1) := by decide +kernel
theorem dX12_closed_36 : decode cX12_closed 36 = .ok (.aload_n 0, 1) := by decide +kernel
theorem dX12_closed_37 : decode cX12_closed 37 = .ok (.iload_n 2, 1) := by decide +kernel
theorem dX12_closed_38 : decode cX12_closed 38 = .ok (.invokevirtual 510, 3) := by decide +kernel
theorem dX12_closed_41 : decode cX12_closed 41 = .ok (.aload_n 0, 1) := by decide +kernel
theorem dX12_closed_42 : decode cX12_closed 42 = .ok (.iconst 0, 1) := by decide +kernel
theorem dX12_closed_43 : decode cX12_closed 43 = .ok (.iload_n 2, 1) := by decide +kernel
theorem dX12_closed_44 : decode cX12_closed 44 = .ok (.invokevirtual 501, 3) := by decide +kernel
theorem dX12_closed_47 : decode cX12_closed 47 = .ok (.if_icmp .eq 5, 3) := by decide +kernel
theorem dX12_closed_50 : decode cX12_closed 50 = .ok (.iload_n 2, 1) := by decide +kernel
theorem dX12_closed_51 : decode cX12_closed 51 = .ok (.ireturn, 1) := by decide +kernel
theorem dX12_closed_52 : decode cX12_closed 52 = .ok (.iinc 2 1, 3) := by decide +kernel
theorem dX12_closed_55 : decode cX12_closed 55 = .ok (.goto (-35), 3) := by decide +kernel
theorem dX12_closed_58 : decode cX12_closed 58 = .ok (.iconst (-1), 1) := by decide +kernel
theorem dX12_closed_59 : decode cX12_closed 59 = .ok (.ireturn, 1) := by decide +kernel
theorem dX12_plugged_0 : decode cX12_plugged 0 = .ok (.aload_n 0, 1) := by decide +kernel
theorem dX12_plugged_1 : decode cX12_plugged 1 = .ok (.iload_n 1, 1) := by decide +kernel
theorem dX12_plugged_2 : decode cX12_plugged 2 = .ok (.invokevirtual 277, 3) := by decide +kernel
theorem dX12_plugged_5 : decode cX12_plugged 5 = .ok (.iconst 1, 1) := by decide +kernel
theorem dX12_plugged_6 : decode cX12_plugged 6 = .ok (.istore 4, 2) := by decide +kernel
theorem dX12_plugged_8 : decode cX12_plugged 8 = .ok (.iconst 0, 1) := by decide +kernel
theorem dX12_plugged_9 : decode cX12_plugged 9 = .ok (.istore 5, 2) := by decide +kernel
theorem dX12_plugged_11 : decode cX12_plugged 11 = .ok (.iconst 0, 1) := by decide +kernel
theorem dX12_plugged_12 : decode cX12_plugged 12 = .ok (.istore 6, 2) := by decide +kernel
theorem dX12_plugged_14 : decode cX12_plugged 14 = .ok (.iload 6, 2) := by decide +kernel
theorem dX12_plugged_16 : decode cX12_plugged 16 = .ok (.aload_n 0, 1) := by decide +kernel
theorem dX12_plugged_17 : decode cX12_plugged 17 = .ok (.getfield 274, 3) := by decide +kernel
theorem dX12_plugged_20 : decode cX12_plugged 20 = .ok (.if_icmp .ge 80, 3) := by decide +kernel
theorem dX12_plugged_23 : decode cX12_plugged 23 = .ok (.aload_n 0, 1) := by decide +kernel
theorem dX12_plugged_24 : decode cX12_plugged 24 = .ok (.getfield 44, 3) := by decide +kernel
theorem dX12_plugged_27 : decode cX12_plugged 27 = .ok (.iload 6, 2) := by decide +kernel
theorem dX12_plugged_29 : decode cX12_plugged 29 = .ok (.iaload, 1) := by decide +kernel
theorem dX12_plugged_30 : decode cX12_plugged 30 = .ok (.ifCond .ne 13, 3) := by decide +kernel
theorem dX12_plugged_33 : decode cX12_plugged 33 = .ok (.iload 5, 2) := by decide +kernel
theorem dX12_plugged_35 : decode cX12_plugged 35 = .ok (.iload_n 2, 1) := by decide +kernel
theorem dX12_plugged_36 : decode cX12_plugged 36 = .ok (.if_icmp .ne 7, 3) := by decide +kernel
theorem dX12_plugged_39 : decode cX12_plugged 39 = .ok (.iconst 1, 1) := by decide +kernel
theorem dX12_plugged_40 : decode cX12_plugged 40 = .ok (.goto 4, 3) := by decide +kernel
theorem dX12_plugged_43 : decode cX12_plugged 43 = .ok (.iconst 0, 1) := by decide +kernel
theorem dX12_plugged_44 : decode cX12_plugged 44 = .ok (.istore 7, 2) := by decide +kernel
theorem dX12_plugged_46 : decode cX12_plugged 46 = .ok (.iload 7, 2) := by decide +kernel
theorem dX12_plugged_48 : decode cX12_plugged 48 = .ok (.ifCond .eq 12, 3) := by decide +kernel
theorem dX12_plugged_51 : decode cX12_plugged 51 = .ok (.iload 4, 2) := by decide +kernel
theorem dX12_plugged_53 : decode cX12_plugged 53 = .ok (.iload_n 3, 1) := by decide +kernel
theorem dX12_plugged_54 : decode cX12_plugged 54 = .ok (.invokestatic 317, 3) := by decide +kernel
theorem dX12_plugged_57 : decode cX12_plugged 57 = .ok (.goto 15, 3) := by decide +kernel
theorem dX12_plugged_60 : decode cX12_plugged 60 = .ok (.iload 4, 2) := by decide +kernel
theorem dX12_plugged_62 : decode cX12_plugged 62 = .ok (.iconst 2, 1) := by decide +kernel
theorem dX12_plugged_63 : decode cX12_plugged 63 = .ok (.ishl, 1) := by decide +kernel
theorem dX12_plugged_64 : decode cX12_plugged 64 = .ok (.aload_n 0, 1) := by decide +kernel
theorem dX12_plugged_65 : decode cX12_plugged 65 = .ok (.getfield 44, 3) := by decide +kernel
theorem dX12_plugged_68 : decode cX12_plugged 68 = .ok (.iload 6, 2) := by decide +kernel
theorem dX12_plugged_70 : decode cX12_plugged 70 = .ok (.iaload, 1) := by decide +kernel
theorem dX12_plugged_71 : decode cX12_plugged 71 = .ok (.ior, 1) := by decide +kernel
theorem dX12_plugged_72 : decode cX12_plugged 72 = .ok (.istore 4, 2) := by decide +kernel
theorem dX12_plugged_74 : decode cX12_plugged 74 = .ok (.iload 5, 2) := by decide +kernel
theorem dX12_plugged_76 : decode cX12_plugged 76 = .ok (.aload_n 0, 1) := by decide +kernel
theorem dX12_plugged_77 : decode cX12_plugged 77 = .ok (.getfield 44, 3) := by decide +kernel
theorem dX12_plugged_80 : decode cX12_plugged 80 = .ok (.iload 6, 2) := by decide +kernel
theorem dX12_plugged_82 : decode cX12_plugged 82 = .ok (.iaload, 1) := by decide +kernel
theorem dX12_plugged_83 : decode cX12_plugged 83 = .ok (.ifCond .ne 7, 3) := by decide +kernel
theorem dX12_plugged_86 : decode cX12_plugged 86 = .ok (.iconst 1, 1) := by decide +kernel
theorem dX12_plugged_87 : decode cX12_plugged 87 = .ok (.goto 4, 3) := by decide +kernel
theorem dX12_plugged_90 : decode cX12_plugged 90 = .ok (.iconst 0, 1) := by decide +kernel
theorem dX12_plugged_91 : decode cX12_plugged 91 = .ok (.iadd, 1) := by decide +kernel
theorem dX12_plugged_92 : decode cX12_plugged 92 = .ok (.istore 5, 2) := by decide +kernel
theorem dX12_plugged_94 : decode cX12_plugged 94 = .ok (.iinc 6 1, 3) := by decide +kernel
theorem dX12_plugged_97 : decode cX12_plugged 97 = .ok (.goto (-83), 3) := by decide +kernel
theorem dX12_plugged_100 : decode cX12_plugged 100 = .ok (.iload 4, 2) := by decide +kernel
theorem dX12_plugged_102 : decode cX12_plugged 102 = .ok (.ireturn, 1) := by decide +kernel
theorem dX12_plug_0 : decode cX12_plug 0 = .ok (.aload_n 0, 1) := by decide +kernel
theorem dX12_plug_1 : decode cX12_plug 1 = .ok (.iconst 0, 1) := by decide +kernel
theorem dX12_plug_2 : decode cX12_plug 2 = .ok (.putfield 1, 3) := by decide +kernel
theorem dX12_plug_5 : decode cX12_plug 5 = .ok (.aload_n 0, 1) := by decide +kernel
theorem dX12_plug_6 : decode cX12_plug 6 = .ok (.invokevirtual 483, 3) := by decide +kernel
theorem dX12_plug_9 : decode cX12_plug 9 = .ok (.ifCond .ne 10, 3) := by decide +kernel
theorem dX12_plug_12 : decode cX12_plug 12 = .ok (.iconst (-1), 1) := by decide +kernel
theorem dX12_plug_13 : decode cX12_plug 13 = .ok (.aload_n 0, 1) := by decide +kernel
theorem dX12_plug_14 : decode cX12_plug 14 = .ok (.getfield 262, 3) := by decide +kernel
theorem dX12_plug_17 : decode cX12_plug 17 = .ok (.isub, 1) := by decide +kernel
theorem dX12_plug_18 : decode cX12_plug 18 = .ok (.ireturn, 1) := by decide +kernel
theorem dX12_plug_19 : decode cX12_plug 19 = .ok (.iload_n 1, 1) := by decide +kernel
theorem dX12_plug_20 : decode cX12_plug 20 = .ok (.iconst 0, 1) := by decide +kernel
theorem dX12_plug_21 : decode cX12_plug 21 = .ok (.aload_n 0, 1) := by decide +kernel
theorem dX12_plug_22 : decode cX12_plug 22 = .ok (.getfield 33, 3) := by decide +kernel
theorem dX12_plug_25 : decode cX12_plug 25 = .ok (.sipush 1173, 3) := by decide +kernel
theorem dX12_plug_28 : decode cX12_plug 28 = .ok (.iaload, 1) := by decide +kernel
theorem dX12_plug_29 : decode cX12_plug 29 = .ok (.iconst 1, 1) := by decide +kernel
theorem dX12_plug_30 : decode cX12_plug 30 = .ok (.isub, 1) := by decide +kernel
theorem dX12_plug_31 : decode cX12_plug 31 = .ok (.invokestatic 451, 3) := by decide +kernel
theorem dX12_plug_34 : decode cX12_plug 34 = .ok (.ifCond .ne 7, 3) := by decide +kernel
theorem dX12_plug_37 : decode cX12_plug 37 = .ok (.sipush (-1000), 3) := by decide +kernel
theorem dX12_plug_40 : decode cX12_plug 40 = .ok (.ireturn, 1) := by decide +kernel
theorem dX12_plug_41 : decode cX12_plug 41 = .ok (.aload_n 0, 1) := by decide +kernel
theorem dX12_plug_42 : decode cX12_plug 42 = .ok (.getfield 33, 3) := by decide +kernel
theorem dX12_plug_45 : decode cX12_plug 45 = .ok (.sipush 1173, 3) := by decide +kernel
theorem dX12_plug_48 : decode cX12_plug 48 = .ok (.iaload, 1) := by decide +kernel
theorem dX12_plug_49 : decode cX12_plug 49 = .ok (.aload_n 0, 1) := by decide +kernel
theorem dX12_plug_50 : decode cX12_plug 50 = .ok (.getfield 382, 3) := by decide +kernel
theorem dX12_plug_53 : decode cX12_plug 53 = .ok (.iadd, 1) := by decide +kernel
theorem dX12_plug_54 : decode cX12_plug 54 = .ok (.iconst 1, 1) := by decide +kernel
theorem dX12_plug_55 : decode cX12_plug 55 = .ok (.isub, 1) := by decide +kernel
theorem dX12_plug_56 : decode cX12_plug 56 = .ok (.bipush 7, 2) := by decide +kernel
theorem dX12_plug_58 : decode cX12_plug 58 = .ok (.if_icmp .gt 22, 3) := by decide +kernel
theorem dX12_plug_61 : decode cX12_plug 61 = .ok (.aload_n 0, 1) := by decide +kernel
theorem dX12_plug_62 : decode cX12_plug 62 = .ok (.getfield 33, 3) := by decide +kernel
theorem dX12_plug_65 : decode cX12_plug 65 = .ok (.sipush 1174, 3) := by decide +kernel
theorem dX12_plug_68 : decode cX12_plug 68 = .ok (.iaload, 1) := by decide +kernel
theorem dX12_plug_69 : decode cX12_plug 69 = .ok (.aload_n 0, 1) := by decide +kernel
theorem dX12_plug_70 : decode cX12_plug 70 = .ok (.getfield 379, 3) := by decide +kernel
theorem dX12_plug_73 : decode cX12_plug 73 = .ok (.imul, 1) := by decide +kernel
theorem dX12_plug_74 : decode cX12_plug 74 = .ok (.sipush 1000, 3) := by decide +kernel
theorem dX12_plug_77 : decode cX12_plug 77 = .ok (.if_icmp .le 7, 3) := by decide +kernel
theorem dX12_plug_80 : decode cX12_plug 80 = .ok (.sipush (-1001), 3) := by decide +kernel
theorem dX12_plug_83 : decode cX12_plug 83 = .ok (.ireturn, 1) := by decide +kernel
theorem dX12_plug_84 : decode cX12_plug 84 = .ok (.aload_n 0, 1) := by decide +kernel
theorem dX12_plug_85 : decode cX12_plug 85 = .ok (.getfield 379, 3) := by decide +kernel
theorem dX12_plug_88 : decode cX12_plug 88 = .ok (.istore_n 2, 1) := by decide +kernel
theorem dX12_plug_89 : decode cX12_plug 89 = .ok (.iconst 0, 1) := by decide +kernel
theorem dX12_plug_90 : decode cX12_plug 90 = .ok (.istore_n 3, 1) := by decide +kernel
theorem dX12_plug_91 : decode cX12_plug 91 = .ok (.iload_n 3, 1) := by decide +kernel
theorem dX12_plug_92 : decode cX12_plug 92 = .ok (.iload_n 2, 1) := by decide +kernel
theorem dX12_plug_93 : decode cX12_plug 93 = .ok (.if_icmp .ge 33, 3) := by decide +kernel
theorem dX12_plug_96 : decode cX12_plug 96 = .ok (.aload_n 0, 1) := by decide +kernel
theorem dX12_plug_97 : decode cX12_plug 97 = .ok (.getfield 136, 3) := by decide +kernel
theorem dX12_plug_100 : decode cX12_plug 100 = .ok (.iload_n 3, 1) := by decide +kernel
theorem dX12_plug_101 : decode cX12_plug 101 = .ok (.aload_n 0, 1) := by decide +kernel
theorem dX12_plug_102 : decode cX12_plug 102 = .ok (.getfield 112, 3) := by decide +kernel
theorem dX12_plug_105 : decode cX12_plug 105 = .ok (.iload_n 3, 1) := by decide +kernel
theorem dX12_plug_106 : decode cX12_plug 106 = .ok (.iaload, 1) := by decide +kernel
theorem dX12_plug_107 : decode cX12_plug 107 = .ok (.iastore, 1) := by decide +kernel
theorem dX12_plug_108 : decode cX12_plug 108 = .ok (.aload_n 0, 1) := by decide +kernel
theorem dX12_plug_109 : decode cX12_plug 109 = .ok (.getfield 139, 3) := by decide +kernel
theorem dX12_plug_112 : decode cX12_plug 112 = .ok (.iload_n 3, 1) := by decide +kernel
theorem dX12_plug_113 : decode cX12_plug 113 = .ok (.aload_n 0, 1) := by decide +kernel
theorem dX12_plug_114 : decode cX12_plug 114 = .ok (.getfield 115, 3) := by decide +kernel
theorem dX12_plug_117 : decode cX12_plug 117 = .ok (.iload_n 3, 1) := by decide +kernel
theorem dX12_plug_118 : decode cX12_plug 118 = .ok (.iaload, 1) := by decide +kernel
theorem dX12_plug_119 : decode cX12_plug 119 = .ok (.iastore, 1) := by decide +kernel
theorem dX12_plug_120 : decode cX12_plug 120 = .ok (.iinc 3 1, 3) := by decide +kernel
theorem dX12_plug_123 : decode cX12_plug 123 = .ok (.goto (-32), 3) := by decide +kernel
theorem dX12_plug_126 : decode cX12_plug 126 = .ok (.aload_n 0, 1) := by decide +kernel
theorem dX12_plug_127 : decode cX12_plug 127 = .ok (.aload_n 0, 1) := by decide +kernel
theorem dX12_plug_128 : decode cX12_plug 128 = .ok (.getfield 33, 3) := by decide +kernel
theorem dX12_plug_131 : decode cX12_plug 131 = .ok (.sipush 1173, 3) := by decide +kernel
theorem dX12_plug_134 : decode cX12_plug 134 = .ok (.iaload, 1) := by decide +kernel
theorem dX12_plug_135 : decode cX12_plug 135 = .ok (.aload_n 0, 1) := by decide +kernel
theorem dX12_plug_136 : decode cX12_plug 136 = .ok (.getfield 382, 3) := by decide +kernel
theorem dX12_plug_139 : decode cX12_plug 139 = .ok (.iadd, 1) := by decide +kernel
theorem dX12_plug_140 : decode cX12_plug 140 = .ok (.iconst 1, 1) := by decide +kernel
theorem dX12_plug_141 : decode cX12_plug 141 = .ok (.isub, 1) := by decide +kernel
theorem dX12_plug_142 : decode cX12_plug 142 = .ok (.invokevirtual 421, 3) := by decide +kernel
theorem dX12_plug_145 : decode cX12_plug 145 = .ok (.iconst 0, 1) := by decide +kernel
theorem dX12_plug_146 : decode cX12_plug 146 = .ok (.istore_n 3, 1) := by decide +kernel
theorem dX12_plug_147 : decode cX12_plug 147 = .ok (.iload_n 3, 1) := by decide +kernel
theorem dX12_plug_148 : decode cX12_plug 148 = .ok (.aload_n 0, 1) := by decide +kernel
theorem dX12_plug_149 : decode cX12_plug 149 = .ok (.getfield 33, 3) := by decide +kernel
theorem dX12_plug_152 : decode cX12_plug 152 = .ok (.sipush 1174, 3) := by decide +kernel
theorem dX12_plug_155 : decode cX12_plug 155 = .ok (.iaload, 1) := by decide +kernel
theorem dX12_plug_156 : decode cX12_plug 156 = .ok (.if_icmp .ge 82, 3) := by decide +kernel
theorem dX12_plug_159 : decode cX12_plug 159 = .ok (.iconst 0, 1) := by decide +kernel
theorem dX12_plug_160 : decode cX12_plug 160 = .ok (.istore 4, 2) := by decide +kernel
theorem dX12_plug_162 : decode cX12_plug 162 = .ok (.iload 4, 2) := by decide +kernel
theorem dX12_plug_164 : decode cX12_plug 164 = .ok (.iload_n 2, 1) := by decide +kernel
theorem dX12_plug_165 : decode cX12_plug 165 = .ok (.if_icmp .ge 67, 3) := by decide +kernel
theorem dX12_plug_168 : decode cX12_plug 168 = .ok (.aload_n 0, 1) := by decide +kernel
theorem dX12_plug_169 : decode cX12_plug 169 = .ok (.aload_n 0, 1) := by decide +kernel
theorem dX12_plug_170 : decode cX12_plug 170 = .ok (.aload_n 0, 1) := by decide +kernel
theorem dX12_plug_171 : decode cX12_plug 171 = .ok (.getfield 33, 3) := by decide +kernel
theorem dX12_plug_174 : decode cX12_plug 174 = .ok (.sipush 1175, 3) := by decide +kernel
theorem dX12_plug_177 : decode cX12_plug 177 = .ok (.iload_n 3, 1) := by decide +kernel
theorem dX12_plug_178 : decode cX12_plug 178 = .ok (.iadd, 1) := by decide +kernel
theorem dX12_plug_179 : decode cX12_plug 179 = .ok (.iaload, 1) := by decide +kernel
theorem dX12_plug_180 : decode cX12_plug 180 = .ok (.iload_n 1, 1) := by decide +kernel
theorem dX12_plug_181 : decode cX12_plug 181 = .ok (.aload_n 0, 1) := by decide +kernel
theorem dX12_plug_182 : decode cX12_plug 182 = .ok (.getfield 136, 3) := by decide +kernel
theorem dX12_plug_185 : decode cX12_plug 185 = .ok (.iload 4, 2) := by decide +kernel
theorem dX12_plug_187 : decode cX12_plug 187 = .ok (.iaload, 1) := by decide +kernel
theorem dX12_plug_188 : decode cX12_plug 188 = .ok (.invokevirtual 513, 3) := by decide +kernel
theorem dX12_plug_191 : decode cX12_plug 191 = .ok (.aload_n 0, 1) := by decide +kernel
theorem dX12_plug_192 : decode cX12_plug 192 = .ok (.getfield 33, 3) := by decide +kernel
theorem dX12_plug_195 : decode cX12_plug 195 = .ok (.sipush 2475, 3) := by decide +kernel
theorem dX12_plug_198 : decode cX12_plug 198 = .ok (.iload_n 3, 1) := by decide +kernel
theorem dX12_plug_199 : decode cX12_plug 199 = .ok (.iadd, 1) := by decide +kernel
theorem dX12_plug_200 : decode cX12_plug 200 = .ok (.iaload, 1) := by decide +kernel
theorem dX12_plug_201 : decode cX12_plug 201 = .ok (.aload_n 0, 1) := by decide +kernel
theorem dX12_plug_202 : decode cX12_plug 202 = .ok (.getfield 139, 3) := by decide +kernel
theorem dX12_plug_205 : decode cX12_plug 205 = .ok (.iload 4, 2) := by decide +kernel
theorem dX12_plug_207 : decode cX12_plug 207 = .ok (.iaload, 1) := by decide +kernel
theorem dX12_plug_208 : decode cX12_plug 208 = .ok (.imul, 1) := by decide +kernel
theorem dX12_plug_209 : decode cX12_plug 209 = .ok (.aload_n 0, 1) := by decide +kernel
theorem dX12_plug_210 : decode cX12_plug 210 = .ok (.getfield 33, 3) := by decide +kernel
theorem dX12_plug_213 : decode cX12_plug 213 = .ok (.iconst 0, 1) := by decide +kernel
theorem dX12_plug_214 : decode cX12_plug 214 = .ok (.iaload, 1) := by decide +kernel
theorem dX12_plug_215 : decode cX12_plug 215 = .ok (.irem, 1) := by decide +kernel
theorem dX12_plug_216 : decode cX12_plug 216 = .ok (.iconst 0, 1) := by decide +kernel
theorem dX12_plug_217 : decode cX12_plug 217 = .ok (.aload_n 0, 1) := by decide +kernel
theorem dX12_plug_218 : decode cX12_plug 218 = .ok (.getfield 33, 3) := by decide +kernel
theorem dX12_plug_221 : decode cX12_plug 221 = .ok (.iconst 0, 1) := by decide +kernel
theorem dX12_plug_222 : decode cX12_plug 222 = .ok (.iaload, 1) := by decide +kernel
theorem dX12_plug_223 : decode cX12_plug 223 = .ok (.invokevirtual 430, 3) := by decide +kernel
theorem dX12_plug_226 : decode cX12_plug 226 = .ok (.iinc 4 1, 3) := by decide +kernel
theorem dX12_plug_229 : decode cX12_plug 229 = .ok (.goto (-67), 3) := by decide +kernel
theorem dX12_plug_232 : decode cX12_plug 232 = .ok (.iinc 3 1, 3) := by decide +kernel
theorem dX12_plug_235 : decode cX12_plug 235 = .ok (.goto (-88), 3) := by decide +kernel
theorem dX12_plug_238 : decode cX12_plug 238 = .ok (.aload_n 0, 1) := by decide +kernel
theorem dX12_plug_239 : decode cX12_plug 239 = .ok (.invokevirtual 434, 3) := by decide +kernel
theorem dX12_plug_242 : decode cX12_plug 242 = .ok (.aload_n 0, 1) := by decide +kernel
theorem dX12_plug_243 : decode cX12_plug 243 = .ok (.invokevirtual 480, 3) := by decide +kernel
theorem dX12_plug_246 : decode cX12_plug 246 = .ok (.ireturn, 1) := by decide +kernel
theorem dX12_times_0 : decode cX12_times 0 = .ok (.aload_n 0, 1) := by decide +kernel
theorem dX12_times_1 : decode cX12_times 1 = .ok (.iconst 0, 1) := by decide +kernel
theorem dX12_times_2 : decode cX12_times 2 = .ok (.putfield 1, 3) := by decide +kernel
theorem dX12_times_5 : decode cX12_times 5 = .ok (.iload_n 1, 1) := by decide +kernel
theorem dX12_times_6 : decode cX12_times 6 = .ok (.sipush (-999), 3) := by decide +kernel
theorem dX12_times_9 : decode cX12_times 9 = .ok (.sipush 999, 3) := by decide +kernel
theorem dX12_times_12 : decode cX12_times 12 = .ok (.invokestatic 451, 3) := by decide +kernel
theorem dX12_times_15 : decode cX12_times 15 = .ok (.ifCond .ne 5, 3) := by decide +kernel
theorem dX12_times_18 : decode cX12_times 18 = .ok (.iconst (-1), 1) := by decide +kernel
theorem dX12_times_19 : decode cX12_times 19 = .ok (.ireturn, 1) := by decide +kernel
theorem dX12_times_20 : decode cX12_times 20 = .ok (.aload_n 0, 1) := by decide +kernel
theorem dX12_times_21 : decode cX12_times 21 = .ok (.invokevirtual 373, 3) := by decide +kernel
theorem dX12_times_24 : decode cX12_times 24 = .ok (.aload_n 0, 1) := by decide +kernel
theorem dX12_times_25 : decode cX12_times 25 = .ok (.aload_n 0, 1) := by decide +kernel
theorem dX12_times_26 : decode cX12_times 26 = .ok (.getfield 33, 3) := by decide +kernel
theorem dX12_times_29 : decode cX12_times 29 = .ok (.sipush 1173, 3) := by decide +kernel
theorem dX12_times_32 : decode cX12_times 32 = .ok (.iaload, 1) := by decide +kernel
theorem dX12_times_33 : decode cX12_times 33 = .ok (.invokevirtual 421, 3) := by decide +kernel
theorem dX12_times_36 : decode cX12_times 36 = .ok (.aload_n 0, 1) := by decide +kernel
theorem dX12_times_37 : decode cX12_times 37 = .ok (.aload_n 0, 1) := by decide +kernel
theorem dX12_times_38 : decode cX12_times 38 = .ok (.iload_n 1, 1) := by decide +kernel
theorem dX12_times_39 : decode cX12_times 39 = .ok (.invokevirtual 516, 3) := by decide +kernel
theorem dX12_times_42 : decode cX12_times 42 = .ok (.invokevirtual 519, 3) := by decide +kernel
theorem dX12_times_45 : decode cX12_times 45 = .ok (.aload_n 0, 1) := by decide +kernel
theorem dX12_times_46 : decode cX12_times 46 = .ok (.invokevirtual 434, 3) := by decide +kernel
theorem dX12_times_49 : decode cX12_times 49 = .ok (.aload_n 0, 1) := by decide +kernel
theorem dX12_times_50 : decode cX12_times 50 = .ok (.invokevirtual 480, 3) := by decide +kernel
theorem dX12_times_53 : decode cX12_times 53 = .ok (.ireturn, 1) := by decide +kernel
theorem dX12_add_0 : decode cX12_add 0 = .ok (.aload_n 0, 1) := by decide +kernel
theorem dX12_add_1 : decode cX12_add 1 = .ok (.iconst 0, 1) := by decide +kernel
theorem dX12_add_2 : decode cX12_add 2 = .ok (.putfield 1, 3) := by decide +kernel
theorem dX12_add_5 : decode cX12_add 5 = .ok (.aload_n 0, 1) := by decide +kernel
theorem dX12_add_6 : decode cX12_add 6 = .ok (.iload_n 1, 1) := by decide +kernel
theorem dX12_add_7 : decode cX12_add 7 = .ok (.invokevirtual 469, 3) := by decide +kernel
theorem dX12_add_10 : decode cX12_add 10 = .ok (.ifCond .eq 36, 3) := by decide +kernel
theorem dX12_add_13 : decode cX12_add 13 = .ok (.iload_n 2, 1) := by decide +kernel
theorem dX12_add_14 : decode cX12_add 14 = .ok (.sipush (-999), 3) := by decide +kernel
theorem dX12_add_17 : decode cX12_add 17 = .ok (.sipush 999, 3) := by decide +kernel
theorem dX12_add_20 : decode cX12_add 20 = .ok (.invokestatic 451, 3) := by decide +kernel
theorem dX12_add_23 : decode cX12_add 23 = .ok (.ifCond .eq 23, 3) := by decide +kernel
theorem dX12_add_26 : decode cX12_add 26 = .ok (.aload_n 0, 1) := by decide +kernel
theorem dX12_add_27 : decode cX12_add 27 = .ok (.getfield 33, 3) := by decide +kernel
theorem dX12_add_30 : decode cX12_add 30 = .ok (.bipush 7, 2) := by decide +kernel
theorem dX12_add_32 : decode cX12_add 32 = .ok (.iload_n 1, 1) := by decide +kernel
theorem dX12_add_33 : decode cX12_add 33 = .ok (.iadd, 1) := by decide +kernel
theorem dX12_add_34 : decode cX12_add 34 = .ok (.iaload, 1) := by decide +kernel
theorem dX12_add_35 : decode cX12_add 35 = .ok (.aload_n 0, 1) := by decide +kernel
theorem dX12_add_36 : decode cX12_add 36 = .ok (.getfield 33, 3) := by decide +kernel
theorem dX12_add_39 : decode cX12_add 39 = .ok (.sipush 1173, 3) := by decide +kernel
theorem dX12_add_42 : decode cX12_add 42 = .ok (.iaload, 1) := by decide +kernel
theorem dX12_add_43 : decode cX12_add 43 = .ok (.if_icmp .eq 5, 3) := by decide +kernel
theorem dX12_add_46 : decode cX12_add 46 = .ok (.iconst (-1), 1) := by decide +kernel
theorem dX12_add_47 : decode cX12_add 47 = .ok (.ireturn, 1) := by decide +kernel
theorem dX12_add_48 : decode cX12_add 48 = .ok (.aload_n 0, 1) := by decide +kernel
theorem dX12_add_49 : decode cX12_add 49 = .ok (.invokevirtual 373, 3) := by decide +kernel
theorem dX12_add_52 : decode cX12_add 52 = .ok (.aload_n 0, 1) := by decide +kernel
theorem dX12_add_53 : decode cX12_add 53 = .ok (.aload_n 0, 1) := by decide +kernel
theorem dX12_add_54 : decode cX12_add 54 = .ok (.getfield 33, 3) := by decide +kernel
theorem dX12_add_57 : decode cX12_add 57 = .ok (.sipush 1173, 3) := by decide +kernel
theorem dX12_add_60 : decode cX12_add 60 = .ok (.iaload, 1) := by decide +kernel
theorem dX12_add_61 : decode cX12_add 61 = .ok (.invokevirtual 421, 3) := by decide +kernel
theorem dX12_add_64 : decode cX12_add 64 = .ok (.aload_n 0, 1) := by decide +kernel
theorem dX12_add_65 : decode cX12_add 65 = .ok (.iconst 1, 1) := by decide +kernel
theorem dX12_add_66 : decode cX12_add 66 = .ok (.invokevirtual 519, 3) := by decide +kernel
theorem dX12_add_69 : decode cX12_add 69 = .ok (.aload_n 0, 1) := by decide +kernel
theorem dX12_add_70 : decode cX12_add 70 = .ok (.iload_n 1, 1) := by decide +kernel
theorem dX12_add_71 : decode cX12_add 71 = .ok (.aload_n 0, 1) := by decide +kernel
theorem dX12_add_72 : decode cX12_add 72 = .ok (.iload_n 2, 1) := by decide +kernel
theorem dX12_add_73 : decode cX12_add 73 = .ok (.invokevirtual 516, 3) := by decide +kernel
theorem dX12_add_76 : decode cX12_add 76 = .ok (.invokevirtual 477, 3) := by decide +kernel
theorem dX12_add_79 : decode cX12_add 79 = .ok (.aload_n 0, 1) := by decide +kernel
theorem dX12_add_80 : decode cX12_add 80 = .ok (.invokevirtual 434, 3) := by decide +kernel
theorem dX12_add_83 : decode cX12_add 83 = .ok (.aload_n 0, 1) := by decide +kernel
theorem dX12_add_84 : decode cX12_add 84 = .ok (.invokevirtual 480, 3) := by decide +kernel
theorem dX12_add_87 : decode cX12_add 87 = .ok (.ireturn, 1) := by decide +kernel
theorem dX12_hasDual_0 : decode cX12_hasDual 0 = .ok (.iconst 0, 1) := by decide +kernel
theorem dX12_hasDual_1 : decode cX12_hasDual 1 = .ok (.istore_n 1, 1) := by decide +kernel
theorem dX12_hasDual_2 : decode cX12_hasDual 2 = .ok (.iload_n 1, 1) := by decide +kernel
theorem dX12_hasDual_3 : decode cX12_hasDual 3 = .ok (.aload_n 0, 1) := by decide +kernel
theorem dX12_hasDual_4 : decode cX12_hasDual 4 = .ok (.getfield 33, 3) := by decide +kernel
theorem dX12_hasDual_7 : decode cX12_hasDual 7 = .ok (.iconst 1, 1) := by decide +kernel
theorem dX12_hasDual_8 : decode cX12_hasDual 8 = .ok (.iaload, 1) := by decide +kernel
theorem dX12_hasDual_9 : decode cX12_hasDual 9 = .ok (.if_icmp .ge 23, 3) := by decide +kernel
theorem dX12_hasDual_12 : decode cX12_hasDual 12 = .ok (.aload_n 0, 1) := by decide +kernel
theorem dX12_hasDual_13 : decode cX12_hasDual 13 = .ok (.getfield 33, 3) := by decide +kernel
theorem dX12_hasDual_16 : decode cX12_hasDual 16 = .ok (.iconst 4, 1) := by decide +kernel
theorem dX12_hasDual_17 : decode cX12_hasDual 17 = .ok (.iload_n 1, 1) := by decide +kernel
theorem dX12_hasDual_18 : decode cX12_hasDual 18 = .ok (.iadd, 1) := by decide +kernel
theorem dX12_hasDual_19 : decode cX12_hasDual 19 = .ok (.iaload, 1) := by decide +kernel
theorem dX12_hasDual_20 : decode cX12_hasDual 20 = .ok (.iconst 2, 1) := by decide +kernel
theorem dX12_hasDual_21 : decode cX12_hasDual 21 = .ok (.if_icmp .eq 5, 3) := by decide +kernel
theorem dX12_hasDual_24 : decode cX12_hasDual 24 = .ok (.iconst 0, 1) := by decide +kernel
theorem dX12_hasDual_25 : decode cX12_hasDual 25 = .ok (.ireturn, 1) := by decide +kernel
theorem dX12_hasDual_26 : decode cX12_hasDual 26 = .ok (.iinc 1 1, 3) := by decide +kernel
theorem dX12_hasDual_29 : decode cX12_hasDual 29 = .ok (.goto (-27), 3) := by decide +kernel
theorem dX12_hasDual_32 : decode cX12_hasDual 32 = .ok (.iconst 0, 1) := by decide +kernel
theorem dX12_hasDual_33 : decode cX12_hasDual 33 = .ok (.istore_n 1, 1) := by decide +kernel
theorem dX12_hasDual_34 : decode cX12_hasDual 34 = .ok (.iload_n 1, 1) := by decide +kernel
theorem dX12_hasDual_35 : decode cX12_hasDual 35 = .ok (.aload_n 0, 1) := by decide +kernel
theorem dX12_hasDual_36 : decode cX12_hasDual 36 = .ok (.getfield 33, 3) := by decide +kernel
theorem dX12_hasDual_39 : decode cX12_hasDual 39 = .ok (.iconst 2, 1) := by decide +kernel
theorem dX12_hasDual_40 : decode cX12_hasDual 40 = .ok (.iaload, 1) := by decide +kernel
theorem dX12_hasDual_41 : decode cX12_hasDual 41 = .ok (.if_icmp .ge 24, 3) := by decide +kernel
theorem dX12_hasDual_44 : decode cX12_hasDual 44 = .ok (.aload_n 0, 1) := by decide +kernel
theorem dX12_hasDual_45 : decode cX12_hasDual 45 = .ok (.getfield 33, 3) := by decide +kernel
theorem dX12_hasDual_48 : decode cX12_hasDual 48 = .ok (.bipush 7, 2) := by decide +kernel
theorem dX12_hasDual_50 : decode cX12_hasDual 50 = .ok (.iload_n 1, 1) := by decide +kernel
theorem dX12_hasDual_51 : decode cX12_hasDual 51 = .ok (.iadd, 1) := by decide +kernel
theorem dX12_hasDual_52 : decode cX12_hasDual 52 = .ok (.iaload, 1) := by decide +kernel
theorem dX12_hasDual_53 : decode cX12_hasDual 53 = .ok (.iconst 3, 1) := by decide +kernel
theorem dX12_hasDual_54 : decode cX12_hasDual 54 = .ok (.if_icmp .eq 5, 3) := by decide +kernel
theorem dX12_hasDual_57 : decode cX12_hasDual 57 = .ok (.iconst 0, 1) := by decide +kernel
theorem dX12_hasDual_58 : decode cX12_hasDual 58 = .ok (.ireturn, 1) := by decide +kernel
theorem dX12_hasDual_59 : decode cX12_hasDual 59 = .ok (.iinc 1 1, 3) := by decide +kernel
theorem dX12_hasDual_62 : decode cX12_hasDual 62 = .ok (.goto (-28), 3) := by decide +kernel
theorem dX12_hasDual_65 : decode cX12_hasDual 65 = .ok (.iconst 1, 1) := by decide +kernel
theorem dX12_hasDual_66 : decode cX12_hasDual 66 = .ok (.ireturn, 1) := by decide +kernel
theorem dX12_makeDual_0 : decode cX12_makeDual 0 = .ok (.aload_n 0, 1) := by decide +kernel
theorem dX12_makeDual_1 : decode cX12_makeDual 1 = .ok (.invokevirtual 373, 3) := by decide +kernel
theorem dX12_makeDual_4 : decode cX12_makeDual 4 = .ok (.aload_n 0, 1) := by decide +kernel
theorem dX12_makeDual_5 : decode cX12_makeDual 5 = .ok (.iconst 0, 1) := by decide +kernel
theorem dX12_makeDual_6 : decode cX12_makeDual 6 = .ok (.iconst 3, 1) := by decide +kernel
theorem dX12_makeDual_7 : decode cX12_makeDual 7 = .ok (.invokevirtual 376, 3) := by decide +kernel
theorem dX12_makeDual_10 : decode cX12_makeDual 10 = .ok (.aload_n 0, 1) := by decide +kernel
theorem dX12_makeDual_11 : decode cX12_makeDual 11 = .ok (.getfield 33, 3) := by decide +kernel
theorem dX12_makeDual_14 : decode cX12_makeDual 14 = .ok (.iconst 0, 1) := by decide +kernel
theorem dX12_makeDual_15 : decode cX12_makeDual 15 = .ok (.iaload, 1) := by decide +kernel
theorem dX12_makeDual_16 : decode cX12_makeDual 16 = .ok (.istore_n 1, 1) := by decide +kernel
theorem dX12_makeDual_17 : decode cX12_makeDual 17 = .ok (.aload_n 0, 1) := by decide +kernel
theorem dX12_makeDual_18 : decode cX12_makeDual 18 = .ok (.getfield 62, 3) := by decide +kernel
theorem dX12_makeDual_21 : decode cX12_makeDual 21 = .ok (.iconst 3, 1) := by decide +kernel
theorem dX12_makeDual_22 : decode cX12_makeDual 22 = .ok (.iaload, 1) := by decide +kernel
theorem dX12_makeDual_23 : decode cX12_makeDual 23 = .ok (.istore_n 2, 1) := by decide +kernel
theorem dX12_makeDual_24 : decode cX12_makeDual 24 = .ok (.iconst 0, 1) := by decide +kernel
theorem dX12_makeDual_25 : decode cX12_makeDual 25 = .ok (.istore_n 3, 1) := by decide +kernel
theorem dX12_makeDual_26 : decode cX12_makeDual 26 = .ok (.iload_n 3, 1) := by decide +kernel
theorem dX12_makeDual_27 : decode cX12_makeDual 27 = .ok (.sipush 1173, 3) := by decide +kernel
theorem dX12_makeDual_30 : decode cX12_makeDual 30 = .ok (.if_icmp .ge 31, 3) := by decide +kernel
theorem dX12_makeDual_33 : decode cX12_makeDual 33 = .ok (.aload_n 0, 1) := by decide +kernel
theorem dX12_makeDual_34 : decode cX12_makeDual 34 = .ok (.getfield 37, 3) := by decide +kernel
theorem dX12_makeDual_37 : decode cX12_makeDual 37 = .ok (.iload_n 3, 1) := by decide +kernel
theorem dX12_makeDual_38 : decode cX12_makeDual 38 = .ok (.iload_n 3, 1) := by decide +kernel
theorem dX12_makeDual_39 : decode cX12_makeDual 39 = .ok (.bipush 7, 2) := by decide +kernel
theorem dX12_makeDual_41 : decode cX12_makeDual 41 = .ok (.if_icmp .ge 12, 3) := by decide +kernel
theorem dX12_makeDual_44 : decode cX12_makeDual 44 = .ok (.aload_n 0, 1) := by decide +kernel
theorem dX12_makeDual_45 : decode cX12_makeDual 45 = .ok (.getfield 33, 3) := by decide +kernel
theorem dX12_makeDual_48 : decode cX12_makeDual 48 = .ok (.iload_n 3, 1) := by decide +kernel
theorem dX12_makeDual_49 : decode cX12_makeDual 49 = .ok (.iaload, 1) := by decide +kernel
theorem dX12_makeDual_50 : decode cX12_makeDual 50 = .ok (.goto 4, 3) := by decide +kernel
theorem dX12_makeDual_53 : decode cX12_makeDual 53 = .ok (.iconst 0, 1) := by decide +kernel
theorem dX12_makeDual_54 : decode cX12_makeDual 54 = .ok (.iastore, 1) := by decide +kernel
theorem dX12_makeDual_55 : decode cX12_makeDual 55 = .ok (.iinc 3 1, 3) := by decide +kernel
theorem dX12_makeDual_58 : decode cX12_makeDual 58 = .ok (.goto (-32), 3) := by decide +kernel
theorem dX12_makeDual_61 : decode cX12_makeDual 61 = .ok (.aload_n 0, 1) := by decide +kernel
theorem dX12_makeDual_62 : decode cX12_makeDual 62 = .ok (.getfield 37, 3) := by decide +kernel
theorem dX12_makeDual_65 : decode cX12_makeDual 65 = .ok (.iconst 3, 1) := by decide +kernel
theorem dX12_makeDual_66 : decode cX12_makeDual 66 = .ok (.iconst 1, 1) := by decide +kernel
theorem dX12_makeDual_67 : decode cX12_makeDual 67 = .ok (.iastore, 1) := by decide +kernel
theorem dX12_makeDual_68 : decode cX12_makeDual 68 = .ok (.aload_n 0, 1) := by decide +kernel
theorem dX12_makeDual_69 : decode cX12_makeDual 69 = .ok (.getfield 37, 3) := by decide +kernel
theorem dX12_makeDual_72 : decode cX12_makeDual 72 = .ok (.iconst 2, 1) := by decide +kernel
theorem dX12_makeDual_73 : decode cX12_makeDual 73 = .ok (.iconst 0, 1) := by decide +kernel
theorem dX12_makeDual_74 : decode cX12_makeDual 74 = .ok (.iastore, 1) := by decide +kernel
theorem dX12_makeDual_75 : decode cX12_makeDual 75 = .ok (.iconst 0, 1) := by decide +kernel
theorem dX12_makeDual_76 : decode cX12_makeDual 76 = .ok (.istore_n 3, 1) := by decide +kernel
theorem dX12_makeDual_77 : decode cX12_makeDual 77 = .ok (.iload_n 3, 1) := by decide +kernel
theorem dX12_makeDual_78 : decode cX12_makeDual 78 = .ok (.iload_n 2, 1) := by decide +kernel
theorem dX12_makeDual_79 : decode cX12_makeDual 79 = .ok (.if_icmp .ge 16, 3) := by decide +kernel
theorem dX12_makeDual_82 : decode cX12_makeDual 82 = .ok (.aload_n 0, 1) := by decide +kernel
theorem dX12_makeDual_83 : decode cX12_makeDual 83 = .ok (.getfield 145, 3) := by decide +kernel
theorem dX12_makeDual_86 : decode cX12_makeDual 86 = .ok (.iload_n 3, 1) := by decide +kernel
theorem dX12_makeDual_87 : decode cX12_makeDual 87 = .ok (.iconst 0, 1) := by decide +kernel
theorem dX12_makeDual_88 : decode cX12_makeDual 88 = .ok (.iastore, 1) := by decide +kernel
theorem dX12_makeDual_89 : decode cX12_makeDual 89 = .ok (.iinc 3 1, 3) := by decide +kernel
theorem dX12_makeDual_92 : decode cX12_makeDual 92 = .ok (.goto (-15), 3) := by decide +kernel
theorem dX12_makeDual_95 : decode cX12_makeDual 95 = .ok (.aload_n 0, 1) := by decide +kernel
theorem dX12_makeDual_96 : decode cX12_makeDual 96 = .ok (.iload_n 2, 1) := by decide +kernel
theorem dX12_makeDual_97 : decode cX12_makeDual 97 = .ok (.iload_n 1, 1) := by decide +kernel
theorem dX12_makeDual_98 : decode cX12_makeDual 98 = .ok (.invokevirtual 522, 3) := by decide +kernel
theorem dX12_makeDual_101 : decode cX12_makeDual 101 = .ok (.iload_n 2, 1) := by decide +kernel
theorem dX12_makeDual_102 : decode cX12_makeDual 102 = .ok (.iconst 1, 1) := by decide +kernel
theorem dX12_makeDual_103 : decode cX12_makeDual 103 = .ok (.isub, 1) := by decide +kernel
theorem dX12_makeDual_104 : decode cX12_makeDual 104 = .ok (.istore_n 3, 1) := by decide +kernel
theorem dX12_makeDual_105 : decode cX12_makeDual 105 = .ok (.iload_n 3, 1) := by decide +kernel
theorem dX12_makeDual_106 : decode cX12_makeDual 106 = .ok (.ifCond .lt 187, 3) := by decide +kernel
theorem dX12_makeDual_109 : decode cX12_makeDual 109 = .ok (.aload_n 0, 1) := by decide +kernel
theorem dX12_makeDual_110 : decode cX12_makeDual 110 = .ok (.getfield 145, 3) := by decide +kernel
theorem dX12_makeDual_113 : decode cX12_makeDual 113 = .ok (.iload_n 3, 1) := by decide +kernel
theorem dX12_makeDual_114 : decode cX12_makeDual 114 = .ok (.iaload, 1) := by decide +kernel
theorem dX12_makeDual_115 : decode cX12_makeDual 115 = .ok (.ifCond .le 6, 3) := by decide +kernel
theorem dX12_makeDual_118 : decode cX12_makeDual 118 = .ok (.goto 169, 3) := by decide +kernel
theorem dX12_makeDual_121 : decode cX12_makeDual 121 = .ok (.aload_n 0, 1) := by decide +kernel
theorem dX12_makeDual_122 : decode cX12_makeDual 122 = .ok (.getfield 37, 3) := by decide +kernel
theorem dX12_makeDual_125 : decode cX12_makeDual 125 = .ok (.iconst 2, 1) := by decide +kernel
theorem dX12_makeDual_126 : decode cX12_makeDual 126 = .ok (.iaload, 1) := by decide +kernel
theorem dX12_makeDual_127 : decode cX12_makeDual 127 = .ok (.istore 4, 2) := by decide +kernel
theorem dX12_makeDual_129 : decode cX12_makeDual 129 = .ok (.aload_n 0, 1) := by decide +kernel
theorem dX12_makeDual_130 : decode cX12_makeDual 130 = .ok (.getfield 37, 3) := by decide +kernel
theorem dX12_makeDual_133 : decode cX12_makeDual 133 = .ok (.bipush 7, 2) := by decide +kernel
theorem dX12_makeDual_135 : decode cX12_makeDual 135 = .ok (.iload 4, 2) := by decide +kernel
theorem dX12_makeDual_137 : decode cX12_makeDual 137 = .ok (.iadd, 1) := by decide +kernel
theorem dX12_makeDual_138 : decode cX12_makeDual 138 = .ok (.iconst 3, 1) := by decide +kernel
theorem dX12_makeDual_139 : decode cX12_makeDual 139 = .ok (.iastore, 1) := by decide +kernel
theorem dX12_makeDual_140 : decode cX12_makeDual 140 = .ok (.aload_n 0, 1) := by decide +kernel
theorem dX12_makeDual_141 : decode cX12_makeDual 141 = .ok (.getfield 37, 3) := by decide +kernel
theorem dX12_makeDual_144 : decode cX12_makeDual 144 = .ok (.bipush 25, 2) := by decide +kernel
theorem dX12_makeDual_146 : decode cX12_makeDual 146 = .ok (.iload 4, 2) := by decide +kernel
theorem dX12_makeDual_148 : decode cX12_makeDual 148 = .ok (.iadd, 1) := by decide +kernel
theorem dX12_makeDual_149 : decode cX12_makeDual 149 = .ok (.iaload, 1) := by decide +kernel
theorem dX12_makeDual_150 : decode cX12_makeDual 150 = .ok (.istore 5, 2) := by decide +kernel
theorem dX12_makeDual_152 : decode cX12_makeDual 152 = .ok (.iload_n 3, 1) := by decide +kernel
theorem dX12_makeDual_153 : decode cX12_makeDual 153 = .ok (.istore 6, 2) := by decide +kernel
theorem dX12_makeDual_155 : decode cX12_makeDual 155 = .ok (.iload 6, 2) := by decide +kernel
theorem dX12_makeDual_157 : decode cX12_makeDual 157 = .ok (.ifCond .lt 106, 3) := by decide +kernel
theorem dX12_makeDual_160 : decode cX12_makeDual 160 = .ok (.iload 6, 2) := by decide +kernel
theorem dX12_makeDual_162 : decode cX12_makeDual 162 = .ok (.iload_n 3, 1) := by decide +kernel
theorem dX12_makeDual_163 : decode cX12_makeDual 163 = .ok (.if_icmp .ne 7, 3) := by decide +kernel
theorem dX12_makeDual_166 : decode cX12_makeDual 166 = .ok (.iconst 1, 1) := by decide +kernel
theorem dX12_makeDual_167 : decode cX12_makeDual 167 = .ok (.goto 40, 3) := by decide +kernel
theorem dX12_makeDual_170 : decode cX12_makeDual 170 = .ok (.aload_n 0, 1) := by decide +kernel
theorem dX12_makeDual_171 : decode cX12_makeDual 171 = .ok (.getfield 145, 3) := by decide +kernel
theorem dX12_makeDual_174 : decode cX12_makeDual 174 = .ok (.iload 6, 2) := by decide +kernel
theorem dX12_makeDual_176 : decode cX12_makeDual 176 = .ok (.iaload, 1) := by decide +kernel
theorem dX12_makeDual_177 : decode cX12_makeDual 177 = .ok (.ifCond .le 29, 3) := by decide +kernel
theorem dX12_makeDual_180 : decode cX12_makeDual 180 = .ok (.iload_n 1, 1) := by decide +kernel
theorem dX12_makeDual_181 : decode cX12_makeDual 181 = .ok (.aload_n 0, 1) := by decide +kernel
theorem dX12_makeDual_182 : decode cX12_makeDual 182 = .ok (.getfield 142, 3) := by decide +kernel
theorem dX12_makeDual_185 : decode cX12_makeDual 185 = .ok (.bipush 18, 2) := by decide +kernel
theorem dX12_makeDual_187 : decode cX12_makeDual 187 = .ok (.aload_n 0, 1) := by decide +kernel
theorem dX12_makeDual_188 : decode cX12_makeDual 188 = .ok (.getfield 145, 3) := by decide +kernel
theorem dX12_makeDual_191 : decode cX12_makeDual 191 = .ok (.iload 6, 2) := by decide +kernel
theorem dX12_makeDual_193 : decode cX12_makeDual 193 = .ok (.iaload, 1) := by decide +kernel
theorem dX12_makeDual_194 : decode cX12_makeDual 194 = .ok (.iconst 1, 1) := by decide +kernel
theorem dX12_makeDual_195 : decode cX12_makeDual 195 = .ok (.isub, 1) := by decide +kernel
theorem dX12_makeDual_196 : decode cX12_makeDual 196 = .ok (.imul, 1) := by decide +kernel
theorem dX12_makeDual_197 : decode cX12_makeDual 197 = .ok (.iload_n 3, 1) := by decide +kernel
theorem dX12_makeDual_198 : decode cX12_makeDual 198 = .ok (.iadd, 1) := by decide +kernel
theorem dX12_makeDual_199 : decode cX12_makeDual 199 = .ok (.iaload, 1) := by decide +kernel
theorem dX12_makeDual_200 : decode cX12_makeDual 200 = .ok (.isub, 1) := by decide +kernel
theorem dX12_makeDual_201 : decode cX12_makeDual 201 = .ok (.iload_n 1, 1) := by decide +kernel
theorem dX12_makeDual_202 : decode cX12_makeDual 202 = .ok (.irem, 1) := by decide +kernel
theorem dX12_makeDual_203 : decode cX12_makeDual 203 = .ok (.goto 4, 3) := by decide +kernel
theorem dX12_makeDual_206 : decode cX12_makeDual 206 = .ok (.iconst 0, 1) := by decide +kernel
theorem dX12_makeDual_207 : decode cX12_makeDual 207 = .ok (.istore 7, 2) := by decide +kernel
theorem dX12_makeDual_209 : decode cX12_makeDual 209 = .ok (.iload 7, 2) := by decide +kernel
theorem dX12_makeDual_211 : decode cX12_makeDual 211 = .ok (.ifCond .ne 6, 3) := by decide +kernel
theorem dX12_makeDual_214 : decode cX12_makeDual 214 = .ok (.goto 43, 3) := by decide +kernel
theorem dX12_makeDual_217 : decode cX12_makeDual 217 = .ok (.aload_n 0, 1) := by decide +kernel
theorem dX12_makeDual_218 : decode cX12_makeDual 218 = .ok (.getfield 37, 3) := by decide +kernel
theorem dX12_makeDual_221 : decode cX12_makeDual 221 = .ok (.bipush 44, 2) := by decide +kernel
theorem dX12_makeDual_223 : decode cX12_makeDual 223 = .ok (.iload 5, 2) := by decide +kernel
theorem dX12_makeDual_225 : decode cX12_makeDual 225 = .ok (.iadd, 1) := by decide +kernel
theorem dX12_makeDual_226 : decode cX12_makeDual 226 = .ok (.aload_n 0, 1) := by decide +kernel
theorem dX12_makeDual_227 : decode cX12_makeDual 227 = .ok (.getfield 74, 3) := by decide +kernel
theorem dX12_makeDual_230 : decode cX12_makeDual 230 = .ok (.aload_n 0, 1) := by decide +kernel
theorem dX12_makeDual_231 : decode cX12_makeDual 231 = .ok (.getfield 65, 3) := by decide +kernel
theorem dX12_makeDual_234 : decode cX12_makeDual 234 = .ok (.iconst 3, 1) := by decide +kernel
theorem dX12_makeDual_235 : decode cX12_makeDual 235 = .ok (.iaload, 1) := by decide +kernel
theorem dX12_makeDual_236 : decode cX12_makeDual 236 = .ok (.iload 6, 2) := by decide +kernel
theorem dX12_makeDual_238 : decode cX12_makeDual 238 = .ok (.iadd, 1) := by decide +kernel
theorem dX12_makeDual_239 : decode cX12_makeDual 239 = .ok (.iaload, 1) := by decide +kernel
theorem dX12_makeDual_240 : decode cX12_makeDual 240 = .ok (.iastore, 1) := by decide +kernel
theorem dX12_makeDual_241 : decode cX12_makeDual 241 = .ok (.aload_n 0, 1) := by decide +kernel
theorem dX12_makeDual_242 : decode cX12_makeDual 242 = .ok (.getfield 37, 3) := by decide +kernel
theorem dX12_makeDual_245 : decode cX12_makeDual 245 = .ok (.sipush 244, 3) := by decide +kernel
theorem dX12_makeDual_248 : decode cX12_makeDual 248 = .ok (.iload 5, 2) := by decide +kernel
theorem dX12_makeDual_250 : decode cX12_makeDual 250 = .ok (.iadd, 1) := by decide +kernel
theorem dX12_makeDual_251 : decode cX12_makeDual 251 = .ok (.iload 7, 2) := by decide +kernel
theorem dX12_makeDual_253 : decode cX12_makeDual 253 = .ok (.iastore, 1) := by decide +kernel
theorem dX12_makeDual_254 : decode cX12_makeDual 254 = .ok (.iinc 5 1, 3) := by decide +kernel
theorem dX12_makeDual_257 : decode cX12_makeDual 257 = .ok (.iinc 6 (-1), 3) := by decide +kernel
theorem dX12_makeDual_260 : decode cX12_makeDual 260 = .ok (.goto (-105), 3) := by decide +kernel
theorem dX12_makeDual_263 : decode cX12_makeDual 263 = .ok (.aload_n 0, 1) := by decide +kernel
theorem dX12_makeDual_264 : decode cX12_makeDual 264 = .ok (.getfield 37, 3) := by decide +kernel
theorem dX12_makeDual_267 : decode cX12_makeDual 267 = .ok (.bipush 25, 2) := by decide +kernel
theorem dX12_makeDual_269 : decode cX12_makeDual 269 = .ok (.iload 4, 2) := by decide +kernel
theorem dX12_makeDual_271 : decode cX12_makeDual 271 = .ok (.iadd, 1) := by decide +kernel
theorem dX12_makeDual_272 : decode cX12_makeDual 272 = .ok (.iconst 1, 1) := by decide +kernel
theorem dX12_makeDual_273 : decode cX12_makeDual 273 = .ok (.iadd, 1) := by decide +kernel
theorem dX12_makeDual_274 : decode cX12_makeDual 274 = .ok (.iload 5, 2) := by decide +kernel
theorem dX12_makeDual_276 : decode cX12_makeDual 276 = .ok (.iastore, 1) := by decide +kernel
theorem dX12_makeDual_277 : decode cX12_makeDual 277 = .ok (.aload_n 0, 1) := by decide +kernel
theorem dX12_makeDual_278 : decode cX12_makeDual 278 = .ok (.getfield 37, 3) := by decide +kernel
theorem dX12_makeDual_281 : decode cX12_makeDual 281 = .ok (.iconst 2, 1) := by decide +kernel
theorem dX12_makeDual_282 : decode cX12_makeDual 282 = .ok (.dup2, 1) := by decide +kernel
theorem dX12_makeDual_283 : decode cX12_makeDual 283 = .ok (.iaload, 1) := by decide +kernel
theorem dX12_makeDual_284 : decode cX12_makeDual 284 = .ok (.iconst 1, 1) := by decide +kernel
theorem dX12_makeDual_285 : decode cX12_makeDual 285 = .ok (.iadd, 1) := by decide +kernel
theorem dX12_makeDual_286 : decode cX12_makeDual 286 = .ok (.iastore, 1) := by decide +kernel
theorem dX12_makeDual_287 : decode cX12_makeDual 287 = .ok (.iinc 3 (-1), 3) := by decide +kernel
theorem dX12_makeDual_290 : decode cX12_makeDual 290 = .ok (.goto (-185), 3) := by decide +kernel
theorem dX12_makeDual_293 : decode cX12_makeDual 293 = .ok (.return_, 1) := by decide +kernel
theorem dX12_equations_0 : decode cX12_equations 0 = .ok (.iconst 0, 1) := by decide +kernel
theorem dX12_equations_1 : decode cX12_equations 1 = .ok (.istore_n 3, 1) := by decide +kernel
theorem dX12_equations_2 : decode cX12_equations 2 = .ok (.iconst 0, 1) := by decide +kernel
theorem dX12_equations_3 : decode cX12_equations 3 = .ok (.istore 4, 2) := by decide +kernel
theorem dX12_equations_5 : decode cX12_equations 5 = .ok (.iload 4, 2) := by decide +kernel
theorem dX12_equations_7 : decode cX12_equations 7 = .ok (.aload_n 0, 1) := by decide +kernel
theorem dX12_equations_8 : decode cX12_equations 8 = .ok (.getfield 33, 3) := by decide +kernel
theorem dX12_equations_11 : decode cX12_equations 11 = .ok (.iconst 2, 1) := by decide +kernel
theorem dX12_equations_12 : decode cX12_equations 12 = .ok (.iaload, 1) := by decide +kernel
theorem dX12_equations_13 : decode cX12_equations 13 = .ok (.if_icmp .ge 429, 3) := by decide +kernel
theorem dX12_equations_16 : decode cX12_equations 16 = .ok (.aload_n 0, 1) := by decide +kernel
theorem dX12_equations_17 : decode cX12_equations 17 = .ok (.getfield 148, 3) := by decide +kernel
theorem dX12_equations_20 : decode cX12_equations 20 = .ok (.astore 5, 2) := by decide +kernel
theorem dX12_equations_22 : decode cX12_equations 22 = .ok (.iconst 0, 1) := by decide +kernel
theorem dX12_equations_23 : decode cX12_equations 23 = .ok (.istore 6, 2) := by decide +kernel
theorem dX12_equations_25 : decode cX12_equations 25 = .ok (.iload 6, 2) := by decide +kernel
theorem dX12_equations_27 : decode cX12_equations 27 = .ok (.iload_n 1, 1) := by decide +kernel
theorem dX12_equations_28 : decode cX12_equations 28 = .ok (.if_icmp .ge 15, 3) := by decide +kernel
theorem dX12_equations_31 : decode cX12_equations 31 = .ok (.aload 5, 2) := by decide +kernel
theorem dX12_equations_33 : decode cX12_equations 33 = .ok (.iload 6, 2) := by decide +kernel
theorem dX12_equations_35 : decode cX12_equations 35 = .ok (.iconst 0, 1) := by decide +kernel
theorem dX12_equations_36 : decode cX12_equations 36 = .ok (.iastore, 1) := by decide +kernel
theorem dX12_equations_37 : decode cX12_equations 37 = .ok (.iinc 6 1, 3) := by decide +kernel
theorem dX12_equations_40 : decode cX12_equations 40 = .ok (.goto (-15), 3) := by decide +kernel
theorem dX12_equations_43 : decode cX12_equations 43 = .ok (.aload_n 0, 1) := by decide +kernel
theorem dX12_equations_44 : decode cX12_equations 44 = .ok (.getfield 33, 3) := by decide +kernel
theorem dX12_equations_47 : decode cX12_equations 47 = .ok (.bipush 25, 2) := by decide +kernel
theorem dX12_equations_49 : decode cX12_equations 49 = .ok (.iload 4, 2) := by decide +kernel
theorem dX12_equations_51 : decode cX12_equations 51 = .ok (.iadd, 1) := by decide +kernel
theorem dX12_equations_52 : decode cX12_equations 52 = .ok (.iaload, 1) := by decide +kernel
theorem dX12_equations_53 : decode cX12_equations 53 = .ok (.istore 6, 2) := by decide +kernel
theorem dX12_equations_55 : decode cX12_equations 55 = .ok (.iload 6, 2) := by decide +kernel
theorem dX12_equations_57 : decode cX12_equations 57 = .ok (.aload_n 0, 1) := by decide +kernel
theorem dX12_equations_58 : decode cX12_equations 58 = .ok (.getfield 33, 3) := by decide +kernel
theorem dX12_equations_61 : decode cX12_equations 61 = .ok (.bipush 25, 2) := by decide +kernel
theorem dX12_equations_63 : decode cX12_equations 63 = .ok (.iload 4, 2) := by decide +kernel
theorem dX12_equations_65 : decode cX12_equations 65 = .ok (.iadd, 1) := by decide +kernel
theorem dX12_equations_66 : decode cX12_equations 66 = .ok (.iconst 1, 1) := by decide +kernel
theorem dX12_equations_67 : decode cX12_equations 67 = .ok (.iadd, 1) := by decide +kernel
theorem dX12_equations_68 : decode cX12_equations 68 = .ok (.iaload, 1) := by decide +kernel
theorem dX12_equations_69 : decode cX12_equations 69 = .ok (.if_icmp .ge 91, 3) := by decide +kernel
theorem dX12_equations_72 : decode cX12_equations 72 = .ok (.aload_n 0, 1) := by decide +kernel
theorem dX12_equations_73 : decode cX12_equations 73 = .ok (.iconst 0, 1) := by decide +kernel
theorem dX12_equations_74 : decode cX12_equations 74 = .ok (.iconst 3, 1) := by decide +kernel
theorem dX12_equations_75 : decode cX12_equations 75 = .ok (.aload_n 0, 1) := by decide +kernel
theorem dX12_equations_76 : decode cX12_equations 76 = .ok (.getfield 33, 3) := by decide +kernel
theorem dX12_equations_79 : decode cX12_equations 79 = .ok (.bipush 44, 2) := by decide +kernel
theorem dX12_equations_81 : decode cX12_equations 81 = .ok (.iload 6, 2) := by decide +kernel
theorem dX12_equations_83 : decode cX12_equations 83 = .ok (.iadd, 1) := by decide +kernel
theorem dX12_equations_84 : decode cX12_equations 84 = .ok (.iaload, 1) := by decide +kernel
theorem dX12_equations_85 : decode cX12_equations 85 = .ok (.invokevirtual 364, 3) := by decide +kernel
theorem dX12_equations_88 : decode cX12_equations 88 = .ok (.istore 7, 2) := by decide +kernel
theorem dX12_equations_90 : decode cX12_equations 90 = .ok (.aload_n 0, 1) := by decide +kernel
theorem dX12_equations_91 : decode cX12_equations 91 = .ok (.getfield 33, 3) := by decide +kernel
theorem dX12_equations_94 : decode cX12_equations 94 = .ok (.bipush 44, 2) := by decide +kernel
theorem dX12_equations_96 : decode cX12_equations 96 = .ok (.iload 6, 2) := by decide +kernel
theorem dX12_equations_98 : decode cX12_equations 98 = .ok (.iadd, 1) := by decide +kernel
theorem dX12_equations_99 : decode cX12_equations 99 = .ok (.iaload, 1) := by decide +kernel
theorem dX12_equations_100 : decode cX12_equations 100 = .ok (.bipush 6, 2) := by decide +kernel
theorem dX12_equations_102 : decode cX12_equations 102 = .ok (.ishr, 1) := by decide +kernel
theorem dX12_equations_103 : decode cX12_equations 103 = .ok (.iconst 3, 1) := by decide +kernel
theorem dX12_equations_104 : decode cX12_equations 104 = .ok (.iand, 1) := by decide +kernel
theorem dX12_equations_105 : decode cX12_equations 105 = .ok (.ifCond .le 7, 3) := by decide +kernel
theorem dX12_equations_108 : decode cX12_equations 108 = .ok (.iconst 1, 1) := by decide +kernel
theorem dX12_equations_109 : decode cX12_equations 109 = .ok (.goto 4, 3) := by decide +kernel
theorem dX12_equations_112 : decode cX12_equations 112 = .ok (.iconst 0, 1) := by decide +kernel
theorem dX12_equations_113 : decode cX12_equations 113 = .ok (.istore 8, 2) := by decide +kernel
theorem dX12_equations_115 : decode cX12_equations 115 = .ok (.aload 5, 2) := by decide +kernel
theorem dX12_equations_117 : decode cX12_equations 117 = .ok (.iload 7, 2) := by decide +kernel
theorem dX12_equations_119 : decode cX12_equations 119 = .ok (.iload 8, 2) := by decide +kernel
theorem dX12_equations_121 : decode cX12_equations 121 = .ok (.ifCond .eq 17, 3) := by decide +kernel
theorem dX12_equations_124 : decode cX12_equations 124 = .ok (.aload_n 0, 1) := by decide +kernel
theorem dX12_equations_125 : decode cX12_equations 125 = .ok (.getfield 33, 3) := by decide +kernel
theorem dX12_equations_128 : decode cX12_equations 128 = .ok (.sipush 244, 3) := by decide +kernel
theorem dX12_equations_131 : decode cX12_equations 131 = .ok (.iload 6, 2) := by decide +kernel
theorem dX12_equations_133 : decode cX12_equations 133 = .ok (.iadd, 1) := by decide +kernel
theorem dX12_equations_134 : decode cX12_equations 134 = .ok (.iaload, 1) := by decide +kernel
theorem dX12_equations_135 : decode cX12_equations 135 = .ok (.goto 18, 3) := by decide +kernel
theorem dX12_equations_138 : decode cX12_equations 138 = .ok (.iload_n 2, 1) := by decide +kernel
theorem dX12_equations_139 : decode cX12_equations 139 = .ok (.aload_n 0, 1) := by decide +kernel
theorem dX12_equations_140 : decode cX12_equations 140 = .ok (.getfield 33, 3) := by decide +kernel
theorem dX12_equations_143 : decode cX12_equations 143 = .ok (.sipush 244, 3) := by decide +kernel
theorem dX12_equations_146 : decode cX12_equations 146 = .ok (.iload 6, 2) := by decide +kernel
theorem dX12_equations_148 : decode cX12_equations 148 = .ok (.iadd, 1) := by decide +kernel
theorem dX12_equations_149 : decode cX12_equations 149 = .ok (.iaload, 1) := by decide +kernel
theorem dX12_equations_150 : decode cX12_equations 150 = .ok (.isub, 1) := by decide +kernel
theorem dX12_equations_151 : decode cX12_equations 151 = .ok (.iload_n 2, 1) := by decide +kernel
theorem dX12_equations_152 : decode cX12_equations 152 = .ok (.irem, 1) := by decide +kernel
theorem dX12_equations_153 : decode cX12_equations 153 = .ok (.iastore, 1) := by decide +kernel
theorem dX12_equations_154 : decode cX12_equations 154 = .ok (.iinc 6 1, 3) := by decide +kernel
theorem dX12_equations_157 : decode cX12_equations 157 = .ok (.goto (-102), 3) := by decide +kernel
theorem dX12_equations_160 : decode cX12_equations 160 = .ok (.iconst 0, 1) := by decide +kernel
theorem dX12_equations_161 : decode cX12_equations 161 = .ok (.istore 6, 2) := by decide +kernel
theorem dX12_equations_163 : decode cX12_equations 163 = .ok (.iload 6, 2) := by decide +kernel
theorem dX12_equations_165 : decode cX12_equations 165 = .ok (.iload_n 1, 1) := by decide +kernel
theorem dX12_equations_166 : decode cX12_equations 166 = .ok (.if_icmp .ge 87, 3) := by decide +kernel
theorem dX12_equations_169 : decode cX12_equations 169 = .ok (.aload 5, 2) := by decide +kernel
theorem dX12_equations_171 : decode cX12_equations 171 = .ok (.iload 6, 2) := by decide +kernel
theorem dX12_equations_173 : decode cX12_equations 173 = .ok (.iaload, 1) := by decide +kernel
theorem dX12_equations_174 : decode cX12_equations 174 = .ok (.istore 7, 2) := by decide +kernel
theorem dX12_equations_176 : decode cX12_equations 176 = .ok (.iload 7, 2) := by decide +kernel
theorem dX12_equations_178 : decode cX12_equations 178 = .ok (.ifCond .eq 69, 3) := by decide +kernel
theorem dX12_equations_181 : decode cX12_equations 181 = .ok (.aload_n 0, 1) := by decide +kernel
theorem dX12_equations_182 : decode cX12_equations 182 = .ok (.getfield 145, 3) := by decide +kernel
theorem dX12_equations_185 : decode cX12_equations 185 = .ok (.iload 6, 2) := by decide +kernel
theorem dX12_equations_187 : decode cX12_equations 187 = .ok (.iaload, 1) := by decide +kernel
theorem dX12_equations_188 : decode cX12_equations 188 = .ok (.ifCond .ne 6, 3) := by decide +kernel
theorem dX12_equations_191 : decode cX12_equations 191 = .ok (.goto 56, 3) := by decide +kernel
theorem dX12_equations_194 : decode cX12_equations 194 = .ok (.iconst 0, 1) := by decide +kernel
theorem dX12_equations_195 : decode cX12_equations 195 = .ok (.istore 8, 2) := by decide +kernel
theorem dX12_equations_197 : decode cX12_equations 197 = .ok (.iload 8, 2) := by decide +kernel
theorem dX12_equations_199 : decode cX12_equations 199 = .ok (.iload_n 1, 1) := by decide +kernel
theorem dX12_equations_200 : decode cX12_equations 200 = .ok (.if_icmp .ge 47, 3) := by decide +kernel
theorem dX12_equations_203 : decode cX12_equations 203 = .ok (.aload 5, 2) := by decide +kernel
theorem dX12_equations_205 : decode cX12_equations 205 = .ok (.iload 8, 2) := by decide +kernel
theorem dX12_equations_207 : decode cX12_equations 207 = .ok (.aload 5, 2) := by decide +kernel
theorem dX12_equations_209 : decode cX12_equations 209 = .ok (.iload 8, 2) := by decide +kernel
theorem dX12_equations_211 : decode cX12_equations 211 = .ok (.iaload, 1) := by decide +kernel
theorem dX12_equations_212 : decode cX12_equations 212 = .ok (.iload_n 2, 1) := by decide +kernel
theorem dX12_equations_213 : decode cX12_equations 213 = .ok (.iload 7, 2) := by decide +kernel
theorem dX12_equations_215 : decode cX12_equations 215 = .ok (.isub, 1) := by decide +kernel
theorem dX12_equations_216 : decode cX12_equations 216 = .ok (.aload_n 0, 1) := by decide +kernel
theorem dX12_equations_217 : decode cX12_equations 217 = .ok (.getfield 142, 3) := by decide +kernel
theorem dX12_equations_220 : decode cX12_equations 220 = .ok (.bipush 18, 2) := by decide +kernel
theorem dX12_equations_222 : decode cX12_equations 222 = .ok (.aload_n 0, 1) := by decide +kernel
theorem dX12_equations_223 : decode cX12_equations 223 = .ok (.getfield 145, 3) := by decide +kernel
theorem dX12_equations_226 : decode cX12_equations 226 = .ok (.iload 6, 2) := by decide +kernel
theorem dX12_equations_228 : decode cX12_equations 228 = .ok (.iaload, 1) := by decide +kernel
theorem dX12_equations_229 : decode cX12_equations 229 = .ok (.iconst 1, 1) := by decide +kernel
theorem dX12_equations_230 : decode cX12_equations 230 = .ok (.isub, 1) := by decide +kernel
theorem dX12_equations_231 : decode cX12_equations 231 = .ok (.imul, 1) := by decide +kernel
theorem dX12_equations_232 : decode cX12_equations 232 = .ok (.iload 8, 2) := by decide +kernel
theorem dX12_equations_234 : decode cX12_equations 234 = .ok (.iadd, 1) := by decide +kernel
theorem dX12_equations_235 : decode cX12_equations 235 = .ok (.iaload, 1) := by decide +kernel
theorem dX12_equations_236 : decode cX12_equations 236 = .ok (.imul, 1) := by decide +kernel
theorem dX12_equations_237 : decode cX12_equations 237 = .ok (.iadd, 1) := by decide +kernel
theorem dX12_equations_238 : decode cX12_equations 238 = .ok (.iload_n 2, 1) := by decide +kernel
theorem dX12_equations_239 : decode cX12_equations 239 = .ok (.irem, 1) := by decide +kernel
theorem dX12_equations_240 : decode cX12_equations 240 = .ok (.iastore, 1) := by decide +kernel
theorem dX12_equations_241 : decode cX12_equations 241 = .ok (.iinc 8 1, 3) := by decide +kernel
theorem dX12_equations_244 : decode cX12_equations 244 = .ok (.goto (-47), 3) := by decide +kernel
theorem dX12_equations_247 : decode cX12_equations 247 = .ok (.iinc 6 1, 3) := by decide +kernel
theorem dX12_equations_250 : decode cX12_equations 250 = .ok (.goto (-87), 3) := by decide +kernel
theorem dX12_equations_253 : decode cX12_equations 253 = .ok (.iconst 0, 1) := by decide +kernel
theorem dX12_equations_254 : decode cX12_equations 254 = .ok (.istore 6, 2) := by decide +kernel
theorem dX12_equations_256 : decode cX12_equations 256 = .ok (.iload 6, 2) := by decide +kernel
theorem dX12_equations_258 : decode cX12_equations 258 = .ok (.iload_n 1, 1) := by decide +kernel
theorem dX12_equations_259 : decode cX12_equations 259 = .ok (.if_icmp .ge 17, 3) := by decide +kernel
theorem dX12_equations_262 : decode cX12_equations 262 = .ok (.aload 5, 2) := by decide +kernel
theorem dX12_equations_264 : decode cX12_equations 264 = .ok (.iload 6, 2) := by decide +kernel
theorem dX12_equations_266 : decode cX12_equations 266 = .ok (.iaload, 1) := by decide +kernel
theorem dX12_equations_267 : decode cX12_equations 267 = .ok (.ifCond .ne 9, 3) := by decide +kernel
theorem dX12_equations_270 : decode cX12_equations 270 = .ok (.iinc 6 1, 3) := by decide +kernel
theorem dX12_equations_273 : decode cX12_equations 273 = .ok (.goto (-17), 3) := by decide +kernel
theorem dX12_equations_276 : decode cX12_equations 276 = .ok (.iload 6, 2) := by decide +kernel
theorem dX12_equations_278 : decode cX12_equations 278 = .ok (.iload_n 1, 1) := by decide +kernel
theorem dX12_equations_279 : decode cX12_equations 279 = .ok (.if_icmp .ne 6, 3) := by decide +kernel
theorem dX12_equations_282 : decode cX12_equations 282 = .ok (.goto 154, 3) := by decide +kernel
theorem dX12_equations_285 : decode cX12_equations 285 = .ok (.aload_n 0, 1) := by decide +kernel
theorem dX12_equations_286 : decode cX12_equations 286 = .ok (.getfield 109, 3) := by decide +kernel
theorem dX12_equations_289 : decode cX12_equations 289 = .ok (.aload 5, 2) := by decide +kernel
theorem dX12_equations_291 : decode cX12_equations 291 = .ok (.iload 6, 2) := by decide +kernel
theorem dX12_equations_293 : decode cX12_equations 293 = .ok (.iaload, 1) := by decide +kernel
theorem dX12_equations_294 : decode cX12_equations 294 = .ok (.iaload, 1) := by decide +kernel
theorem dX12_equations_295 : decode cX12_equations 295 = .ok (.istore 7, 2) := by decide +kernel
theorem dX12_equations_297 : decode cX12_equations 297 = .ok (.iconst 0, 1) := by decide +kernel
theorem dX12_equations_298 : decode cX12_equations 298 = .ok (.istore 8, 2) := by decide +kernel
theorem dX12_equations_300 : decode cX12_equations 300 = .ok (.iload 8, 2) := by decide +kernel
theorem dX12_equations_302 : decode cX12_equations 302 = .ok (.iload_n 1, 1) := by decide +kernel
theorem dX12_equations_303 : decode cX12_equations 303 = .ok (.if_icmp .ge 31, 3) := by decide +kernel
theorem dX12_equations_306 : decode cX12_equations 306 = .ok (.aload_n 0, 1) := by decide +kernel
theorem dX12_equations_307 : decode cX12_equations 307 = .ok (.getfield 142, 3) := by decide +kernel
theorem dX12_equations_310 : decode cX12_equations 310 = .ok (.bipush 18, 2) := by decide +kernel
theorem dX12_equations_312 : decode cX12_equations 312 = .ok (.iload_n 3, 1) := by decide +kernel
theorem dX12_equations_313 : decode cX12_equations 313 = .ok (.imul, 1) := by decide +kernel
theorem dX12_equations_314 : decode cX12_equations 314 = .ok (.iload 8, 2) := by decide +kernel
theorem dX12_equations_316 : decode cX12_equations 316 = .ok (.iadd, 1) := by decide +kernel
theorem dX12_equations_317 : decode cX12_equations 317 = .ok (.aload 5, 2) := by decide +kernel
theorem dX12_equations_319 : decode cX12_equations 319 = .ok (.iload 8, 2) := by decide +kernel
theorem dX12_equations_321 : decode cX12_equations 321 = .ok (.iaload, 1) := by decide +kernel
theorem dX12_equations_322 : decode cX12_equations 322 = .ok (.iload 7, 2) := by decide +kernel
theorem dX12_equations_324 : decode cX12_equations 324 = .ok (.imul, 1) := by decide +kernel
theorem dX12_equations_325 : decode cX12_equations 325 = .ok (.iload_n 2, 1) := by decide +kernel
theorem dX12_equations_326 : decode cX12_equations 326 = .ok (.irem, 1) := by decide +kernel
theorem dX12_equations_327 : decode cX12_equations 327 = .ok (.iastore, 1) := by decide +kernel
theorem dX12_equations_328 : decode cX12_equations 328 = .ok (.iinc 8 1, 3) := by decide +kernel
theorem dX12_equations_331 : decode cX12_equations 331 = .ok (.goto (-31), 3) := by decide +kernel
theorem dX12_equations_334 : decode cX12_equations 334 = .ok (.iconst 0, 1) := by decide +kernel
theorem dX12_equations_335 : decode cX12_equations 335 = .ok (.istore 8, 2) := by decide +kernel
theorem dX12_equations_337 : decode cX12_equations 337 = .ok (.iload 8, 2) := by decide +kernel
theorem dX12_equations_339 : decode cX12_equations 339 = .ok (.iload_n 3, 1) := by decide +kernel
theorem dX12_equations_340 : decode cX12_equations 340 = .ok (.if_icmp .ge 85, 3) := by decide +kernel
theorem dX12_equations_343 : decode cX12_equations 343 = .ok (.aload_n 0, 1) := by decide +kernel
theorem dX12_equations_344 : decode cX12_equations 344 = .ok (.getfield 142, 3) := by decide +kernel
theorem dX12_equations_347 : decode cX12_equations 347 = .ok (.bipush 18, 2) := by decide +kernel
theorem dX12_equations_349 : decode cX12_equations 349 = .ok (.iload 8, 2) := by decide +kernel
theorem dX12_equations_351 : decode cX12_equations 351 = .ok (.imul, 1) := by decide +kernel
theorem dX12_equations_352 : decode cX12_equations 352 = .ok (.iload 6, 2) := by decide +kernel
theorem dX12_equations_354 : decode cX12_equations 354 = .ok (.iadd, 1) := by decide +kernel
theorem dX12_equations_355 : decode cX12_equations 355 = .ok (.iaload, 1) := by decide +kernel
theorem dX12_equations_356 : decode cX12_equations 356 = .ok (.istore 9, 2) := by decide +kernel
theorem dX12_equations_358 : decode cX12_equations 358 = .ok (.iconst 0, 1) := by decide +kernel
theorem dX12_equations_359 : decode cX12_equations 359 = .ok (.istore 10, 2) := by decide +kernel
theorem dX12_equations_361 : decode cX12_equations 361 = .ok (.iload 10, 2) := by decide +kernel
theorem dX12_equations_363 : decode cX12_equations 363 = .ok (.iload_n 1, 1) := by decide +kernel
theorem dX12_equations_364 : decode cX12_equations 364 = .ok (.if_icmp .ge 55, 3) := by decide +kernel
theorem dX12_equations_367 : decode cX12_equations 367 = .ok (.aload_n 0, 1) := by decide +kernel
theorem dX12_equations_368 : decode cX12_equations 368 = .ok (.getfield 142, 3) := by decide +kernel
theorem dX12_equations_371 : decode cX12_equations 371 = .ok (.bipush 18, 2) := by decide +kernel
theorem dX12_equations_373 : decode cX12_equations 373 = .ok (.iload 8, 2) := by decide +kernel
theorem dX12_equations_375 : decode cX12_equations 375 = .ok (.imul, 1) := by decide +kernel
theorem dX12_equations_376 : decode cX12_equations 376 = .ok (.iload 10, 2) := by decide +kernel
theorem dX12_equations_378 : decode cX12_equations 378 = .ok (.iadd, 1) := by decide +kernel
theorem dX12_equations_379 : decode cX12_equations 379 = .ok (.aload_n 0, 1) := by decide +kernel
theorem dX12_equations_380 : decode cX12_equations 380 = .ok (.getfield 142, 3) := by decide +kernel
theorem dX12_equations_383 : decode cX12_equations 383 = .ok (.bipush 18, 2) := by decide +kernel
theorem dX12_equations_385 : decode cX12_equations 385 = .ok (.iload 8, 2) := by decide +kernel
theorem dX12_equations_387 : decode cX12_equations 387 = .ok (.imul, 1) := by decide +kernel
theorem dX12_equations_388 : decode cX12_equations 388 = .ok (.iload 10, 2) := by decide +kernel
theorem dX12_equations_390 : decode cX12_equations 390 = .ok (.iadd, 1) := by decide +kernel
theorem dX12_equations_391 : decode cX12_equations 391 = .ok (.iaload, 1) := by decide +kernel
theorem dX12_equations_392 : decode cX12_equations 392 = .ok (.iload_n 2, 1) := by decide +kernel
theorem dX12_equations_393 : decode cX12_equations 393 = .ok (.iload 9, 2) := by decide +kernel
theorem dX12_equations_395 : decode cX12_equations 395 = .ok (.isub, 1) := by decide +kernel
theorem dX12_equations_396 : decode cX12_equations 396 = .ok (.aload_n 0, 1) := by decide +kernel
theorem dX12_equations_397 : decode cX12_equations 397 = .ok (.getfield 142, 3) := by decide +kernel
theorem dX12_equations_400 : decode cX12_equations 400 = .ok (.bipush 18, 2) := by decide +kernel
theorem dX12_equations_402 : decode cX12_equations 402 = .ok (.iload_n 3, 1) := by decide +kernel
theorem dX12_equations_403 : decode cX12_equations 403 = .ok (.imul, 1) := by decide +kernel
theorem dX12_equations_404 : decode cX12_equations 404 = .ok (.iload 10, 2) := by decide +kernel
theorem dX12_equations_406 : decode cX12_equations 406 = .ok (.iadd, 1) := by decide +kernel
theorem dX12_equations_407 : decode cX12_equations 407 = .ok (.iaload, 1) := by decide +kernel
theorem dX12_equations_408 : decode cX12_equations 408 = .ok (.imul, 1) := by decide +kernel
theorem dX12_equations_409 : decode cX12_equations 409 = .ok (.iadd, 1) := by decide +kernel
theorem dX12_equations_410 : decode cX12_equations 410 = .ok (.iload_n 2, 1) := by decide +kernel
theorem dX12_equations_411 : decode cX12_equations 411 = .ok (.irem, 1) := by decide +kernel
theorem dX12_equations_412 : decode cX12_equations 412 = .ok (.iastore, 1) := by decide +kernel
theorem dX12_equations_413 : decode cX12_equations 413 = .ok (.iinc 10 1, 3) := by decide +kernel
theorem dX12_equations_416 : decode cX12_equations 416 = .ok (.goto (-55), 3) := by decide +kernel
theorem dX12_equations_419 : decode cX12_equations 419 = .ok (.iinc 8 1, 3) := by decide +kernel
theorem dX12_equations_422 : decode cX12_equations 422 = .ok (.goto (-85), 3) := by decide +kernel
theorem dX12_equations_425 : decode cX12_equations 425 = .ok (.iinc 3 1, 3) := by decide +kernel
theorem dX12_equations_428 : decode cX12_equations 428 = .ok (.aload_n 0, 1) := by decide +kernel
theorem dX12_equations_429 : decode cX12_equations 429 = .ok (.getfield 145, 3) := by decide +kernel
theorem dX12_equations_432 : decode cX12_equations 432 = .ok (.iload 6, 2) := by decide +kernel
theorem dX12_equations_434 : decode cX12_equations 434 = .ok (.iload_n 3, 1) := by decide +kernel
theorem dX12_equations_435 : decode cX12_equations 435 = .ok (.iastore, 1) := by decide +kernel
theorem dX12_equations_436 : decode cX12_equations 436 = .ok (.iinc 4 1, 3) := by decide +kernel
theorem dX12_equations_439 : decode cX12_equations 439 = .ok (.goto (-434), 3) := by decide +kernel
theorem dX12_equations_442 : decode cX12_equations 442 = .ok (.return_, 1) := by decide +kernel
theorem dX12_dual_0 : decode cX12_dual 0 = .ok (.aload_n 0, 1) := by decide +kernel
theorem dX12_dual_1 : decode cX12_dual 1 = .ok (.iconst 0, 1) := by decide +kernel
theorem dX12_dual_2 : decode cX12_dual 2 = .ok (.putfield 1, 3) := by decide +kernel
theorem dX12_dual_5 : decode cX12_dual 5 = .ok (.aload_n 0, 1) := by decide +kernel
theorem dX12_dual_6 : decode cX12_dual 6 = .ok (.invokevirtual 525, 3) := by decide +kernel
theorem dX12_dual_9 : decode cX12_dual 9 = .ok (.ifCond .ne 5, 3) := by decide +kernel
theorem dX12_dual_12 : decode cX12_dual 12 = .ok (.iconst (-1), 1) := by decide +kernel
theorem dX12_dual_13 : decode cX12_dual 13 = .ok (.ireturn, 1) := by decide +kernel
theorem dX12_dual_14 : decode cX12_dual 14 = .ok (.aload_n 0, 1) := by decide +kernel
theorem dX12_dual_15 : decode cX12_dual 15 = .ok (.invokevirtual 528, 3) := by decide +kernel
theorem dX12_dual_18 : decode cX12_dual 18 = .ok (.iconst 0, 1) := by decide +kernel
theorem dX12_dual_19 : decode cX12_dual 19 = .ok (.istore_n 1, 1) := by decide +kernel
theorem dX12_dual_20 : decode cX12_dual 20 = .ok (.iload_n 1, 1) := by decide +kernel
theorem dX12_dual_21 : decode cX12_dual 21 = .ok (.sipush 1173, 3) := by decide +kernel
theorem dX12_dual_24 : decode cX12_dual 24 = .ok (.if_icmp .ge 21, 3) := by decide +kernel
theorem dX12_dual_27 : decode cX12_dual 27 = .ok (.aload_n 0, 1) := by decide +kernel
theorem dX12_dual_28 : decode cX12_dual 28 = .ok (.getfield 33, 3) := by decide +kernel
theorem dX12_dual_31 : decode cX12_dual 31 = .ok (.iload_n 1, 1) := by decide +kernel
theorem dX12_dual_32 : decode cX12_dual 32 = .ok (.aload_n 0, 1) := by decide +kernel
theorem dX12_dual_33 : decode cX12_dual 33 = .ok (.getfield 37, 3) := by decide +kernel
theorem dX12_dual_36 : decode cX12_dual 36 = .ok (.iload_n 1, 1) := by decide +kernel
theorem dX12_dual_37 : decode cX12_dual 37 = .ok (.iaload, 1) := by decide +kernel
theorem dX12_dual_38 : decode cX12_dual 38 = .ok (.iastore, 1) := by decide +kernel
theorem dX12_dual_39 : decode cX12_dual 39 = .ok (.iinc 1 1, 3) := by decide +kernel
theorem dX12_dual_42 : decode cX12_dual 42 = .ok (.goto (-22), 3) := by decide +kernel
theorem dX12_dual_45 : decode cX12_dual 45 = .ok (.aload_n 0, 1) := by decide +kernel
theorem dX12_dual_46 : decode cX12_dual 46 = .ok (.iconst (-1), 1) := by decide +kernel
theorem dX12_dual_47 : decode cX12_dual 47 = .ok (.putfield 91, 3) := by decide +kernel
theorem dX12_dual_50 : decode cX12_dual 50 = .ok (.aload_n 0, 1) := by decide +kernel
theorem dX12_dual_51 : decode cX12_dual 51 = .ok (.iconst 0, 1) := by decide +kernel
theorem dX12_dual_52 : decode cX12_dual 52 = .ok (.putfield 229, 3) := by decide +kernel
theorem dX12_dual_55 : decode cX12_dual 55 = .ok (.aload_n 0, 1) := by decide +kernel
theorem dX12_dual_56 : decode cX12_dual 56 = .ok (.getfield 33, 3) := by decide +kernel
theorem dX12_dual_59 : decode cX12_dual 59 = .ok (.iconst 2, 1) := by decide +kernel
theorem dX12_dual_60 : decode cX12_dual 60 = .ok (.iaload, 1) := by decide +kernel
theorem dX12_dual_61 : decode cX12_dual 61 = .ok (.ireturn, 1) := by decide +kernel
theorem dX12_series_0 : decode cX12_series 0 = .ok (.iconst 1, 1) := by decide +kernel
theorem dX12_series_1 : decode cX12_series 1 = .ok (.istore_n 3, 1) := by decide +kernel
theorem dX12_series_2 : decode cX12_series 2 = .ok (.iload_n 3, 1) := by decide +kernel
theorem dX12_series_3 : decode cX12_series 3 = .ok (.iload_n 2, 1) := by decide +kernel
theorem dX12_series_4 : decode cX12_series 4 = .ok (.if_icmp .gt 33, 3) := by decide +kernel
theorem dX12_series_7 : decode cX12_series 7 = .ok (.aload_n 0, 1) := by decide +kernel
theorem dX12_series_8 : decode cX12_series 8 = .ok (.iload_n 1, 1) := by decide +kernel
theorem dX12_series_9 : decode cX12_series 9 = .ok (.iload_n 3, 1) := by decide +kernel
theorem dX12_series_10 : decode cX12_series 10 = .ok (.invokevirtual 495, 3) := by decide +kernel
theorem dX12_series_13 : decode cX12_series 13 = .ok (.ifCond .eq 5, 3) := by decide +kernel
theorem dX12_series_16 : decode cX12_series 16 = .ok (.iconst 0, 1) := by decide +kernel
theorem dX12_series_17 : decode cX12_series 17 = .ok (.ireturn, 1) := by decide +kernel
theorem dX12_series_18 : decode cX12_series 18 = .ok (.aload_n 0, 1) := by decide +kernel
theorem dX12_series_19 : decode cX12_series 19 = .ok (.getfield 151, 3) := by decide +kernel
theorem dX12_series_22 : decode cX12_series 22 = .ok (.iload_n 3, 1) := by decide +kernel
theorem dX12_series_23 : decode cX12_series 23 = .ok (.aload_n 0, 1) := by decide +kernel
theorem dX12_series_24 : decode cX12_series 24 = .ok (.iload_n 1, 1) := by decide +kernel
theorem dX12_series_25 : decode cX12_series 25 = .ok (.iload_n 3, 1) := by decide +kernel
theorem dX12_series_26 : decode cX12_series 26 = .ok (.invokevirtual 501, 3) := by decide +kernel
theorem dX12_series_29 : decode cX12_series 29 = .ok (.i2l, 1) := by decide +kernel
theorem dX12_series_30 : decode cX12_series 30 = .ok (.lastore, 1) := by decide +kernel
theorem dX12_series_31 : decode cX12_series 31 = .ok (.iinc 3 1, 3) := by decide +kernel
theorem dX12_series_34 : decode cX12_series 34 = .ok (.goto (-32), 3) := by decide +kernel
theorem dX12_series_37 : decode cX12_series 37 = .ok (.iconst 1, 1) := by decide +kernel
theorem dX12_series_38 : decode cX12_series 38 = .ok (.ireturn, 1) := by decide +kernel
theorem dX12_powers_0 : decode cX12_powers 0 = .ok (.iconst 0, 1) := by decide +kernel
theorem dX12_powers_1 : decode cX12_powers 1 = .ok (.istore_n 3, 1) := by decide +kernel
theorem dX12_powers_2 : decode cX12_powers 2 = .ok (.iload_n 3, 1) := by decide +kernel
theorem dX12_powers_3 : decode cX12_powers 3 = .ok (.iload_n 2, 1) := by decide +kernel
theorem dX12_powers_4 : decode cX12_powers 4 = .ok (.if_icmp .gt 24, 3) := by decide +kernel
theorem dX12_powers_7 : decode cX12_powers 7 = .ok (.aload_n 0, 1) := by decide +kernel
theorem dX12_powers_8 : decode cX12_powers 8 = .ok (.getfield 154, 3) := by decide +kernel
theorem dX12_powers_11 : decode cX12_powers 11 = .ok (.iload_n 3, 1) := by decide +kernel
theorem dX12_powers_12 : decode cX12_powers 12 = .ok (.iload_n 3, 1) := by decide +kernel
theorem dX12_powers_13 : decode cX12_powers 13 = .ok (.ifCond .ne 7, 3) := by decide +kernel
theorem dX12_powers_16 : decode cX12_powers 16 = .ok (.lconst 1, 1) := by decide +kernel
theorem dX12_powers_17 : decode cX12_powers 17 = .ok (.goto 4, 3) := by decide +kernel
theorem dX12_powers_20 : decode cX12_powers 20 = .ok (.lconst 0, 1) := by decide +kernel
theorem dX12_powers_21 : decode cX12_powers 21 = .ok (.lastore, 1) := by decide +kernel
theorem dX12_powers_22 : decode cX12_powers 22 = .ok (.iinc 3 1, 3) := by decide +kernel
theorem dX12_powers_25 : decode cX12_powers 25 = .ok (.goto (-23), 3) := by decide +kernel
theorem dX12_powers_28 : decode cX12_powers 28 = .ok (.iconst 0, 1) := by decide +kernel
theorem dX12_powers_29 : decode cX12_powers 29 = .ok (.istore_n 3, 1) := by decide +kernel
theorem dX12_powers_30 : decode cX12_powers 30 = .ok (.iload_n 3, 1) := by decide +kernel
theorem dX12_powers_31 : decode cX12_powers 31 = .ok (.iload_n 1, 1) := by decide +kernel
theorem dX12_powers_32 : decode cX12_powers 32 = .ok (.if_icmp .ge 74, 3) := by decide +kernel
theorem dX12_powers_35 : decode cX12_powers 35 = .ok (.iload_n 2, 1) := by decide +kernel
theorem dX12_powers_36 : decode cX12_powers 36 = .ok (.istore 4, 2) := by decide +kernel
theorem dX12_powers_38 : decode cX12_powers 38 = .ok (.iload 4, 2) := by decide +kernel
theorem dX12_powers_40 : decode cX12_powers 40 = .ok (.ifCond .lt 60, 3) := by decide +kernel
theorem dX12_powers_43 : decode cX12_powers 43 = .ok (.lconst 0, 1) := by decide +kernel
theorem dX12_powers_44 : decode cX12_powers 44 = .ok (.lstore 5, 2) := by decide +kernel
theorem dX12_powers_46 : decode cX12_powers 46 = .ok (.iconst 1, 1) := by decide +kernel
theorem dX12_powers_47 : decode cX12_powers 47 = .ok (.istore 7, 2) := by decide +kernel
theorem dX12_powers_49 : decode cX12_powers 49 = .ok (.iload 7, 2) := by decide +kernel
theorem dX12_powers_51 : decode cX12_powers 51 = .ok (.iload 4, 2) := by decide +kernel
theorem dX12_powers_53 : decode cX12_powers 53 = .ok (.if_icmp .gt 32, 3) := by decide +kernel
theorem dX12_powers_56 : decode cX12_powers 56 = .ok (.lload 5, 2) := by decide +kernel
theorem dX12_powers_58 : decode cX12_powers 58 = .ok (.aload_n 0, 1) := by decide +kernel
theorem dX12_powers_59 : decode cX12_powers 59 = .ok (.getfield 151, 3) := by decide +kernel
theorem dX12_powers_62 : decode cX12_powers 62 = .ok (.iload 7, 2) := by decide +kernel
theorem dX12_powers_64 : decode cX12_powers 64 = .ok (.laload, 1) := by decide +kernel
theorem dX12_powers_65 : decode cX12_powers 65 = .ok (.aload_n 0, 1) := by decide +kernel
theorem dX12_powers_66 : decode cX12_powers 66 = .ok (.getfield 154, 3) := by decide +kernel
theorem dX12_powers_69 : decode cX12_powers 69 = .ok (.iload 4, 2) := by decide +kernel
theorem dX12_powers_71 : decode cX12_powers 71 = .ok (.iload 7, 2) := by decide +kernel
theorem dX12_powers_73 : decode cX12_powers 73 = .ok (.isub, 1) := by decide +kernel
theorem dX12_powers_74 : decode cX12_powers 74 = .ok (.laload, 1) := by decide +kernel
theorem dX12_powers_75 : decode cX12_powers 75 = .ok (.lmul, 1) := by decide +kernel
theorem dX12_powers_76 : decode cX12_powers 76 = .ok (.ladd, 1) := by decide +kernel
theorem dX12_powers_77 : decode cX12_powers 77 = .ok (.lstore 5, 2) := by decide +kernel
theorem dX12_powers_79 : decode cX12_powers 79 = .ok (.iinc 7 1, 3) := by decide +kernel
theorem dX12_powers_82 : decode cX12_powers 82 = .ok (.goto (-33), 3) := by decide +kernel
theorem dX12_powers_85 : decode cX12_powers 85 = .ok (.aload_n 0, 1) := by decide +kernel
theorem dX12_powers_86 : decode cX12_powers 86 = .ok (.getfield 154, 3) := by decide +kernel
theorem dX12_powers_89 : decode cX12_powers 89 = .ok (.iload 4, 2) := by decide +kernel
theorem dX12_powers_91 : decode cX12_powers 91 = .ok (.lload 5, 2) := by decide +kernel
theorem dX12_powers_93 : decode cX12_powers 93 = .ok (.lastore, 1) := by decide +kernel
theorem dX12_powers_94 : decode cX12_powers 94 = .ok (.iinc 4 (-1), 3) := by decide +kernel
theorem dX12_powers_97 : decode cX12_powers 97 = .ok (.goto (-59), 3) := by decide +kernel
theorem dX12_powers_100 : decode cX12_powers 100 = .ok (.iinc 3 1, 3) := by decide +kernel
theorem dX12_powers_103 : decode cX12_powers 103 = .ok (.goto (-73), 3) := by decide +kernel
theorem dX12_powers_106 : decode cX12_powers 106 = .ok (.return_, 1) := by decide +kernel
theorem dX12_back_0 : decode cX12_back 0 = .ok (.iconst 1, 1) := by decide +kernel
theorem dX12_back_1 : decode cX12_back 1 = .ok (.istore_n 2, 1) := by decide +kernel
theorem dX12_back_2 : decode cX12_back 2 = .ok (.iload_n 2, 1) := by decide +kernel
theorem dX12_back_3 : decode cX12_back 3 = .ok (.iload_n 1, 1) := by decide +kernel
theorem dX12_back_4 : decode cX12_back 4 = .ok (.if_icmp .gt 66, 3) := by decide +kernel
theorem dX12_back_7 : decode cX12_back 7 = .ok (.aload_n 0, 1) := by decide +kernel
theorem dX12_back_8 : decode cX12_back 8 = .ok (.getfield 157, 3) := by decide +kernel
theorem dX12_back_11 : decode cX12_back 11 = .ok (.iload_n 2, 1) := by decide +kernel
theorem dX12_back_12 : decode cX12_back 12 = .ok (.iload_n 2, 1) := by decide +kernel
theorem dX12_back_13 : decode cX12_back 13 = .ok (.iconst 1, 1) := by decide +kernel
theorem dX12_back_14 : decode cX12_back 14 = .ok (.if_icmp .ne 7, 3) := by decide +kernel
theorem dX12_back_17 : decode cX12_back 17 = .ok (.lconst 1, 1) := by decide +kernel
theorem dX12_back_18 : decode cX12_back 18 = .ok (.goto 4, 3) := by decide +kernel
theorem dX12_back_21 : decode cX12_back 21 = .ok (.lconst 0, 1) := by decide +kernel
theorem dX12_back_22 : decode cX12_back 22 = .ok (.lastore, 1) := by decide +kernel
theorem dX12_back_23 : decode cX12_back 23 = .ok (.iconst 1, 1) := by decide +kernel
theorem dX12_back_24 : decode cX12_back 24 = .ok (.istore_n 3, 1) := by decide +kernel
theorem dX12_back_25 : decode cX12_back 25 = .ok (.iload_n 3, 1) := by decide +kernel
theorem dX12_back_26 : decode cX12_back 26 = .ok (.iload_n 2, 1) := by decide +kernel
theorem dX12_back_27 : decode cX12_back 27 = .ok (.if_icmp .ge 37, 3) := by decide +kernel
theorem dX12_back_30 : decode cX12_back 30 = .ok (.aload_n 0, 1) := by decide +kernel
theorem dX12_back_31 : decode cX12_back 31 = .ok (.iload_n 3, 1) := by decide +kernel
theorem dX12_back_32 : decode cX12_back 32 = .ok (.iload_n 2, 1) := by decide +kernel
theorem dX12_back_33 : decode cX12_back 33 = .ok (.invokevirtual 531, 3) := by decide +kernel
theorem dX12_back_36 : decode cX12_back 36 = .ok (.aload_n 0, 1) := by decide +kernel
theorem dX12_back_37 : decode cX12_back 37 = .ok (.getfield 157, 3) := by decide +kernel
theorem dX12_back_40 : decode cX12_back 40 = .ok (.iload_n 2, 1) := by decide +kernel
theorem dX12_back_41 : decode cX12_back 41 = .ok (.dup2, 1) := by decide +kernel
theorem dX12_back_42 : decode cX12_back 42 = .ok (.laload, 1) := by decide +kernel
theorem dX12_back_43 : decode cX12_back 43 = .ok (.aload_n 0, 1) := by decide +kernel
theorem dX12_back_44 : decode cX12_back 44 = .ok (.getfield 157, 3) := by decide +kernel
theorem dX12_back_47 : decode cX12_back 47 = .ok (.iload_n 3, 1) := by decide +kernel
theorem dX12_back_48 : decode cX12_back 48 = .ok (.laload, 1) := by decide +kernel
theorem dX12_back_49 : decode cX12_back 49 = .ok (.aload_n 0, 1) := by decide +kernel
theorem dX12_back_50 : decode cX12_back 50 = .ok (.getfield 154, 3) := by decide +kernel
theorem dX12_back_53 : decode cX12_back 53 = .ok (.iload_n 2, 1) := by decide +kernel
theorem dX12_back_54 : decode cX12_back 54 = .ok (.laload, 1) := by decide +kernel
theorem dX12_back_55 : decode cX12_back 55 = .ok (.lmul, 1) := by decide +kernel
theorem dX12_back_56 : decode cX12_back 56 = .ok (.lsub, 1) := by decide +kernel
theorem dX12_back_57 : decode cX12_back 57 = .ok (.lastore, 1) := by decide +kernel
theorem dX12_back_58 : decode cX12_back 58 = .ok (.iinc 3 1, 3) := by decide +kernel
theorem dX12_back_61 : decode cX12_back 61 = .ok (.goto (-36), 3) := by decide +kernel
theorem dX12_back_64 : decode cX12_back 64 = .ok (.iinc 2 1, 3) := by decide +kernel
theorem dX12_back_67 : decode cX12_back 67 = .ok (.goto (-65), 3) := by decide +kernel
theorem dX12_back_70 : decode cX12_back 70 = .ok (.return_, 1) := by decide +kernel
theorem dX12_undone_0 : decode cX12_undone 0 = .ok (.aload_n 0, 1) := by decide +kernel
theorem dX12_undone_1 : decode cX12_undone 1 = .ok (.iload_n 1, 1) := by decide +kernel
theorem dX12_undone_2 : decode cX12_undone 2 = .ok (.iconst 1, 1) := by decide +kernel
theorem dX12_undone_3 : decode cX12_undone 3 = .ok (.bipush 7, 2) := by decide +kernel
theorem dX12_undone_5 : decode cX12_undone 5 = .ok (.invokestatic 451, 3) := by decide +kernel
theorem dX12_undone_8 : decode cX12_undone 8 = .ok (.ifCond .eq 12, 3) := by decide +kernel
theorem dX12_undone_11 : decode cX12_undone 11 = .ok (.aload_n 0, 1) := by decide +kernel
theorem dX12_undone_12 : decode cX12_undone 12 = .ok (.iconst 0, 1) := by decide +kernel
theorem dX12_undone_13 : decode cX12_undone 13 = .ok (.iload_n 1, 1) := by decide +kernel
theorem dX12_undone_14 : decode cX12_undone 14 = .ok (.invokevirtual 534, 3) := by decide +kernel
theorem dX12_undone_17 : decode cX12_undone 17 = .ok (.ifCond .ne 7, 3) := by decide +kernel
theorem dX12_undone_20 : decode cX12_undone 20 = .ok (.iconst 1, 1) := by decide +kernel
theorem dX12_undone_21 : decode cX12_undone 21 = .ok (.goto 4, 3) := by decide +kernel
theorem dX12_undone_24 : decode cX12_undone 24 = .ok (.iconst 0, 1) := by decide +kernel
theorem dX12_undone_25 : decode cX12_undone 25 = .ok (.invokevirtual 486, 3) := by decide +kernel
theorem dX12_undone_28 : decode cX12_undone 28 = .ok (.ifCond .eq 5, 3) := by decide +kernel
theorem dX12_undone_31 : decode cX12_undone 31 = .ok (.lconst 0, 1) := by decide +kernel
theorem dX12_undone_32 : decode cX12_undone 32 = .ok (.lreturn, 1) := by decide +kernel
theorem dX12_undone_33 : decode cX12_undone 33 = .ok (.aload_n 0, 1) := by decide +kernel
theorem dX12_undone_34 : decode cX12_undone 34 = .ok (.iload_n 1, 1) := by decide +kernel
theorem dX12_undone_35 : decode cX12_undone 35 = .ok (.invokevirtual 537, 3) := by decide +kernel
theorem dX12_undone_38 : decode cX12_undone 38 = .ok (.aload_n 0, 1) := by decide +kernel
theorem dX12_undone_39 : decode cX12_undone 39 = .ok (.getfield 157, 3) := by decide +kernel
theorem dX12_undone_42 : decode cX12_undone 42 = .ok (.iload_n 1, 1) := by decide +kernel
theorem dX12_undone_43 : decode cX12_undone 43 = .ok (.laload, 1) := by decide +kernel
theorem dX12_undone_44 : decode cX12_undone 44 = .ok (.lreturn, 1) := by decide +kernel
theorem dX12_koszul_0 : decode cX12_koszul 0 = .ok (.aload_n 0, 1) := by decide +kernel
theorem dX12_koszul_1 : decode cX12_koszul 1 = .ok (.iconst 0, 1) := by decide +kernel
theorem dX12_koszul_2 : decode cX12_koszul 2 = .ok (.putfield 1, 3) := by decide +kernel
theorem dX12_koszul_5 : decode cX12_koszul 5 = .ok (.iload_n 1, 1) := by decide +kernel
theorem dX12_koszul_6 : decode cX12_koszul 6 = .ok (.iconst 1, 1) := by decide +kernel
theorem dX12_koszul_7 : decode cX12_koszul 7 = .ok (.bipush 7, 2) := by decide +kernel
theorem dX12_koszul_9 : decode cX12_koszul 9 = .ok (.invokestatic 451, 3) := by decide +kernel
theorem dX12_koszul_12 : decode cX12_koszul 12 = .ok (.ifCond .eq 10, 3) := by decide +kernel
theorem dX12_koszul_15 : decode cX12_koszul 15 = .ok (.aload_n 0, 1) := by decide +kernel
theorem dX12_koszul_16 : decode cX12_koszul 16 = .ok (.invokevirtual 525, 3) := by decide +kernel
theorem dX12_koszul_19 : decode cX12_koszul 19 = .ok (.ifCond .ne 6, 3) := by decide +kernel
theorem dX12_koszul_22 : decode cX12_koszul 22 = .ok (.bipush (-2), 2) := by decide +kernel
theorem dX12_koszul_24 : decode cX12_koszul 24 = .ok (.ireturn, 1) := by decide +kernel
theorem dX12_koszul_25 : decode cX12_koszul 25 = .ok (.aload_n 0, 1) := by decide +kernel
theorem dX12_koszul_26 : decode cX12_koszul 26 = .ok (.invokevirtual 528, 3) := by decide +kernel
theorem dX12_koszul_29 : decode cX12_koszul 29 = .ok (.iconst 0, 1) := by decide +kernel
theorem dX12_koszul_30 : decode cX12_koszul 30 = .ok (.istore_n 2, 1) := by decide +kernel
theorem dX12_koszul_31 : decode cX12_koszul 31 = .ok (.iload_n 2, 1) := by decide +kernel
theorem dX12_koszul_32 : decode cX12_koszul 32 = .ok (.sipush 1173, 3) := by decide +kernel
theorem dX12_koszul_35 : decode cX12_koszul 35 = .ok (.if_icmp .ge 25, 3) := by decide +kernel
theorem dX12_koszul_38 : decode cX12_koszul 38 = .ok (.aload_n 0, 1) := by decide +kernel
theorem dX12_koszul_39 : decode cX12_koszul 39 = .ok (.getfield 56, 3) := by decide +kernel
theorem dX12_koszul_42 : decode cX12_koszul 42 = .ok (.sipush 1173, 3) := by decide +kernel
theorem dX12_koszul_45 : decode cX12_koszul 45 = .ok (.iload_n 2, 1) := by decide +kernel
theorem dX12_koszul_46 : decode cX12_koszul 46 = .ok (.iadd, 1) := by decide +kernel
theorem dX12_koszul_47 : decode cX12_koszul 47 = .ok (.aload_n 0, 1) := by decide +kernel
theorem dX12_koszul_48 : decode cX12_koszul 48 = .ok (.getfield 37, 3) := by decide +kernel
theorem dX12_koszul_51 : decode cX12_koszul 51 = .ok (.iload_n 2, 1) := by decide +kernel
theorem dX12_koszul_52 : decode cX12_koszul 52 = .ok (.iaload, 1) := by decide +kernel
theorem dX12_koszul_53 : decode cX12_koszul 53 = .ok (.iastore, 1) := by decide +kernel
theorem dX12_koszul_54 : decode cX12_koszul 54 = .ok (.iinc 2 1, 3) := by decide +kernel
theorem dX12_koszul_57 : decode cX12_koszul 57 = .ok (.goto (-26), 3) := by decide +kernel
theorem dX12_koszul_60 : decode cX12_koszul 60 = .ok (.aload_n 0, 1) := by decide +kernel
theorem dX12_koszul_61 : decode cX12_koszul 61 = .ok (.invokevirtual 460, 3) := by decide +kernel
theorem dX12_koszul_64 : decode cX12_koszul 64 = .ok (.iconst 1, 1) := by decide +kernel
theorem dX12_koszul_65 : decode cX12_koszul 65 = .ok (.istore_n 2, 1) := by decide +kernel
theorem dX12_koszul_66 : decode cX12_koszul 66 = .ok (.iload_n 2, 1) := by decide +kernel
theorem dX12_koszul_67 : decode cX12_koszul 67 = .ok (.iload_n 1, 1) := by decide +kernel
theorem dX12_koszul_68 : decode cX12_koszul 68 = .ok (.if_icmp .gt 69, 3) := by decide +kernel
theorem dX12_koszul_71 : decode cX12_koszul 71 = .ok (.aload_n 0, 1) := by decide +kernel
theorem dX12_koszul_72 : decode cX12_koszul 72 = .ok (.iconst 0, 1) := by decide +kernel
theorem dX12_koszul_73 : decode cX12_koszul 73 = .ok (.iload_n 2, 1) := by decide +kernel
theorem dX12_koszul_74 : decode cX12_koszul 74 = .ok (.invokevirtual 534, 3) := by decide +kernel
theorem dX12_koszul_77 : decode cX12_koszul 77 = .ok (.ifCond .eq 12, 3) := by decide +kernel
theorem dX12_koszul_80 : decode cX12_koszul 80 = .ok (.aload_n 0, 1) := by decide +kernel
theorem dX12_koszul_81 : decode cX12_koszul 81 = .ok (.iconst 1, 1) := by decide +kernel
theorem dX12_koszul_82 : decode cX12_koszul 82 = .ok (.iload_n 2, 1) := by decide +kernel
theorem dX12_koszul_83 : decode cX12_koszul 83 = .ok (.invokevirtual 495, 3) := by decide +kernel
theorem dX12_koszul_86 : decode cX12_koszul 86 = .ok (.ifCond .eq 5, 3) := by decide +kernel
theorem dX12_koszul_89 : decode cX12_koszul 89 = .ok (.iconst (-1), 1) := by decide +kernel
theorem dX12_koszul_90 : decode cX12_koszul 90 = .ok (.ireturn, 1) := by decide +kernel
theorem dX12_koszul_91 : decode cX12_koszul 91 = .ok (.aload_n 0, 1) := by decide +kernel
theorem dX12_koszul_92 : decode cX12_koszul 92 = .ok (.iload_n 2, 1) := by decide +kernel
theorem dX12_koszul_93 : decode cX12_koszul 93 = .ok (.invokevirtual 537, 3) := by decide +kernel
theorem dX12_koszul_96 : decode cX12_koszul 96 = .ok (.aload_n 0, 1) := by decide +kernel
theorem dX12_koszul_97 : decode cX12_koszul 97 = .ok (.getfield 157, 3) := by decide +kernel
theorem dX12_koszul_100 : decode cX12_koszul 100 = .ok (.iload_n 2, 1) := by decide +kernel
theorem dX12_koszul_101 : decode cX12_koszul 101 = .ok (.laload, 1) := by decide +kernel
theorem dX12_koszul_102 : decode cX12_koszul 102 = .ok (.iload_n 2, 1) := by decide +kernel
theorem dX12_koszul_103 : decode cX12_koszul 103 = .ok (.iconst 2, 1) := by decide +kernel
theorem dX12_koszul_104 : decode cX12_koszul 104 = .ok (.irem, 1) := by decide +kernel
theorem dX12_koszul_105 : decode cX12_koszul 105 = .ok (.ifCond .ne 13, 3) := by decide +kernel
theorem dX12_koszul_108 : decode cX12_koszul 108 = .ok (.aload_n 0, 1) := by decide +kernel
theorem dX12_koszul_109 : decode cX12_koszul 109 = .ok (.iconst 1, 1) := by decide +kernel
theorem dX12_koszul_110 : decode cX12_koszul 110 = .ok (.iload_n 2, 1) := by decide +kernel
theorem dX12_koszul_111 : decode cX12_koszul 111 = .ok (.invokevirtual 501, 3) := by decide +kernel
theorem dX12_koszul_114 : decode cX12_koszul 114 = .ok (.ineg, 1) := by decide +kernel
theorem dX12_koszul_115 : decode cX12_koszul 115 = .ok (.goto 9, 3) := by decide +kernel
theorem dX12_koszul_118 : decode cX12_koszul 118 = .ok (.aload_n 0, 1) := by decide +kernel
theorem dX12_koszul_119 : decode cX12_koszul 119 = .ok (.iconst 1, 1) := by decide +kernel
theorem dX12_koszul_120 : decode cX12_koszul 120 = .ok (.iload_n 2, 1) := by decide +kernel
theorem dX12_koszul_121 : decode cX12_koszul 121 = .ok (.invokevirtual 501, 3) := by decide +kernel
theorem dX12_koszul_124 : decode cX12_koszul 124 = .ok (.i2l, 1) := by decide +kernel
theorem dX12_koszul_125 : decode cX12_koszul 125 = .ok (.lcmp, 1) := by decide +kernel
theorem dX12_koszul_126 : decode cX12_koszul 126 = .ok (.ifCond .eq 5, 3) := by decide +kernel
theorem dX12_koszul_129 : decode cX12_koszul 129 = .ok (.iload_n 2, 1) := by decide +kernel
theorem dX12_koszul_130 : decode cX12_koszul 130 = .ok (.ireturn, 1) := by decide +kernel
theorem dX12_koszul_131 : decode cX12_koszul 131 = .ok (.iinc 2 1, 3) := by decide +kernel
theorem dX12_koszul_134 : decode cX12_koszul 134 = .ok (.goto (-68), 3) := by decide +kernel
theorem dX12_koszul_137 : decode cX12_koszul 137 = .ok (.iconst (-1), 1) := by decide +kernel
theorem dX12_koszul_138 : decode cX12_koszul 138 = .ok (.ireturn, 1) := by decide +kernel
theorem dX12_isKeptAt_0 : decode cX12_isKeptAt 0 = .ok (.iload_n 1, 1) := by decide +kernel
theorem dX12_isKeptAt_1 : decode cX12_isKeptAt 1 = .ok (.iconst 0, 1) := by decide +kernel
theorem dX12_isKeptAt_2 : decode cX12_isKeptAt 2 = .ok (.iconst 1, 1) := by decide +kernel
theorem dX12_isKeptAt_3 : decode cX12_isKeptAt 3 = .ok (.invokestatic 451, 3) := by decide +kernel
theorem dX12_isKeptAt_6 : decode cX12_isKeptAt 6 = .ok (.ifCond .eq 16, 3) := by decide +kernel
theorem dX12_isKeptAt_9 : decode cX12_isKeptAt 9 = .ok (.aload_n 0, 1) := by decide +kernel
theorem dX12_isKeptAt_10 : decode cX12_isKeptAt 10 = .ok (.getfield 220, 3) := by decide +kernel
theorem dX12_isKeptAt_13 : decode cX12_isKeptAt 13 = .ok (.iload_n 1, 1) := by decide +kernel
theorem dX12_isKeptAt_14 : decode cX12_isKeptAt 14 = .ok (.baload, 1) := by decide +kernel
theorem dX12_isKeptAt_15 : decode cX12_isKeptAt 15 = .ok (.ifCond .eq 7, 3) := by decide +kernel
theorem dX12_isKeptAt_18 : decode cX12_isKeptAt 18 = .ok (.iconst 1, 1) := by decide +kernel
theorem dX12_isKeptAt_19 : decode cX12_isKeptAt 19 = .ok (.goto 4, 3) := by decide +kernel
theorem dX12_isKeptAt_22 : decode cX12_isKeptAt 22 = .ok (.iconst 0, 1) := by decide +kernel
theorem dX12_isKeptAt_23 : decode cX12_isKeptAt 23 = .ok (.ireturn, 1) := by decide +kernel
theorem dX12_loads_0 : decode cX12_loads 0 = .ok (.iconst 0, 1) := by decide +kernel
theorem dX12_loads_1 : decode cX12_loads 1 = .ok (.istore_n 2, 1) := by decide +kernel
theorem dX12_loads_2 : decode cX12_loads 2 = .ok (.iload_n 2, 1) := by decide +kernel
theorem dX12_loads_3 : decode cX12_loads 3 = .ok (.sipush 1173, 3) := by decide +kernel
theorem dX12_loads_6 : decode cX12_loads 6 = .ok (.if_icmp .ge 31, 3) := by decide +kernel
theorem dX12_loads_9 : decode cX12_loads 9 = .ok (.aload_n 0, 1) := by decide +kernel
theorem dX12_loads_10 : decode cX12_loads 10 = .ok (.getfield 56, 3) := by decide +kernel
theorem dX12_loads_13 : decode cX12_loads 13 = .ok (.sipush 1173, 3) := by decide +kernel
theorem dX12_loads_16 : decode cX12_loads 16 = .ok (.iload_n 2, 1) := by decide +kernel
theorem dX12_loads_17 : decode cX12_loads 17 = .ok (.iadd, 1) := by decide +kernel
theorem dX12_loads_18 : decode cX12_loads 18 = .ok (.aload_n 0, 1) := by decide +kernel
theorem dX12_loads_19 : decode cX12_loads 19 = .ok (.getfield 214, 3) := by decide +kernel
theorem dX12_loads_22 : decode cX12_loads 22 = .ok (.sipush 3775, 3) := by decide +kernel
theorem dX12_loads_25 : decode cX12_loads 25 = .ok (.iload_n 1, 1) := by decide +kernel
theorem dX12_loads_26 : decode cX12_loads 26 = .ok (.imul, 1) := by decide +kernel
theorem dX12_loads_27 : decode cX12_loads 27 = .ok (.iload_n 2, 1) := by decide +kernel
theorem dX12_loads_28 : decode cX12_loads 28 = .ok (.iadd, 1) := by decide +kernel
theorem dX12_loads_29 : decode cX12_loads 29 = .ok (.iaload, 1) := by decide +kernel
theorem dX12_loads_30 : decode cX12_loads 30 = .ok (.iastore, 1) := by decide +kernel
theorem dX12_loads_31 : decode cX12_loads 31 = .ok (.iinc 2 1, 3) := by decide +kernel
theorem dX12_loads_34 : decode cX12_loads 34 = .ok (.goto (-32), 3) := by decide +kernel
theorem dX12_loads_37 : decode cX12_loads 37 = .ok (.aload_n 0, 1) := by decide +kernel
theorem dX12_loads_38 : decode cX12_loads 38 = .ok (.invokevirtual 460, 3) := by decide +kernel
theorem dX12_loads_41 : decode cX12_loads 41 = .ok (.return_, 1) := by decide +kernel
theorem dX12_layered_0 : decode cX12_layered 0 = .ok (.aload_n 0, 1) := by decide +kernel
theorem dX12_layered_1 : decode cX12_layered 1 = .ok (.iconst 0, 1) := by decide +kernel
theorem dX12_layered_2 : decode cX12_layered 2 = .ok (.putfield 1, 3) := by decide +kernel
theorem dX12_layered_5 : decode cX12_layered 5 = .ok (.iload_n 2, 1) := by decide +kernel
theorem dX12_layered_6 : decode cX12_layered 6 = .ok (.iconst 1, 1) := by decide +kernel
theorem dX12_layered_7 : decode cX12_layered 7 = .ok (.bipush 7, 2) := by decide +kernel
theorem dX12_layered_9 : decode cX12_layered 9 = .ok (.invokestatic 451, 3) := by decide +kernel
theorem dX12_layered_12 : decode cX12_layered 12 = .ok (.ifCond .eq 11, 3) := by decide +kernel
theorem dX12_layered_15 : decode cX12_layered 15 = .ok (.aload_n 0, 1) := by decide +kernel
theorem dX12_layered_16 : decode cX12_layered 16 = .ok (.iload_n 1, 1) := by decide +kernel
theorem dX12_layered_17 : decode cX12_layered 17 = .ok (.invokevirtual 540, 3) := by decide +kernel
theorem dX12_layered_20 : decode cX12_layered 20 = .ok (.ifCond .ne 7, 3) := by decide +kernel
theorem dX12_layered_23 : decode cX12_layered 23 = .ok (.ldc2_w 472, 3) := by decide +kernel
theorem dX12_layered_26 : decode cX12_layered 26 = .ok (.lreturn, 1) := by decide +kernel
theorem dX12_layered_27 : decode cX12_layered 27 = .ok (.aload_n 0, 1) := by decide +kernel
theorem dX12_layered_28 : decode cX12_layered 28 = .ok (.iload_n 1, 1) := by decide +kernel
theorem dX12_layered_29 : decode cX12_layered 29 = .ok (.invokevirtual 543, 3) := by decide +kernel
theorem dX12_layered_32 : decode cX12_layered 32 = .ok (.iconst 1, 1) := by decide +kernel
theorem dX12_layered_33 : decode cX12_layered 33 = .ok (.istore_n 3, 1) := by decide +kernel
theorem dX12_layered_34 : decode cX12_layered 34 = .ok (.iload_n 3, 1) := by decide +kernel
theorem dX12_layered_35 : decode cX12_layered 35 = .ok (.iload_n 2, 1) := by decide +kernel
theorem dX12_layered_36 : decode cX12_layered 36 = .ok (.if_icmp .gt 22, 3) := by decide +kernel
theorem dX12_layered_39 : decode cX12_layered 39 = .ok (.aload_n 0, 1) := by decide +kernel
theorem dX12_layered_40 : decode cX12_layered 40 = .ok (.iconst 0, 1) := by decide +kernel
theorem dX12_layered_41 : decode cX12_layered 41 = .ok (.iload_n 3, 1) := by decide +kernel
theorem dX12_layered_42 : decode cX12_layered 42 = .ok (.invokevirtual 495, 3) := by decide +kernel
theorem dX12_layered_45 : decode cX12_layered 45 = .ok (.ifCond .eq 7, 3) := by decide +kernel
theorem dX12_layered_48 : decode cX12_layered 48 = .ok (.ldc2_w 472, 3) := by decide +kernel
theorem dX12_layered_51 : decode cX12_layered 51 = .ok (.lreturn, 1) := by decide +kernel
theorem dX12_layered_52 : decode cX12_layered 52 = .ok (.iinc 3 1, 3) := by decide +kernel
theorem dX12_layered_55 : decode cX12_layered 55 = .ok (.goto (-21), 3) := by decide +kernel
theorem dX12_layered_58 : decode cX12_layered 58 = .ok (.aload_n 0, 1) := by decide +kernel
theorem dX12_layered_59 : decode cX12_layered 59 = .ok (.iconst 1, 1) := by decide +kernel
theorem dX12_layered_60 : decode cX12_layered 60 = .ok (.iload_n 2, 1) := by decide +kernel
theorem dX12_layered_61 : decode cX12_layered 61 = .ok (.invokevirtual 534, 3) := by decide +kernel
theorem dX12_layered_64 : decode cX12_layered 64 = .ok (.ifCond .ne 7, 3) := by decide +kernel
theorem dX12_layered_67 : decode cX12_layered 67 = .ok (.ldc2_w 472, 3) := by decide +kernel
theorem dX12_layered_70 : decode cX12_layered 70 = .ok (.lreturn, 1) := by decide +kernel
theorem dX12_layered_71 : decode cX12_layered 71 = .ok (.lconst 0, 1) := by decide +kernel
theorem dX12_layered_72 : decode cX12_layered 72 = .ok (.lstore_n 3, 1) := by decide +kernel
theorem dX12_layered_73 : decode cX12_layered 73 = .ok (.iconst 1, 1) := by decide +kernel
theorem dX12_layered_74 : decode cX12_layered 74 = .ok (.istore 5, 2) := by decide +kernel
theorem dX12_layered_76 : decode cX12_layered 76 = .ok (.iload 5, 2) := by decide +kernel
theorem dX12_layered_78 : decode cX12_layered 78 = .ok (.iload_n 2, 1) := by decide +kernel
theorem dX12_layered_79 : decode cX12_layered 79 = .ok (.if_icmp .gt 34, 3) := by decide +kernel
theorem dX12_layered_82 : decode cX12_layered 82 = .ok (.aload_n 0, 1) := by decide +kernel
theorem dX12_layered_83 : decode cX12_layered 83 = .ok (.iload 5, 2) := by decide +kernel
theorem dX12_layered_85 : decode cX12_layered 85 = .ok (.iload_n 2, 1) := by decide +kernel
theorem dX12_layered_86 : decode cX12_layered 86 = .ok (.invokevirtual 531, 3) := by decide +kernel
theorem dX12_layered_89 : decode cX12_layered 89 = .ok (.lload_n 3, 1) := by decide +kernel
theorem dX12_layered_90 : decode cX12_layered 90 = .ok (.aload_n 0, 1) := by decide +kernel
theorem dX12_layered_91 : decode cX12_layered 91 = .ok (.iconst 0, 1) := by decide +kernel
theorem dX12_layered_92 : decode cX12_layered 92 = .ok (.iload 5, 2) := by decide +kernel
theorem dX12_layered_94 : decode cX12_layered 94 = .ok (.invokevirtual 501, 3) := by decide +kernel
theorem dX12_layered_97 : decode cX12_layered 97 = .ok (.i2l, 1) := by decide +kernel
theorem dX12_layered_98 : decode cX12_layered 98 = .ok (.aload_n 0, 1) := by decide +kernel
theorem dX12_layered_99 : decode cX12_layered 99 = .ok (.getfield 154, 3) := by decide +kernel
theorem dX12_layered_102 : decode cX12_layered 102 = .ok (.iload_n 2, 1) := by decide +kernel
theorem dX12_layered_103 : decode cX12_layered 103 = .ok (.laload, 1) := by decide +kernel
theorem dX12_layered_104 : decode cX12_layered 104 = .ok (.lmul, 1) := by decide +kernel
theorem dX12_layered_105 : decode cX12_layered 105 = .ok (.ladd, 1) := by decide +kernel
theorem dX12_layered_106 : decode cX12_layered 106 = .ok (.lstore_n 3, 1) := by decide +kernel
theorem dX12_layered_107 : decode cX12_layered 107 = .ok (.iinc 5 1, 3) := by decide +kernel
theorem dX12_layered_110 : decode cX12_layered 110 = .ok (.goto (-34), 3) := by decide +kernel
theorem dX12_layered_113 : decode cX12_layered 113 = .ok (.lload_n 3, 1) := by decide +kernel
theorem dX12_layered_114 : decode cX12_layered 114 = .ok (.lreturn, 1) := by decide +kernel
theorem dX12_readMap_0 : decode cX12_readMap 0 = .ok (.iconst 0, 1) := by decide +kernel
theorem dX12_readMap_1 : decode cX12_readMap 1 = .ok (.istore_n 1, 1) := by decide +kernel
theorem dX12_readMap_2 : decode cX12_readMap 2 = .ok (.aload_n 0, 1) := by decide +kernel
theorem dX12_readMap_3 : decode cX12_readMap 3 = .ok (.getfield 242, 3) := by decide +kernel
theorem dX12_readMap_6 : decode cX12_readMap 6 = .ok (.ifCond .eq 182, 3) := by decide +kernel
theorem dX12_readMap_9 : decode cX12_readMap 9 = .ok (.aload_n 0, 1) := by decide +kernel
theorem dX12_readMap_10 : decode cX12_readMap 10 = .ok (.invokevirtual 412, 3) := by decide +kernel
theorem dX12_readMap_13 : decode cX12_readMap 13 = .ok (.ifCond .ne 9, 3) := by decide +kernel
theorem dX12_readMap_16 : decode cX12_readMap 16 = .ok (.aload_n 0, 1) := by decide +kernel
theorem dX12_readMap_17 : decode cX12_readMap 17 = .ok (.iconst 1, 1) := by decide +kernel
theorem dX12_readMap_18 : decode cX12_readMap 18 = .ok (.invokevirtual 268, 3) := by decide +kernel
theorem dX12_readMap_21 : decode cX12_readMap 21 = .ok (.ireturn, 1) := by decide +kernel
theorem dX12_readMap_22 : decode cX12_readMap 22 = .ok (.iconst (-1), 1) := by decide +kernel
theorem dX12_readMap_23 : decode cX12_readMap 23 = .ok (.istore_n 2, 1) := by decide +kernel
theorem dX12_readMap_24 : decode cX12_readMap 24 = .ok (.iconst 0, 1) := by decide +kernel
theorem dX12_readMap_25 : decode cX12_readMap 25 = .ok (.istore_n 3, 1) := by decide +kernel
theorem dX12_readMap_26 : decode cX12_readMap 26 = .ok (.iload_n 3, 1) := by decide +kernel
theorem dX12_readMap_27 : decode cX12_readMap 27 = .ok (.aload_n 0, 1) := by decide +kernel
theorem dX12_readMap_28 : decode cX12_readMap 28 = .ok (.getfield 33, 3) := by decide +kernel
theorem dX12_readMap_31 : decode cX12_readMap 31 = .ok (.iconst 1, 1) := by decide +kernel
theorem dX12_readMap_32 : decode cX12_readMap 32 = .ok (.iaload, 1) := by decide +kernel
theorem dX12_readMap_33 : decode cX12_readMap 33 = .ok (.if_icmp .ge 25, 3) := by decide +kernel
theorem dX12_readMap_36 : decode cX12_readMap 36 = .ok (.aload_n 0, 1) := by decide +kernel
theorem dX12_readMap_37 : decode cX12_readMap 37 = .ok (.getfield 40, 3) := by decide +kernel
theorem dX12_readMap_40 : decode cX12_readMap 40 = .ok (.iload_n 3, 1) := by decide +kernel
theorem dX12_readMap_41 : decode cX12_readMap 41 = .ok (.laload, 1) := by decide +kernel
theorem dX12_readMap_42 : decode cX12_readMap 42 = .ok (.aload_n 0, 1) := by decide +kernel
theorem dX12_readMap_43 : decode cX12_readMap 43 = .ok (.getfield 255, 3) := by decide +kernel
theorem dX12_readMap_46 : decode cX12_readMap 46 = .ok (.lcmp, 1) := by decide +kernel
theorem dX12_readMap_47 : decode cX12_readMap 47 = .ok (.ifCond .ne 5, 3) := by decide +kernel
theorem dX12_readMap_50 : decode cX12_readMap 50 = .ok (.iload_n 3, 1) := by decide +kernel
theorem dX12_readMap_51 : decode cX12_readMap 51 = .ok (.istore_n 2, 1) := by decide +kernel
theorem dX12_readMap_52 : decode cX12_readMap 52 = .ok (.iinc 3 1, 3) := by decide +kernel
theorem dX12_readMap_55 : decode cX12_readMap 55 = .ok (.goto (-29), 3) := by decide +kernel
theorem dX12_readMap_58 : decode cX12_readMap 58 = .ok (.iload_n 2, 1) := by decide +kernel
theorem dX12_readMap_59 : decode cX12_readMap 59 = .ok (.ifCond .lt 12, 3) := by decide +kernel
theorem dX12_readMap_62 : decode cX12_readMap 62 = .ok (.iload_n 1, 1) := by decide +kernel
theorem dX12_readMap_63 : decode cX12_readMap 63 = .ok (.iload_n 2, 1) := by decide +kernel
theorem dX12_readMap_64 : decode cX12_readMap 64 = .ok (.ishr, 1) := by decide +kernel
theorem dX12_readMap_65 : decode cX12_readMap 65 = .ok (.iconst 1, 1) := by decide +kernel
theorem dX12_readMap_66 : decode cX12_readMap 66 = .ok (.iand, 1) := by decide +kernel
theorem dX12_readMap_67 : decode cX12_readMap 67 = .ok (.iconst 1, 1) := by decide +kernel
theorem dX12_readMap_68 : decode cX12_readMap 68 = .ok (.if_icmp .ne 9, 3) := by decide +kernel
theorem dX12_readMap_71 : decode cX12_readMap 71 = .ok (.aload_n 0, 1) := by decide +kernel
theorem dX12_readMap_72 : decode cX12_readMap 72 = .ok (.iconst 3, 1) := by decide +kernel
theorem dX12_readMap_73 : decode cX12_readMap 73 = .ok (.invokevirtual 268, 3) := by decide +kernel
theorem dX12_readMap_76 : decode cX12_readMap 76 = .ok (.ireturn, 1) := by decide +kernel
theorem dX12_readMap_77 : decode cX12_readMap 77 = .ok (.iload_n 1, 1) := by decide +kernel
theorem dX12_readMap_78 : decode cX12_readMap 78 = .ok (.iconst 1, 1) := by decide +kernel
theorem dX12_readMap_79 : decode cX12_readMap 79 = .ok (.iload_n 2, 1) := by decide +kernel
theorem dX12_readMap_80 : decode cX12_readMap 80 = .ok (.ishl, 1) := by decide +kernel
theorem dX12_readMap_81 : decode cX12_readMap 81 = .ok (.ior, 1) := by decide +kernel
theorem dX12_readMap_82 : decode cX12_readMap 82 = .ok (.istore_n 1, 1) := by decide +kernel
theorem dX12_readMap_83 : decode cX12_readMap 83 = .ok (.aload_n 0, 1) := by decide +kernel
theorem dX12_readMap_84 : decode cX12_readMap 84 = .ok (.invokevirtual 271, 3) := by decide +kernel
theorem dX12_readMap_87 : decode cX12_readMap 87 = .ok (.aload_n 0, 1) := by decide +kernel
theorem dX12_readMap_88 : decode cX12_readMap 88 = .ok (.bipush 61, 2) := by decide +kernel
theorem dX12_readMap_90 : decode cX12_readMap 90 = .ok (.invokevirtual 409, 3) := by decide +kernel
theorem dX12_readMap_93 : decode cX12_readMap 93 = .ok (.ifCond .ne 5, 3) := by decide +kernel
theorem dX12_readMap_96 : decode cX12_readMap 96 = .ok (.iconst 0, 1) := by decide +kernel
theorem dX12_readMap_97 : decode cX12_readMap 97 = .ok (.ireturn, 1) := by decide +kernel
theorem dX12_readMap_98 : decode cX12_readMap 98 = .ok (.aload_n 0, 1) := by decide +kernel
theorem dX12_readMap_99 : decode cX12_readMap 99 = .ok (.iconst 0, 1) := by decide +kernel
theorem dX12_readMap_100 : decode cX12_readMap 100 = .ok (.aload_n 0, 1) := by decide +kernel
theorem dX12_readMap_101 : decode cX12_readMap 101 = .ok (.getfield 33, 3) := by decide +kernel
theorem dX12_readMap_104 : decode cX12_readMap 104 = .ok (.iconst 4, 1) := by decide +kernel
theorem dX12_readMap_105 : decode cX12_readMap 105 = .ok (.iload_n 2, 1) := by decide +kernel
theorem dX12_readMap_106 : decode cX12_readMap 106 = .ok (.iadd, 1) := by decide +kernel
theorem dX12_readMap_107 : decode cX12_readMap 107 = .ok (.iaload, 1) := by decide +kernel
theorem dX12_readMap_108 : decode cX12_readMap 108 = .ok (.invokevirtual 447, 3) := by decide +kernel
theorem dX12_readMap_111 : decode cX12_readMap 111 = .ok (.ifCond .eq 12, 3) := by decide +kernel
theorem dX12_readMap_114 : decode cX12_readMap 114 = .ok (.aload_n 0, 1) := by decide +kernel
theorem dX12_readMap_115 : decode cX12_readMap 115 = .ok (.bipush 59, 2) := by decide +kernel
theorem dX12_readMap_117 : decode cX12_readMap 117 = .ok (.invokevirtual 409, 3) := by decide +kernel
theorem dX12_readMap_120 : decode cX12_readMap 120 = .ok (.ifCond .ne 5, 3) := by decide +kernel
theorem dX12_readMap_123 : decode cX12_readMap 123 = .ok (.iconst 0, 1) := by decide +kernel
theorem dX12_readMap_124 : decode cX12_readMap 124 = .ok (.ireturn, 1) := by decide +kernel
theorem dX12_readMap_125 : decode cX12_readMap 125 = .ok (.aload_n 0, 1) := by decide +kernel
theorem dX12_readMap_126 : decode cX12_readMap 126 = .ok (.getfield 166, 3) := by decide +kernel
theorem dX12_readMap_129 : decode cX12_readMap 129 = .ok (.iload_n 2, 1) := by decide +kernel
theorem dX12_readMap_130 : decode cX12_readMap 130 = .ok (.aload_n 0, 1) := by decide +kernel
theorem dX12_readMap_131 : decode cX12_readMap 131 = .ok (.getfield 379, 3) := by decide +kernel
theorem dX12_readMap_134 : decode cX12_readMap 134 = .ok (.iastore, 1) := by decide +kernel
theorem dX12_readMap_135 : decode cX12_readMap 135 = .ok (.iconst 0, 1) := by decide +kernel
theorem dX12_readMap_136 : decode cX12_readMap 136 = .ok (.istore_n 3, 1) := by decide +kernel
theorem dX12_readMap_137 : decode cX12_readMap 137 = .ok (.iload_n 3, 1) := by decide +kernel
theorem dX12_readMap_138 : decode cX12_readMap 138 = .ok (.aload_n 0, 1) := by decide +kernel
theorem dX12_readMap_139 : decode cX12_readMap 139 = .ok (.getfield 379, 3) := by decide +kernel
theorem dX12_readMap_142 : decode cX12_readMap 142 = .ok (.if_icmp .ge 43, 3) := by decide +kernel
theorem dX12_readMap_145 : decode cX12_readMap 145 = .ok (.aload_n 0, 1) := by decide +kernel
theorem dX12_readMap_146 : decode cX12_readMap 146 = .ok (.getfield 160, 3) := by decide +kernel
theorem dX12_readMap_149 : decode cX12_readMap 149 = .ok (.bipush 64, 2) := by decide +kernel
theorem dX12_readMap_151 : decode cX12_readMap 151 = .ok (.iload_n 2, 1) := by decide +kernel
theorem dX12_readMap_152 : decode cX12_readMap 152 = .ok (.imul, 1) := by decide +kernel
theorem dX12_readMap_153 : decode cX12_readMap 153 = .ok (.iload_n 3, 1) := by decide +kernel
theorem dX12_readMap_154 : decode cX12_readMap 154 = .ok (.iadd, 1) := by decide +kernel
theorem dX12_readMap_155 : decode cX12_readMap 155 = .ok (.aload_n 0, 1) := by decide +kernel
theorem dX12_readMap_156 : decode cX12_readMap 156 = .ok (.getfield 112, 3) := by decide +kernel
theorem dX12_readMap_159 : decode cX12_readMap 159 = .ok (.iload_n 3, 1) := by decide +kernel
theorem dX12_readMap_160 : decode cX12_readMap 160 = .ok (.iaload, 1) := by decide +kernel
theorem dX12_readMap_161 : decode cX12_readMap 161 = .ok (.iastore, 1) := by decide +kernel
theorem dX12_readMap_162 : decode cX12_readMap 162 = .ok (.aload_n 0, 1) := by decide +kernel
theorem dX12_readMap_163 : decode cX12_readMap 163 = .ok (.getfield 163, 3) := by decide +kernel
theorem dX12_readMap_166 : decode cX12_readMap 166 = .ok (.bipush 64, 2) := by decide +kernel
theorem dX12_readMap_168 : decode cX12_readMap 168 = .ok (.iload_n 2, 1) := by decide +kernel
theorem dX12_readMap_169 : decode cX12_readMap 169 = .ok (.imul, 1) := by decide +kernel
theorem dX12_readMap_170 : decode cX12_readMap 170 = .ok (.iload_n 3, 1) := by decide +kernel
theorem dX12_readMap_171 : decode cX12_readMap 171 = .ok (.iadd, 1) := by decide +kernel
theorem dX12_readMap_172 : decode cX12_readMap 172 = .ok (.aload_n 0, 1) := by decide +kernel
theorem dX12_readMap_173 : decode cX12_readMap 173 = .ok (.getfield 115, 3) := by decide +kernel
theorem dX12_readMap_176 : decode cX12_readMap 176 = .ok (.iload_n 3, 1) := by decide +kernel
theorem dX12_readMap_177 : decode cX12_readMap 177 = .ok (.iaload, 1) := by decide +kernel
theorem dX12_readMap_178 : decode cX12_readMap 178 = .ok (.iastore, 1) := by decide +kernel
theorem dX12_readMap_179 : decode cX12_readMap 179 = .ok (.iinc 3 1, 3) := by decide +kernel
theorem dX12_readMap_182 : decode cX12_readMap 182 = .ok (.goto (-45), 3) := by decide +kernel
theorem dX12_readMap_185 : decode cX12_readMap 185 = .ok (.goto (-183), 3) := by decide +kernel
theorem dX12_readMap_188 : decode cX12_readMap 188 = .ok (.iload_n 1, 1) := by decide +kernel
theorem dX12_readMap_189 : decode cX12_readMap 189 = .ok (.iconst 1, 1) := by decide +kernel
theorem dX12_readMap_190 : decode cX12_readMap 190 = .ok (.aload_n 0, 1) := by decide +kernel
theorem dX12_readMap_191 : decode cX12_readMap 191 = .ok (.getfield 33, 3) := by decide +kernel
theorem dX12_readMap_194 : decode cX12_readMap 194 = .ok (.iconst 1, 1) := by decide +kernel
theorem dX12_readMap_195 : decode cX12_readMap 195 = .ok (.iaload, 1) := by decide +kernel
theorem dX12_readMap_196 : decode cX12_readMap 196 = .ok (.ishl, 1) := by decide +kernel
theorem dX12_readMap_197 : decode cX12_readMap 197 = .ok (.iconst 1, 1) := by decide +kernel
theorem dX12_readMap_198 : decode cX12_readMap 198 = .ok (.isub, 1) := by decide +kernel
theorem dX12_readMap_199 : decode cX12_readMap 199 = .ok (.if_icmp .eq 11, 3) := by decide +kernel
theorem dX12_readMap_202 : decode cX12_readMap 202 = .ok (.aload_n 0, 1) := by decide +kernel
theorem dX12_readMap_203 : decode cX12_readMap 203 = .ok (.iconst 3, 1) := by decide +kernel
theorem dX12_readMap_204 : decode cX12_readMap 204 = .ok (.invokevirtual 268, 3) := by decide +kernel
theorem dX12_readMap_207 : decode cX12_readMap 207 = .ok (.ifCond .eq 7, 3) := by decide +kernel
theorem dX12_readMap_210 : decode cX12_readMap 210 = .ok (.iconst 1, 1) := by decide +kernel
theorem dX12_readMap_211 : decode cX12_readMap 211 = .ok (.goto 4, 3) := by decide +kernel
theorem dX12_readMap_214 : decode cX12_readMap 214 = .ok (.iconst 0, 1) := by decide +kernel
theorem dX12_readMap_215 : decode cX12_readMap 215 = .ok (.ireturn, 1) := by decide +kernel
theorem dX12_isGreatThere_0 : decode cX12_isGreatThere 0 = .ok (.aload_n 0, 1) := by decide +kernel
theorem dX12_isGreatThere_1 : decode cX12_isGreatThere 1 = .ok (.getfield 94, 3) := by decide +kernel
theorem dX12_isGreatThere_4 : decode cX12_isGreatThere 4 = .ok (.bipush 11, 2) := by decide +kernel
theorem dX12_isGreatThere_6 : decode cX12_isGreatThere 6 = .ok (.aload_n 0, 1) := by decide +kernel
theorem dX12_isGreatThere_7 : decode cX12_isGreatThere 7 = .ok (.getfield 33, 3) := by decide +kernel
theorem dX12_isGreatThere_10 : decode cX12_isGreatThere 10 = .ok (.bipush 7, 2) := by decide +kernel
theorem dX12_isGreatThere_12 : decode cX12_isGreatThere 12 = .ok (.iload_n 1, 1) := by decide +kernel
theorem dX12_isGreatThere_13 : decode cX12_isGreatThere 13 = .ok (.iadd, 1) := by decide +kernel
theorem dX12_isGreatThere_14 : decode cX12_isGreatThere 14 = .ok (.iaload, 1) := by decide +kernel
theorem dX12_isGreatThere_15 : decode cX12_isGreatThere 15 = .ok (.iadd, 1) := by decide +kernel
theorem dX12_isGreatThere_16 : decode cX12_isGreatThere 16 = .ok (.laload, 1) := by decide +kernel
theorem dX12_isGreatThere_17 : decode cX12_isGreatThere 17 = .ok (.ldc2_w 307, 3) := by decide +kernel
theorem dX12_isGreatThere_20 : decode cX12_isGreatThere 20 = .ok (.lcmp, 1) := by decide +kernel
theorem dX12_isGreatThere_21 : decode cX12_isGreatThere 21 = .ok (.ifCond .le 5, 3) := by decide +kernel
theorem dX12_isGreatThere_24 : decode cX12_isGreatThere 24 = .ok (.iconst 1, 1) := by decide +kernel
theorem dX12_isGreatThere_25 : decode cX12_isGreatThere 25 = .ok (.ireturn, 1) := by decide +kernel
theorem dX12_isGreatThere_26 : decode cX12_isGreatThere 26 = .ok (.aload_n 0, 1) := by decide +kernel
theorem dX12_isGreatThere_27 : decode cX12_isGreatThere 27 = .ok (.getfield 33, 3) := by decide +kernel
theorem dX12_isGreatThere_30 : decode cX12_isGreatThere 30 = .ok (.bipush 25, 2) := by decide +kernel
theorem dX12_isGreatThere_32 : decode cX12_isGreatThere 32 = .ok (.iload_n 1, 1) := by decide +kernel
theorem dX12_isGreatThere_33 : decode cX12_isGreatThere 33 = .ok (.iadd, 1) := by decide +kernel
theorem dX12_isGreatThere_34 : decode cX12_isGreatThere 34 = .ok (.iaload, 1) := by decide +kernel
theorem dX12_isGreatThere_35 : decode cX12_isGreatThere 35 = .ok (.istore_n 2, 1) := by decide +kernel
theorem dX12_isGreatThere_36 : decode cX12_isGreatThere 36 = .ok (.iload_n 2, 1) := by decide +kernel
theorem dX12_isGreatThere_37 : decode cX12_isGreatThere 37 = .ok (.aload_n 0, 1) := by decide +kernel
theorem dX12_isGreatThere_38 : decode cX12_isGreatThere 38 = .ok (.getfield 33, 3) := by decide +kernel
theorem dX12_isGreatThere_41 : decode cX12_isGreatThere 41 = .ok (.bipush 25, 2) := by decide +kernel
theorem dX12_isGreatThere_43 : decode cX12_isGreatThere 43 = .ok (.iload_n 1, 1) := by decide +kernel
theorem dX12_isGreatThere_44 : decode cX12_isGreatThere 44 = .ok (.iadd, 1) := by decide +kernel
theorem dX12_isGreatThere_45 : decode cX12_isGreatThere 45 = .ok (.iconst 1, 1) := by decide +kernel
theorem dX12_isGreatThere_46 : decode cX12_isGreatThere 46 = .ok (.iadd, 1) := by decide +kernel
theorem dX12_isGreatThere_47 : decode cX12_isGreatThere 47 = .ok (.iaload, 1) := by decide +kernel
theorem dX12_isGreatThere_48 : decode cX12_isGreatThere 48 = .ok (.if_icmp .ge 103, 3) := by decide +kernel
theorem dX12_isGreatThere_51 : decode cX12_isGreatThere 51 = .ok (.aload_n 0, 1) := by decide +kernel
theorem dX12_isGreatThere_52 : decode cX12_isGreatThere 52 = .ok (.aload_n 0, 1) := by decide +kernel
theorem dX12_isGreatThere_53 : decode cX12_isGreatThere 53 = .ok (.getfield 33, 3) := by decide +kernel
theorem dX12_isGreatThere_56 : decode cX12_isGreatThere 56 = .ok (.bipush 44, 2) := by decide +kernel
theorem dX12_isGreatThere_58 : decode cX12_isGreatThere 58 = .ok (.iload_n 2, 1) := by decide +kernel
theorem dX12_isGreatThere_59 : decode cX12_isGreatThere 59 = .ok (.iadd, 1) := by decide +kernel
theorem dX12_isGreatThere_60 : decode cX12_isGreatThere 60 = .ok (.iaload, 1) := by decide +kernel
theorem dX12_isGreatThere_61 : decode cX12_isGreatThere 61 = .ok (.invokevirtual 277, 3) := by decide +kernel
theorem dX12_isGreatThere_64 : decode cX12_isGreatThere 64 = .ok (.iconst 0, 1) := by decide +kernel
theorem dX12_isGreatThere_65 : decode cX12_isGreatThere 65 = .ok (.istore_n 3, 1) := by decide +kernel
theorem dX12_isGreatThere_66 : decode cX12_isGreatThere 66 = .ok (.iload_n 3, 1) := by decide +kernel
theorem dX12_isGreatThere_67 : decode cX12_isGreatThere 67 = .ok (.aload_n 0, 1) := by decide +kernel
theorem dX12_isGreatThere_68 : decode cX12_isGreatThere 68 = .ok (.getfield 274, 3) := by decide +kernel
theorem dX12_isGreatThere_71 : decode cX12_isGreatThere 71 = .ok (.if_icmp .ge 74, 3) := by decide +kernel
theorem dX12_isGreatThere_74 : decode cX12_isGreatThere 74 = .ok (.iconst 0, 1) := by decide +kernel
theorem dX12_isGreatThere_75 : decode cX12_isGreatThere 75 = .ok (.istore 4, 2) := by decide +kernel
theorem dX12_isGreatThere_77 : decode cX12_isGreatThere 77 = .ok (.aload_n 0, 1) := by decide +kernel
theorem dX12_isGreatThere_78 : decode cX12_isGreatThere 78 = .ok (.iload_n 3, 1) := by decide +kernel
theorem dX12_isGreatThere_79 : decode cX12_isGreatThere 79 = .ok (.invokevirtual 504, 3) := by decide +kernel
theorem dX12_isGreatThere_82 : decode cX12_isGreatThere 82 = .ok (.istore 5, 2) := by decide +kernel
theorem dX12_isGreatThere_84 : decode cX12_isGreatThere 84 = .ok (.iload_n 3, 1) := by decide +kernel
theorem dX12_isGreatThere_85 : decode cX12_isGreatThere 85 = .ok (.istore 6, 2) := by decide +kernel
theorem dX12_isGreatThere_87 : decode cX12_isGreatThere 87 = .ok (.iload 6, 2) := by decide +kernel
theorem dX12_isGreatThere_89 : decode cX12_isGreatThere 89 = .ok (.iload 5, 2) := by decide +kernel
theorem dX12_isGreatThere_91 : decode cX12_isGreatThere 91 = .ok (.if_icmp .ge 29, 3) := by decide +kernel
theorem dX12_isGreatThere_94 : decode cX12_isGreatThere 94 = .ok (.iload 4, 2) := by decide +kernel
theorem dX12_isGreatThere_96 : decode cX12_isGreatThere 96 = .ok (.aload_n 0, 1) := by decide +kernel
theorem dX12_isGreatThere_97 : decode cX12_isGreatThere 97 = .ok (.getfield 44, 3) := by decide +kernel
theorem dX12_isGreatThere_100 : decode cX12_isGreatThere 100 = .ok (.iload 6, 2) := by decide +kernel
theorem dX12_isGreatThere_102 : decode cX12_isGreatThere 102 = .ok (.iaload, 1) := by decide +kernel
theorem dX12_isGreatThere_103 : decode cX12_isGreatThere 103 = .ok (.ifCond .ne 7, 3) := by decide +kernel
theorem dX12_isGreatThere_106 : decode cX12_isGreatThere 106 = .ok (.iconst 1, 1) := by decide +kernel
theorem dX12_isGreatThere_107 : decode cX12_isGreatThere 107 = .ok (.goto 4, 3) := by decide +kernel
theorem dX12_isGreatThere_110 : decode cX12_isGreatThere 110 = .ok (.iconst 0, 1) := by decide +kernel
theorem dX12_isGreatThere_111 : decode cX12_isGreatThere 111 = .ok (.iadd, 1) := by decide +kernel
theorem dX12_isGreatThere_112 : decode cX12_isGreatThere 112 = .ok (.istore 4, 2) := by decide +kernel
theorem dX12_isGreatThere_114 : decode cX12_isGreatThere 114 = .ok (.iinc 6 1, 3) := by decide +kernel
theorem dX12_isGreatThere_117 : decode cX12_isGreatThere 117 = .ok (.goto (-30), 3) := by decide +kernel
theorem dX12_isGreatThere_120 : decode cX12_isGreatThere 120 = .ok (.aload_n 0, 1) := by decide +kernel
theorem dX12_isGreatThere_121 : decode cX12_isGreatThere 121 = .ok (.getfield 94, 3) := by decide +kernel
theorem dX12_isGreatThere_124 : decode cX12_isGreatThere 124 = .ok (.bipush 11, 2) := by decide +kernel
theorem dX12_isGreatThere_126 : decode cX12_isGreatThere 126 = .ok (.iload 4, 2) := by decide +kernel
theorem dX12_isGreatThere_128 : decode cX12_isGreatThere 128 = .ok (.iadd, 1) := by decide +kernel
theorem dX12_isGreatThere_129 : decode cX12_isGreatThere 129 = .ok (.laload, 1) := by decide +kernel
theorem dX12_isGreatThere_130 : decode cX12_isGreatThere 130 = .ok (.ldc2_w 307, 3) := by decide +kernel
theorem dX12_isGreatThere_133 : decode cX12_isGreatThere 133 = .ok (.lcmp, 1) := by decide +kernel
theorem dX12_isGreatThere_134 : decode cX12_isGreatThere 134 = .ok (.ifCond .le 5, 3) := by decide +kernel
theorem dX12_isGreatThere_137 : decode cX12_isGreatThere 137 = .ok (.iconst 1, 1) := by decide +kernel
theorem dX12_isGreatThere_138 : decode cX12_isGreatThere 138 = .ok (.ireturn, 1) := by decide +kernel
theorem dX12_isGreatThere_139 : decode cX12_isGreatThere 139 = .ok (.iinc 3 1, 3) := by decide +kernel
theorem dX12_isGreatThere_142 : decode cX12_isGreatThere 142 = .ok (.goto (-76), 3) := by decide +kernel
theorem dX12_isGreatThere_145 : decode cX12_isGreatThere 145 = .ok (.iinc 2 1, 3) := by decide +kernel
theorem dX12_isGreatThere_148 : decode cX12_isGreatThere 148 = .ok (.goto (-112), 3) := by decide +kernel
theorem dX12_isGreatThere_151 : decode cX12_isGreatThere 151 = .ok (.iconst 0, 1) := by decide +kernel
theorem dX12_isGreatThere_152 : decode cX12_isGreatThere 152 = .ok (.ireturn, 1) := by decide +kernel
theorem dX12_graft_0 : decode cX12_graft 0 = .ok (.aload_n 0, 1) := by decide +kernel
theorem dX12_graft_1 : decode cX12_graft 1 = .ok (.getfield 56, 3) := by decide +kernel
theorem dX12_graft_4 : decode cX12_graft 4 = .ok (.sipush 1177, 3) := by decide +kernel
theorem dX12_graft_7 : decode cX12_graft 7 = .ok (.iload_n 1, 1) := by decide +kernel
theorem dX12_graft_8 : decode cX12_graft 8 = .ok (.iadd, 1) := by decide +kernel
theorem dX12_graft_9 : decode cX12_graft 9 = .ok (.iaload, 1) := by decide +kernel
theorem dX12_graft_10 : decode cX12_graft 10 = .ok (.istore_n 2, 1) := by decide +kernel
theorem dX12_graft_11 : decode cX12_graft 11 = .ok (.iconst 0, 1) := by decide +kernel
theorem dX12_graft_12 : decode cX12_graft 12 = .ok (.istore_n 3, 1) := by decide +kernel
theorem dX12_graft_13 : decode cX12_graft 13 = .ok (.iconst 0, 1) := by decide +kernel
theorem dX12_graft_14 : decode cX12_graft 14 = .ok (.istore 4, 2) := by decide +kernel
theorem dX12_graft_16 : decode cX12_graft 16 = .ok (.iload 4, 2) := by decide +kernel
theorem dX12_graft_18 : decode cX12_graft 18 = .ok (.iload_n 2, 1) := by decide +kernel
theorem dX12_graft_19 : decode cX12_graft 19 = .ok (.if_icmp .ge 26, 3) := by decide +kernel
theorem dX12_graft_22 : decode cX12_graft 22 = .ok (.iload_n 3, 1) := by decide +kernel
theorem dX12_graft_23 : decode cX12_graft 23 = .ok (.aload_n 0, 1) := by decide +kernel
theorem dX12_graft_24 : decode cX12_graft 24 = .ok (.getfield 178, 3) := by decide +kernel
theorem dX12_graft_27 : decode cX12_graft 27 = .ok (.aload_n 0, 1) := by decide +kernel
theorem dX12_graft_28 : decode cX12_graft 28 = .ok (.getfield 546, 3) := by decide +kernel
theorem dX12_graft_31 : decode cX12_graft 31 = .ok (.iconst 1, 1) := by decide +kernel
theorem dX12_graft_32 : decode cX12_graft 32 = .ok (.isub, 1) := by decide +kernel
theorem dX12_graft_33 : decode cX12_graft 33 = .ok (.iload 4, 2) := by decide +kernel
theorem dX12_graft_35 : decode cX12_graft 35 = .ok (.isub, 1) := by decide +kernel
theorem dX12_graft_36 : decode cX12_graft 36 = .ok (.iaload, 1) := by decide +kernel
theorem dX12_graft_37 : decode cX12_graft 37 = .ok (.iadd, 1) := by decide +kernel
theorem dX12_graft_38 : decode cX12_graft 38 = .ok (.istore_n 3, 1) := by decide +kernel
theorem dX12_graft_39 : decode cX12_graft 39 = .ok (.iinc 4 1, 3) := by decide +kernel
theorem dX12_graft_42 : decode cX12_graft 42 = .ok (.goto (-26), 3) := by decide +kernel
theorem dX12_graft_45 : decode cX12_graft 45 = .ok (.iconst 0, 1) := by decide +kernel
theorem dX12_graft_46 : decode cX12_graft 46 = .ok (.istore 4, 2) := by decide +kernel
theorem dX12_graft_48 : decode cX12_graft 48 = .ok (.iload 4, 2) := by decide +kernel
theorem dX12_graft_50 : decode cX12_graft 50 = .ok (.aload_n 0, 1) := by decide +kernel
theorem dX12_graft_51 : decode cX12_graft 51 = .ok (.getfield 62, 3) := by decide +kernel
theorem dX12_graft_54 : decode cX12_graft 54 = .ok (.bipush 8, 2) := by decide +kernel
theorem dX12_graft_56 : decode cX12_graft 56 = .ok (.iload_n 3, 1) := by decide +kernel
theorem dX12_graft_57 : decode cX12_graft 57 = .ok (.iadd, 1) := by decide +kernel
theorem dX12_graft_58 : decode cX12_graft 58 = .ok (.iaload, 1) := by decide +kernel
theorem dX12_graft_59 : decode cX12_graft 59 = .ok (.if_icmp .ge 17, 3) := by decide +kernel
theorem dX12_graft_62 : decode cX12_graft 62 = .ok (.aload_n 0, 1) := by decide +kernel
theorem dX12_graft_63 : decode cX12_graft 63 = .ok (.getfield 181, 3) := by decide +kernel
theorem dX12_graft_66 : decode cX12_graft 66 = .ok (.iload 4, 2) := by decide +kernel
theorem dX12_graft_68 : decode cX12_graft 68 = .ok (.iconst 0, 1) := by decide +kernel
theorem dX12_graft_69 : decode cX12_graft 69 = .ok (.iastore, 1) := by decide +kernel
theorem dX12_graft_70 : decode cX12_graft 70 = .ok (.iinc 4 1, 3) := by decide +kernel
theorem dX12_graft_73 : decode cX12_graft 73 = .ok (.goto (-25), 3) := by decide +kernel
theorem dX12_graft_76 : decode cX12_graft 76 = .ok (.aload_n 0, 1) := by decide +kernel
theorem dX12_graft_77 : decode cX12_graft 77 = .ok (.getfield 56, 3) := by decide +kernel
theorem dX12_graft_80 : decode cX12_graft 80 = .ok (.sipush 1173, 3) := by decide +kernel
theorem dX12_graft_83 : decode cX12_graft 83 = .ok (.iaload, 1) := by decide +kernel
theorem dX12_graft_84 : decode cX12_graft 84 = .ok (.istore 4, 2) := by decide +kernel
theorem dX12_graft_86 : decode cX12_graft 86 = .ok (.iconst 0, 1) := by decide +kernel
theorem dX12_graft_87 : decode cX12_graft 87 = .ok (.istore 5, 2) := by decide +kernel
theorem dX12_graft_89 : decode cX12_graft 89 = .ok (.iload 5, 2) := by decide +kernel
theorem dX12_graft_91 : decode cX12_graft 91 = .ok (.iconst 4, 1) := by decide +kernel
theorem dX12_graft_92 : decode cX12_graft 92 = .ok (.if_icmp .ge 17, 3) := by decide +kernel
theorem dX12_graft_95 : decode cX12_graft 95 = .ok (.aload_n 0, 1) := by decide +kernel
theorem dX12_graft_96 : decode cX12_graft 96 = .ok (.getfield 187, 3) := by decide +kernel
theorem dX12_graft_99 : decode cX12_graft 99 = .ok (.iload 5, 2) := by decide +kernel
theorem dX12_graft_101 : decode cX12_graft 101 = .ok (.iconst 0, 1) := by decide +kernel
theorem dX12_graft_102 : decode cX12_graft 102 = .ok (.iastore, 1) := by decide +kernel
theorem dX12_graft_103 : decode cX12_graft 103 = .ok (.iinc 5 1, 3) := by decide +kernel
theorem dX12_graft_106 : decode cX12_graft 106 = .ok (.goto (-17), 3) := by decide +kernel
theorem dX12_graft_109 : decode cX12_graft 109 = .ok (.iconst 1, 1) := by decide +kernel
theorem dX12_graft_110 : decode cX12_graft 110 = .ok (.istore 5, 2) := by decide +kernel
theorem dX12_graft_112 : decode cX12_graft 112 = .ok (.iconst 0, 1) := by decide +kernel
theorem dX12_graft_113 : decode cX12_graft 113 = .ok (.istore 6, 2) := by decide +kernel
theorem dX12_graft_115 : decode cX12_graft 115 = .ok (.iload 6, 2) := by decide +kernel
theorem dX12_graft_117 : decode cX12_graft 117 = .ok (.iload_n 2, 1) := by decide +kernel
theorem dX12_graft_118 : decode cX12_graft 118 = .ok (.if_icmp .ge 46, 3) := by decide +kernel
theorem dX12_graft_121 : decode cX12_graft 121 = .ok (.iload 5, 2) := by decide +kernel
theorem dX12_graft_123 : decode cX12_graft 123 = .ok (.ifCond .eq 32, 3) := by decide +kernel
theorem dX12_graft_126 : decode cX12_graft 126 = .ok (.aload_n 0, 1) := by decide +kernel
theorem dX12_graft_127 : decode cX12_graft 127 = .ok (.getfield 62, 3) := by decide +kernel
theorem dX12_graft_130 : decode cX12_graft 130 = .ok (.bipush 8, 2) := by decide +kernel
theorem dX12_graft_132 : decode cX12_graft 132 = .ok (.aload_n 0, 1) := by decide +kernel
theorem dX12_graft_133 : decode cX12_graft 133 = .ok (.getfield 178, 3) := by decide +kernel
theorem dX12_graft_136 : decode cX12_graft 136 = .ok (.aload_n 0, 1) := by decide +kernel
theorem dX12_graft_137 : decode cX12_graft 137 = .ok (.getfield 546, 3) := by decide +kernel
theorem dX12_graft_140 : decode cX12_graft 140 = .ok (.iconst 1, 1) := by decide +kernel
theorem dX12_graft_141 : decode cX12_graft 141 = .ok (.isub, 1) := by decide +kernel
theorem dX12_graft_142 : decode cX12_graft 142 = .ok (.iload 6, 2) := by decide +kernel
theorem dX12_graft_144 : decode cX12_graft 144 = .ok (.isub, 1) := by decide +kernel
theorem dX12_graft_145 : decode cX12_graft 145 = .ok (.iaload, 1) := by decide +kernel
theorem dX12_graft_146 : decode cX12_graft 146 = .ok (.iadd, 1) := by decide +kernel
theorem dX12_graft_147 : decode cX12_graft 147 = .ok (.iaload, 1) := by decide +kernel
theorem dX12_graft_148 : decode cX12_graft 148 = .ok (.ifCond .le 7, 3) := by decide +kernel
theorem dX12_graft_151 : decode cX12_graft 151 = .ok (.iconst 1, 1) := by decide +kernel
theorem dX12_graft_152 : decode cX12_graft 152 = .ok (.goto 4, 3) := by decide +kernel
theorem dX12_graft_155 : decode cX12_graft 155 = .ok (.iconst 0, 1) := by decide +kernel
theorem dX12_graft_156 : decode cX12_graft 156 = .ok (.istore 5, 2) := by decide +kernel
theorem dX12_graft_158 : decode cX12_graft 158 = .ok (.iinc 6 1, 3) := by decide +kernel
theorem dX12_graft_161 : decode cX12_graft 161 = .ok (.goto (-46), 3) := by decide +kernel
theorem dX12_graft_164 : decode cX12_graft 164 = .ok (.iload 5, 2) := by decide +kernel
theorem dX12_graft_166 : decode cX12_graft 166 = .ok (.ifCond .eq 226, 3) := by decide +kernel
theorem dX12_graft_169 : decode cX12_graft 169 = .ok (.iconst 1, 1) := by decide +kernel
theorem dX12_graft_170 : decode cX12_graft 170 = .ok (.istore 6, 2) := by decide +kernel
theorem dX12_graft_172 : decode cX12_graft 172 = .ok (.iconst 4, 1) := by decide +kernel
theorem dX12_graft_173 : decode cX12_graft 173 = .ok (.iload_n 1, 1) := by decide +kernel
theorem dX12_graft_174 : decode cX12_graft 174 = .ok (.iconst 1, 1) := by decide +kernel
theorem dX12_graft_175 : decode cX12_graft 175 = .ok (.iadd, 1) := by decide +kernel
theorem dX12_graft_176 : decode cX12_graft 176 = .ok (.ior, 1) := by decide +kernel
theorem dX12_graft_177 : decode cX12_graft 177 = .ok (.istore 7, 2) := by decide +kernel
theorem dX12_graft_179 : decode cX12_graft 179 = .ok (.iconst 0, 1) := by decide +kernel
theorem dX12_graft_180 : decode cX12_graft 180 = .ok (.istore 8, 2) := by decide +kernel
theorem dX12_graft_182 : decode cX12_graft 182 = .ok (.iload 8, 2) := by decide +kernel
theorem dX12_graft_184 : decode cX12_graft 184 = .ok (.iload_n 2, 1) := by decide +kernel
theorem dX12_graft_185 : decode cX12_graft 185 = .ok (.if_icmp .ge 87, 3) := by decide +kernel
theorem dX12_graft_188 : decode cX12_graft 188 = .ok (.iload 6, 2) := by decide +kernel
theorem dX12_graft_190 : decode cX12_graft 190 = .ok (.ifCond .le 82, 3) := by decide +kernel
theorem dX12_graft_193 : decode cX12_graft 193 = .ok (.aload_n 0, 1) := by decide +kernel
theorem dX12_graft_194 : decode cX12_graft 194 = .ok (.getfield 546, 3) := by decide +kernel
theorem dX12_graft_197 : decode cX12_graft 197 = .ok (.iconst 1, 1) := by decide +kernel
theorem dX12_graft_198 : decode cX12_graft 198 = .ok (.isub, 1) := by decide +kernel
theorem dX12_graft_199 : decode cX12_graft 199 = .ok (.iload 8, 2) := by decide +kernel
theorem dX12_graft_201 : decode cX12_graft 201 = .ok (.isub, 1) := by decide +kernel
theorem dX12_graft_202 : decode cX12_graft 202 = .ok (.istore 9, 2) := by decide +kernel
theorem dX12_graft_204 : decode cX12_graft 204 = .ok (.iload 6, 2) := by decide +kernel
theorem dX12_graft_206 : decode cX12_graft 206 = .ok (.aload_n 0, 1) := by decide +kernel
theorem dX12_graft_207 : decode cX12_graft 207 = .ok (.getfield 175, 3) := by decide +kernel
theorem dX12_graft_210 : decode cX12_graft 210 = .ok (.sipush 300, 3) := by decide +kernel
theorem dX12_graft_213 : decode cX12_graft 213 = .ok (.iload 9, 2) := by decide +kernel
theorem dX12_graft_215 : decode cX12_graft 215 = .ok (.imul, 1) := by decide +kernel
theorem dX12_graft_216 : decode cX12_graft 216 = .ok (.aload_n 0, 1) := by decide +kernel
theorem dX12_graft_217 : decode cX12_graft 217 = .ok (.getfield 187, 3) := by decide +kernel
theorem dX12_graft_220 : decode cX12_graft 220 = .ok (.iload 8, 2) := by decide +kernel
theorem dX12_graft_222 : decode cX12_graft 222 = .ok (.iaload, 1) := by decide +kernel
theorem dX12_graft_223 : decode cX12_graft 223 = .ok (.iadd, 1) := by decide +kernel
theorem dX12_graft_224 : decode cX12_graft 224 = .ok (.iaload, 1) := by decide +kernel
theorem dX12_graft_225 : decode cX12_graft 225 = .ok (.imul, 1) := by decide +kernel
theorem dX12_graft_226 : decode cX12_graft 226 = .ok (.iload 4, 2) := by decide +kernel
theorem dX12_graft_228 : decode cX12_graft 228 = .ok (.irem, 1) := by decide +kernel
theorem dX12_graft_229 : decode cX12_graft 229 = .ok (.istore 6, 2) := by decide +kernel
theorem dX12_graft_231 : decode cX12_graft 231 = .ok (.iload 7, 2) := by decide +kernel
theorem dX12_graft_233 : decode cX12_graft 233 = .ok (.aload_n 0, 1) := by decide +kernel
theorem dX12_graft_234 : decode cX12_graft 234 = .ok (.getfield 74, 3) := by decide +kernel
theorem dX12_graft_237 : decode cX12_graft 237 = .ok (.aload_n 0, 1) := by decide +kernel
theorem dX12_graft_238 : decode cX12_graft 238 = .ok (.getfield 65, 3) := by decide +kernel
theorem dX12_graft_241 : decode cX12_graft 241 = .ok (.bipush 8, 2) := by decide +kernel
theorem dX12_graft_243 : decode cX12_graft 243 = .ok (.aload_n 0, 1) := by decide +kernel
theorem dX12_graft_244 : decode cX12_graft 244 = .ok (.getfield 178, 3) := by decide +kernel
theorem dX12_graft_247 : decode cX12_graft 247 = .ok (.iload 9, 2) := by decide +kernel
theorem dX12_graft_249 : decode cX12_graft 249 = .ok (.iaload, 1) := by decide +kernel
theorem dX12_graft_250 : decode cX12_graft 250 = .ok (.iadd, 1) := by decide +kernel
theorem dX12_graft_251 : decode cX12_graft 251 = .ok (.iaload, 1) := by decide +kernel
theorem dX12_graft_252 : decode cX12_graft 252 = .ok (.aload_n 0, 1) := by decide +kernel
theorem dX12_graft_253 : decode cX12_graft 253 = .ok (.getfield 187, 3) := by decide +kernel
theorem dX12_graft_256 : decode cX12_graft 256 = .ok (.iload 8, 2) := by decide +kernel
theorem dX12_graft_258 : decode cX12_graft 258 = .ok (.iaload, 1) := by decide +kernel
theorem dX12_graft_259 : decode cX12_graft 259 = .ok (.iadd, 1) := by decide +kernel
theorem dX12_graft_260 : decode cX12_graft 260 = .ok (.iaload, 1) := by decide +kernel
theorem dX12_graft_261 : decode cX12_graft 261 = .ok (.invokestatic 317, 3) := by decide +kernel
theorem dX12_graft_264 : decode cX12_graft 264 = .ok (.istore 7, 2) := by decide +kernel
theorem dX12_graft_266 : decode cX12_graft 266 = .ok (.iinc 8 1, 3) := by decide +kernel
theorem dX12_graft_269 : decode cX12_graft 269 = .ok (.goto (-87), 3) := by decide +kernel
theorem dX12_graft_272 : decode cX12_graft 272 = .ok (.iload 6, 2) := by decide +kernel
theorem dX12_graft_274 : decode cX12_graft 274 = .ok (.ifCond .le 33, 3) := by decide +kernel
theorem dX12_graft_277 : decode cX12_graft 277 = .ok (.aload_n 0, 1) := by decide +kernel
theorem dX12_graft_278 : decode cX12_graft 278 = .ok (.iconst 1, 1) := by decide +kernel
theorem dX12_graft_279 : decode cX12_graft 279 = .ok (.iload_n 3, 1) := by decide +kernel
theorem dX12_graft_280 : decode cX12_graft 280 = .ok (.iload 7, 2) := by decide +kernel
theorem dX12_graft_282 : decode cX12_graft 282 = .ok (.invokevirtual 364, 3) := by decide +kernel
theorem dX12_graft_285 : decode cX12_graft 285 = .ok (.istore 8, 2) := by decide +kernel
theorem dX12_graft_287 : decode cX12_graft 287 = .ok (.aload_n 0, 1) := by decide +kernel
theorem dX12_graft_288 : decode cX12_graft 288 = .ok (.getfield 181, 3) := by decide +kernel
theorem dX12_graft_291 : decode cX12_graft 291 = .ok (.iload 8, 2) := by decide +kernel
theorem dX12_graft_293 : decode cX12_graft 293 = .ok (.aload_n 0, 1) := by decide +kernel
theorem dX12_graft_294 : decode cX12_graft 294 = .ok (.getfield 181, 3) := by decide +kernel
theorem dX12_graft_297 : decode cX12_graft 297 = .ok (.iload 8, 2) := by decide +kernel
theorem dX12_graft_299 : decode cX12_graft 299 = .ok (.iaload, 1) := by decide +kernel
theorem dX12_graft_300 : decode cX12_graft 300 = .ok (.iload 6, 2) := by decide +kernel
theorem dX12_graft_302 : decode cX12_graft 302 = .ok (.iadd, 1) := by decide +kernel
theorem dX12_graft_303 : decode cX12_graft 303 = .ok (.iload 4, 2) := by decide +kernel
theorem dX12_graft_305 : decode cX12_graft 305 = .ok (.irem, 1) := by decide +kernel
theorem dX12_graft_306 : decode cX12_graft 306 = .ok (.iastore, 1) := by decide +kernel
theorem dX12_graft_307 : decode cX12_graft 307 = .ok (.iload_n 2, 1) := by decide +kernel
theorem dX12_graft_308 : decode cX12_graft 308 = .ok (.iconst 1, 1) := by decide +kernel
theorem dX12_graft_309 : decode cX12_graft 309 = .ok (.isub, 1) := by decide +kernel
theorem dX12_graft_310 : decode cX12_graft 310 = .ok (.istore 8, 2) := by decide +kernel
theorem dX12_graft_312 : decode cX12_graft 312 = .ok (.iload 8, 2) := by decide +kernel
theorem dX12_graft_314 : decode cX12_graft 314 = .ok (.ifCond .lt 63, 3) := by decide +kernel
theorem dX12_graft_317 : decode cX12_graft 317 = .ok (.aload_n 0, 1) := by decide +kernel
theorem dX12_graft_318 : decode cX12_graft 318 = .ok (.getfield 187, 3) := by decide +kernel
theorem dX12_graft_321 : decode cX12_graft 321 = .ok (.iload 8, 2) := by decide +kernel
theorem dX12_graft_323 : decode cX12_graft 323 = .ok (.dup2, 1) := by decide +kernel
theorem dX12_graft_324 : decode cX12_graft 324 = .ok (.iaload, 1) := by decide +kernel
theorem dX12_graft_325 : decode cX12_graft 325 = .ok (.iconst 1, 1) := by decide +kernel
theorem dX12_graft_326 : decode cX12_graft 326 = .ok (.iadd, 1) := by decide +kernel
theorem dX12_graft_327 : decode cX12_graft 327 = .ok (.iastore, 1) := by decide +kernel
theorem dX12_graft_328 : decode cX12_graft 328 = .ok (.aload_n 0, 1) := by decide +kernel
theorem dX12_graft_329 : decode cX12_graft 329 = .ok (.getfield 187, 3) := by decide +kernel
theorem dX12_graft_332 : decode cX12_graft 332 = .ok (.iload 8, 2) := by decide +kernel
theorem dX12_graft_334 : decode cX12_graft 334 = .ok (.iaload, 1) := by decide +kernel
theorem dX12_graft_335 : decode cX12_graft 335 = .ok (.aload_n 0, 1) := by decide +kernel
theorem dX12_graft_336 : decode cX12_graft 336 = .ok (.getfield 62, 3) := by decide +kernel
theorem dX12_graft_339 : decode cX12_graft 339 = .ok (.bipush 8, 2) := by decide +kernel
theorem dX12_graft_341 : decode cX12_graft 341 = .ok (.aload_n 0, 1) := by decide +kernel
theorem dX12_graft_342 : decode cX12_graft 342 = .ok (.getfield 178, 3) := by decide +kernel
theorem dX12_graft_345 : decode cX12_graft 345 = .ok (.aload_n 0, 1) := by decide +kernel
theorem dX12_graft_346 : decode cX12_graft 346 = .ok (.getfield 546, 3) := by decide +kernel
theorem dX12_graft_349 : decode cX12_graft 349 = .ok (.iconst 1, 1) := by decide +kernel
theorem dX12_graft_350 : decode cX12_graft 350 = .ok (.isub, 1) := by decide +kernel
theorem dX12_graft_351 : decode cX12_graft 351 = .ok (.iload 8, 2) := by decide +kernel
theorem dX12_graft_353 : decode cX12_graft 353 = .ok (.isub, 1) := by decide +kernel
theorem dX12_graft_354 : decode cX12_graft 354 = .ok (.iaload, 1) := by decide +kernel
theorem dX12_graft_355 : decode cX12_graft 355 = .ok (.iadd, 1) := by decide +kernel
theorem dX12_graft_356 : decode cX12_graft 356 = .ok (.iaload, 1) := by decide +kernel
theorem dX12_graft_357 : decode cX12_graft 357 = .ok (.if_icmp .ge 6, 3) := by decide +kernel
theorem dX12_graft_360 : decode cX12_graft 360 = .ok (.goto 17, 3) := by decide +kernel
theorem dX12_graft_363 : decode cX12_graft 363 = .ok (.aload_n 0, 1) := by decide +kernel
theorem dX12_graft_364 : decode cX12_graft 364 = .ok (.getfield 187, 3) := by decide +kernel
theorem dX12_graft_367 : decode cX12_graft 367 = .ok (.iload 8, 2) := by decide +kernel
theorem dX12_graft_369 : decode cX12_graft 369 = .ok (.iconst 0, 1) := by decide +kernel
theorem dX12_graft_370 : decode cX12_graft 370 = .ok (.iastore, 1) := by decide +kernel
theorem dX12_graft_371 : decode cX12_graft 371 = .ok (.iinc 8 (-1), 3) := by decide +kernel
theorem dX12_graft_374 : decode cX12_graft 374 = .ok (.goto (-62), 3) := by decide +kernel
theorem dX12_graft_377 : decode cX12_graft 377 = .ok (.iload 8, 2) := by decide +kernel
theorem dX12_graft_379 : decode cX12_graft 379 = .ok (.ifCond .lt 7, 3) := by decide +kernel
theorem dX12_graft_382 : decode cX12_graft 382 = .ok (.iconst 1, 1) := by decide +kernel
theorem dX12_graft_383 : decode cX12_graft 383 = .ok (.goto 4, 3) := by decide +kernel
theorem dX12_graft_386 : decode cX12_graft 386 = .ok (.iconst 0, 1) := by decide +kernel
theorem dX12_graft_387 : decode cX12_graft 387 = .ok (.istore 5, 2) := by decide +kernel
theorem dX12_graft_389 : decode cX12_graft 389 = .ok (.goto (-225), 3) := by decide +kernel
theorem dX12_graft_392 : decode cX12_graft 392 = .ok (.aload_n 0, 1) := by decide +kernel
theorem dX12_graft_393 : decode cX12_graft 393 = .ok (.dup, 1) := by decide +kernel
theorem dX12_graft_394 : decode cX12_graft 394 = .ok (.getfield 546, 3) := by decide +kernel
theorem dX12_graft_397 : decode cX12_graft 397 = .ok (.iload_n 2, 1) := by decide +kernel
theorem dX12_graft_398 : decode cX12_graft 398 = .ok (.isub, 1) := by decide +kernel
theorem dX12_graft_399 : decode cX12_graft 399 = .ok (.putfield 546, 3) := by decide +kernel
theorem dX12_graft_402 : decode cX12_graft 402 = .ok (.iconst 0, 1) := by decide +kernel
theorem dX12_graft_403 : decode cX12_graft 403 = .ok (.istore 6, 2) := by decide +kernel
theorem dX12_graft_405 : decode cX12_graft 405 = .ok (.iload 6, 2) := by decide +kernel
theorem dX12_graft_407 : decode cX12_graft 407 = .ok (.aload_n 0, 1) := by decide +kernel
theorem dX12_graft_408 : decode cX12_graft 408 = .ok (.getfield 62, 3) := by decide +kernel
theorem dX12_graft_411 : decode cX12_graft 411 = .ok (.bipush 8, 2) := by decide +kernel
theorem dX12_graft_413 : decode cX12_graft 413 = .ok (.iload_n 3, 1) := by decide +kernel
theorem dX12_graft_414 : decode cX12_graft 414 = .ok (.iadd, 1) := by decide +kernel
theorem dX12_graft_415 : decode cX12_graft 415 = .ok (.iaload, 1) := by decide +kernel
theorem dX12_graft_416 : decode cX12_graft 416 = .ok (.if_icmp .ge 32, 3) := by decide +kernel
theorem dX12_graft_419 : decode cX12_graft 419 = .ok (.aload_n 0, 1) := by decide +kernel
theorem dX12_graft_420 : decode cX12_graft 420 = .ok (.getfield 175, 3) := by decide +kernel
theorem dX12_graft_423 : decode cX12_graft 423 = .ok (.sipush 300, 3) := by decide +kernel
theorem dX12_graft_426 : decode cX12_graft 426 = .ok (.aload_n 0, 1) := by decide +kernel
theorem dX12_graft_427 : decode cX12_graft 427 = .ok (.getfield 546, 3) := by decide +kernel
theorem dX12_graft_430 : decode cX12_graft 430 = .ok (.imul, 1) := by decide +kernel
theorem dX12_graft_431 : decode cX12_graft 431 = .ok (.iload 6, 2) := by decide +kernel
theorem dX12_graft_433 : decode cX12_graft 433 = .ok (.iadd, 1) := by decide +kernel
theorem dX12_graft_434 : decode cX12_graft 434 = .ok (.aload_n 0, 1) := by decide +kernel
theorem dX12_graft_435 : decode cX12_graft 435 = .ok (.getfield 181, 3) := by decide +kernel
theorem dX12_graft_438 : decode cX12_graft 438 = .ok (.iload 6, 2) := by decide +kernel
theorem dX12_graft_440 : decode cX12_graft 440 = .ok (.iaload, 1) := by decide +kernel
theorem dX12_graft_441 : decode cX12_graft 441 = .ok (.iastore, 1) := by decide +kernel
theorem dX12_graft_442 : decode cX12_graft 442 = .ok (.iinc 6 1, 3) := by decide +kernel
theorem dX12_graft_445 : decode cX12_graft 445 = .ok (.goto (-40), 3) := by decide +kernel
theorem dX12_graft_448 : decode cX12_graft 448 = .ok (.aload_n 0, 1) := by decide +kernel
theorem dX12_graft_449 : decode cX12_graft 449 = .ok (.getfield 178, 3) := by decide +kernel
theorem dX12_graft_452 : decode cX12_graft 452 = .ok (.aload_n 0, 1) := by decide +kernel
theorem dX12_graft_453 : decode cX12_graft 453 = .ok (.getfield 546, 3) := by decide +kernel
theorem dX12_graft_456 : decode cX12_graft 456 = .ok (.iload_n 3, 1) := by decide +kernel
theorem dX12_graft_457 : decode cX12_graft 457 = .ok (.iastore, 1) := by decide +kernel
theorem dX12_graft_458 : decode cX12_graft 458 = .ok (.aload_n 0, 1) := by decide +kernel
theorem dX12_graft_459 : decode cX12_graft 459 = .ok (.dup, 1) := by decide +kernel
theorem dX12_graft_460 : decode cX12_graft 460 = .ok (.getfield 546, 3) := by decide +kernel
theorem dX12_graft_463 : decode cX12_graft 463 = .ok (.iconst 1, 1) := by decide +kernel
theorem dX12_graft_464 : decode cX12_graft 464 = .ok (.iadd, 1) := by decide +kernel
theorem dX12_graft_465 : decode cX12_graft 465 = .ok (.putfield 546, 3) := by decide +kernel
theorem dX12_graft_468 : decode cX12_graft 468 = .ok (.return_, 1) := by decide +kernel
theorem dX12_actMapped_0 : decode cX12_actMapped 0 = .ok (.aload_n 0, 1) := by decide +kernel
theorem dX12_actMapped_1 : decode cX12_actMapped 1 = .ok (.getfield 33, 3) := by decide +kernel
theorem dX12_actMapped_4 : decode cX12_actMapped 4 = .ok (.iconst 4, 1) := by decide +kernel
theorem dX12_actMapped_5 : decode cX12_actMapped 5 = .ok (.iload_n 1, 1) := by decide +kernel
theorem dX12_actMapped_6 : decode cX12_actMapped 6 = .ok (.iadd, 1) := by decide +kernel
theorem dX12_actMapped_7 : decode cX12_actMapped 7 = .ok (.iaload, 1) := by decide +kernel
theorem dX12_actMapped_8 : decode cX12_actMapped 8 = .ok (.istore_n 2, 1) := by decide +kernel
theorem dX12_actMapped_9 : decode cX12_actMapped 9 = .ok (.aload_n 0, 1) := by decide +kernel
theorem dX12_actMapped_10 : decode cX12_actMapped 10 = .ok (.getfield 56, 3) := by decide +kernel
theorem dX12_actMapped_13 : decode cX12_actMapped 13 = .ok (.sipush 1173, 3) := by decide +kernel
theorem dX12_actMapped_16 : decode cX12_actMapped 16 = .ok (.iaload, 1) := by decide +kernel
theorem dX12_actMapped_17 : decode cX12_actMapped 17 = .ok (.istore_n 3, 1) := by decide +kernel
theorem dX12_actMapped_18 : decode cX12_actMapped 18 = .ok (.iconst 0, 1) := by decide +kernel
theorem dX12_actMapped_19 : decode cX12_actMapped 19 = .ok (.istore 4, 2) := by decide +kernel
theorem dX12_actMapped_21 : decode cX12_actMapped 21 = .ok (.iconst 0, 1) := by decide +kernel
theorem dX12_actMapped_22 : decode cX12_actMapped 22 = .ok (.istore 5, 2) := by decide +kernel
theorem dX12_actMapped_24 : decode cX12_actMapped 24 = .ok (.iload 5, 2) := by decide +kernel
theorem dX12_actMapped_26 : decode cX12_actMapped 26 = .ok (.iload_n 2, 1) := by decide +kernel
theorem dX12_actMapped_27 : decode cX12_actMapped 27 = .ok (.if_icmp .ge 28, 3) := by decide +kernel
theorem dX12_actMapped_30 : decode cX12_actMapped 30 = .ok (.iload 4, 2) := by decide +kernel
theorem dX12_actMapped_32 : decode cX12_actMapped 32 = .ok (.aload_n 0, 1) := by decide +kernel
theorem dX12_actMapped_33 : decode cX12_actMapped 33 = .ok (.getfield 172, 3) := by decide +kernel
theorem dX12_actMapped_36 : decode cX12_actMapped 36 = .ok (.aload_n 0, 1) := by decide +kernel
theorem dX12_actMapped_37 : decode cX12_actMapped 37 = .ok (.getfield 549, 3) := by decide +kernel
theorem dX12_actMapped_40 : decode cX12_actMapped 40 = .ok (.iconst 1, 1) := by decide +kernel
theorem dX12_actMapped_41 : decode cX12_actMapped 41 = .ok (.isub, 1) := by decide +kernel
theorem dX12_actMapped_42 : decode cX12_actMapped 42 = .ok (.iload 5, 2) := by decide +kernel
theorem dX12_actMapped_44 : decode cX12_actMapped 44 = .ok (.isub, 1) := by decide +kernel
theorem dX12_actMapped_45 : decode cX12_actMapped 45 = .ok (.iaload, 1) := by decide +kernel
theorem dX12_actMapped_46 : decode cX12_actMapped 46 = .ok (.iadd, 1) := by decide +kernel
theorem dX12_actMapped_47 : decode cX12_actMapped 47 = .ok (.istore 4, 2) := by decide +kernel
theorem dX12_actMapped_49 : decode cX12_actMapped 49 = .ok (.iinc 5 1, 3) := by decide +kernel
theorem dX12_actMapped_52 : decode cX12_actMapped 52 = .ok (.goto (-28), 3) := by decide +kernel
theorem dX12_actMapped_55 : decode cX12_actMapped 55 = .ok (.iconst 0, 1) := by decide +kernel
theorem dX12_actMapped_56 : decode cX12_actMapped 56 = .ok (.istore 5, 2) := by decide +kernel
theorem dX12_actMapped_58 : decode cX12_actMapped 58 = .ok (.iload 5, 2) := by decide +kernel
theorem dX12_actMapped_60 : decode cX12_actMapped 60 = .ok (.aload_n 0, 1) := by decide +kernel
theorem dX12_actMapped_61 : decode cX12_actMapped 61 = .ok (.getfield 62, 3) := by decide +kernel
theorem dX12_actMapped_64 : decode cX12_actMapped 64 = .ok (.bipush 8, 2) := by decide +kernel
theorem dX12_actMapped_66 : decode cX12_actMapped 66 = .ok (.iload 4, 2) := by decide +kernel
theorem dX12_actMapped_68 : decode cX12_actMapped 68 = .ok (.iadd, 1) := by decide +kernel
theorem dX12_actMapped_69 : decode cX12_actMapped 69 = .ok (.iaload, 1) := by decide +kernel
theorem dX12_actMapped_70 : decode cX12_actMapped 70 = .ok (.if_icmp .ge 17, 3) := by decide +kernel
theorem dX12_actMapped_73 : decode cX12_actMapped 73 = .ok (.aload_n 0, 1) := by decide +kernel
theorem dX12_actMapped_74 : decode cX12_actMapped 74 = .ok (.getfield 193, 3) := by decide +kernel
theorem dX12_actMapped_77 : decode cX12_actMapped 77 = .ok (.iload 5, 2) := by decide +kernel
theorem dX12_actMapped_79 : decode cX12_actMapped 79 = .ok (.iconst 0, 1) := by decide +kernel
theorem dX12_actMapped_80 : decode cX12_actMapped 80 = .ok (.iastore, 1) := by decide +kernel
theorem dX12_actMapped_81 : decode cX12_actMapped 81 = .ok (.iinc 5 1, 3) := by decide +kernel
theorem dX12_actMapped_84 : decode cX12_actMapped 84 = .ok (.goto (-26), 3) := by decide +kernel
theorem dX12_actMapped_87 : decode cX12_actMapped 87 = .ok (.iconst 0, 1) := by decide +kernel
theorem dX12_actMapped_88 : decode cX12_actMapped 88 = .ok (.istore 5, 2) := by decide +kernel
theorem dX12_actMapped_90 : decode cX12_actMapped 90 = .ok (.iload 5, 2) := by decide +kernel
theorem dX12_actMapped_92 : decode cX12_actMapped 92 = .ok (.aload_n 0, 1) := by decide +kernel
theorem dX12_actMapped_93 : decode cX12_actMapped 93 = .ok (.getfield 166, 3) := by decide +kernel
theorem dX12_actMapped_96 : decode cX12_actMapped 96 = .ok (.iload_n 1, 1) := by decide +kernel
theorem dX12_actMapped_97 : decode cX12_actMapped 97 = .ok (.iaload, 1) := by decide +kernel
theorem dX12_actMapped_98 : decode cX12_actMapped 98 = .ok (.if_icmp .ge 240, 3) := by decide +kernel
theorem dX12_actMapped_101 : decode cX12_actMapped 101 = .ok (.aload_n 0, 1) := by decide +kernel
theorem dX12_actMapped_102 : decode cX12_actMapped 102 = .ok (.aload_n 0, 1) := by decide +kernel
theorem dX12_actMapped_103 : decode cX12_actMapped 103 = .ok (.getfield 160, 3) := by decide +kernel
theorem dX12_actMapped_106 : decode cX12_actMapped 106 = .ok (.bipush 64, 2) := by decide +kernel
theorem dX12_actMapped_108 : decode cX12_actMapped 108 = .ok (.iload_n 1, 1) := by decide +kernel
theorem dX12_actMapped_109 : decode cX12_actMapped 109 = .ok (.imul, 1) := by decide +kernel
theorem dX12_actMapped_110 : decode cX12_actMapped 110 = .ok (.iload 5, 2) := by decide +kernel
theorem dX12_actMapped_112 : decode cX12_actMapped 112 = .ok (.iadd, 1) := by decide +kernel
theorem dX12_actMapped_113 : decode cX12_actMapped 113 = .ok (.iaload, 1) := by decide +kernel
theorem dX12_actMapped_114 : decode cX12_actMapped 114 = .ok (.invokevirtual 277, 3) := by decide +kernel
theorem dX12_actMapped_117 : decode cX12_actMapped 117 = .ok (.aload_n 0, 1) := by decide +kernel
theorem dX12_actMapped_118 : decode cX12_actMapped 118 = .ok (.iconst 0, 1) := by decide +kernel
theorem dX12_actMapped_119 : decode cX12_actMapped 119 = .ok (.putfield 546, 3) := by decide +kernel
theorem dX12_actMapped_122 : decode cX12_actMapped 122 = .ok (.iload_n 2, 1) := by decide +kernel
theorem dX12_actMapped_123 : decode cX12_actMapped 123 = .ok (.iconst 1, 1) := by decide +kernel
theorem dX12_actMapped_124 : decode cX12_actMapped 124 = .ok (.isub, 1) := by decide +kernel
theorem dX12_actMapped_125 : decode cX12_actMapped 125 = .ok (.istore 6, 2) := by decide +kernel
theorem dX12_actMapped_127 : decode cX12_actMapped 127 = .ok (.aload_n 0, 1) := by decide +kernel
theorem dX12_actMapped_128 : decode cX12_actMapped 128 = .ok (.getfield 274, 3) := by decide +kernel
theorem dX12_actMapped_131 : decode cX12_actMapped 131 = .ok (.iconst 1, 1) := by decide +kernel
theorem dX12_actMapped_132 : decode cX12_actMapped 132 = .ok (.isub, 1) := by decide +kernel
theorem dX12_actMapped_133 : decode cX12_actMapped 133 = .ok (.istore 7, 2) := by decide +kernel
theorem dX12_actMapped_135 : decode cX12_actMapped 135 = .ok (.iload 7, 2) := by decide +kernel
theorem dX12_actMapped_137 : decode cX12_actMapped 137 = .ok (.ifCond .lt 134, 3) := by decide +kernel
theorem dX12_actMapped_140 : decode cX12_actMapped 140 = .ok (.aload_n 0, 1) := by decide +kernel
theorem dX12_actMapped_141 : decode cX12_actMapped 141 = .ok (.getfield 44, 3) := by decide +kernel
theorem dX12_actMapped_144 : decode cX12_actMapped 144 = .ok (.iload 7, 2) := by decide +kernel
theorem dX12_actMapped_146 : decode cX12_actMapped 146 = .ok (.iaload, 1) := by decide +kernel
theorem dX12_actMapped_147 : decode cX12_actMapped 147 = .ok (.ifCond .le 19, 3) := by decide +kernel
theorem dX12_actMapped_150 : decode cX12_actMapped 150 = .ok (.aload_n 0, 1) := by decide +kernel
theorem dX12_actMapped_151 : decode cX12_actMapped 151 = .ok (.aload_n 0, 1) := by decide +kernel
theorem dX12_actMapped_152 : decode cX12_actMapped 152 = .ok (.getfield 44, 3) := by decide +kernel
theorem dX12_actMapped_155 : decode cX12_actMapped 155 = .ok (.iload 7, 2) := by decide +kernel
theorem dX12_actMapped_157 : decode cX12_actMapped 157 = .ok (.iaload, 1) := by decide +kernel
theorem dX12_actMapped_158 : decode cX12_actMapped 158 = .ok (.iconst 1, 1) := by decide +kernel
theorem dX12_actMapped_159 : decode cX12_actMapped 159 = .ok (.isub, 1) := by decide +kernel
theorem dX12_actMapped_160 : decode cX12_actMapped 160 = .ok (.invokevirtual 552, 3) := by decide +kernel
theorem dX12_actMapped_163 : decode cX12_actMapped 163 = .ok (.goto 102, 3) := by decide +kernel
theorem dX12_actMapped_166 : decode cX12_actMapped 166 = .ok (.aload_n 0, 1) := by decide +kernel
theorem dX12_actMapped_167 : decode cX12_actMapped 167 = .ok (.getfield 549, 3) := by decide +kernel
theorem dX12_actMapped_170 : decode cX12_actMapped 170 = .ok (.iconst 1, 1) := by decide +kernel
theorem dX12_actMapped_171 : decode cX12_actMapped 171 = .ok (.isub, 1) := by decide +kernel
theorem dX12_actMapped_172 : decode cX12_actMapped 172 = .ok (.iload 6, 2) := by decide +kernel
theorem dX12_actMapped_174 : decode cX12_actMapped 174 = .ok (.isub, 1) := by decide +kernel
theorem dX12_actMapped_175 : decode cX12_actMapped 175 = .ok (.istore 8, 2) := by decide +kernel
theorem dX12_actMapped_177 : decode cX12_actMapped 177 = .ok (.iconst 0, 1) := by decide +kernel
theorem dX12_actMapped_178 : decode cX12_actMapped 178 = .ok (.istore 9, 2) := by decide +kernel
theorem dX12_actMapped_180 : decode cX12_actMapped 180 = .ok (.iload 9, 2) := by decide +kernel
theorem dX12_actMapped_182 : decode cX12_actMapped 182 = .ok (.aload_n 0, 1) := by decide +kernel
theorem dX12_actMapped_183 : decode cX12_actMapped 183 = .ok (.getfield 62, 3) := by decide +kernel
theorem dX12_actMapped_186 : decode cX12_actMapped 186 = .ok (.bipush 8, 2) := by decide +kernel
theorem dX12_actMapped_188 : decode cX12_actMapped 188 = .ok (.aload_n 0, 1) := by decide +kernel
theorem dX12_actMapped_189 : decode cX12_actMapped 189 = .ok (.getfield 172, 3) := by decide +kernel
theorem dX12_actMapped_192 : decode cX12_actMapped 192 = .ok (.iload 8, 2) := by decide +kernel
theorem dX12_actMapped_194 : decode cX12_actMapped 194 = .ok (.iaload, 1) := by decide +kernel
theorem dX12_actMapped_195 : decode cX12_actMapped 195 = .ok (.iadd, 1) := by decide +kernel
theorem dX12_actMapped_196 : decode cX12_actMapped 196 = .ok (.iaload, 1) := by decide +kernel
theorem dX12_actMapped_197 : decode cX12_actMapped 197 = .ok (.if_icmp .ge 39, 3) := by decide +kernel
theorem dX12_actMapped_200 : decode cX12_actMapped 200 = .ok (.aload_n 0, 1) := by decide +kernel
theorem dX12_actMapped_201 : decode cX12_actMapped 201 = .ok (.getfield 175, 3) := by decide +kernel
theorem dX12_actMapped_204 : decode cX12_actMapped 204 = .ok (.sipush 300, 3) := by decide +kernel
theorem dX12_actMapped_207 : decode cX12_actMapped 207 = .ok (.aload_n 0, 1) := by decide +kernel
theorem dX12_actMapped_208 : decode cX12_actMapped 208 = .ok (.getfield 546, 3) := by decide +kernel
theorem dX12_actMapped_211 : decode cX12_actMapped 211 = .ok (.imul, 1) := by decide +kernel
theorem dX12_actMapped_212 : decode cX12_actMapped 212 = .ok (.iload 9, 2) := by decide +kernel
theorem dX12_actMapped_214 : decode cX12_actMapped 214 = .ok (.iadd, 1) := by decide +kernel
theorem dX12_actMapped_215 : decode cX12_actMapped 215 = .ok (.aload_n 0, 1) := by decide +kernel
theorem dX12_actMapped_216 : decode cX12_actMapped 216 = .ok (.getfield 169, 3) := by decide +kernel
theorem dX12_actMapped_219 : decode cX12_actMapped 219 = .ok (.sipush 300, 3) := by decide +kernel
theorem dX12_actMapped_222 : decode cX12_actMapped 222 = .ok (.iload 8, 2) := by decide +kernel
theorem dX12_actMapped_224 : decode cX12_actMapped 224 = .ok (.imul, 1) := by decide +kernel
theorem dX12_actMapped_225 : decode cX12_actMapped 225 = .ok (.iload 9, 2) := by decide +kernel
theorem dX12_actMapped_227 : decode cX12_actMapped 227 = .ok (.iadd, 1) := by decide +kernel
theorem dX12_actMapped_228 : decode cX12_actMapped 228 = .ok (.iaload, 1) := by decide +kernel
theorem dX12_actMapped_229 : decode cX12_actMapped 229 = .ok (.iastore, 1) := by decide +kernel
theorem dX12_actMapped_230 : decode cX12_actMapped 230 = .ok (.iinc 9 1, 3) := by decide +kernel
theorem dX12_actMapped_233 : decode cX12_actMapped 233 = .ok (.goto (-53), 3) := by decide +kernel
theorem dX12_actMapped_236 : decode cX12_actMapped 236 = .ok (.aload_n 0, 1) := by decide +kernel
theorem dX12_actMapped_237 : decode cX12_actMapped 237 = .ok (.getfield 178, 3) := by decide +kernel
theorem dX12_actMapped_240 : decode cX12_actMapped 240 = .ok (.aload_n 0, 1) := by decide +kernel
theorem dX12_actMapped_241 : decode cX12_actMapped 241 = .ok (.getfield 546, 3) := by decide +kernel
theorem dX12_actMapped_244 : decode cX12_actMapped 244 = .ok (.aload_n 0, 1) := by decide +kernel
theorem dX12_actMapped_245 : decode cX12_actMapped 245 = .ok (.getfield 172, 3) := by decide +kernel
theorem dX12_actMapped_248 : decode cX12_actMapped 248 = .ok (.iload 8, 2) := by decide +kernel
theorem dX12_actMapped_250 : decode cX12_actMapped 250 = .ok (.iaload, 1) := by decide +kernel
theorem dX12_actMapped_251 : decode cX12_actMapped 251 = .ok (.iastore, 1) := by decide +kernel
theorem dX12_actMapped_252 : decode cX12_actMapped 252 = .ok (.aload_n 0, 1) := by decide +kernel
theorem dX12_actMapped_253 : decode cX12_actMapped 253 = .ok (.dup, 1) := by decide +kernel
theorem dX12_actMapped_254 : decode cX12_actMapped 254 = .ok (.getfield 546, 3) := by decide +kernel
theorem dX12_actMapped_257 : decode cX12_actMapped 257 = .ok (.iconst 1, 1) := by decide +kernel
theorem dX12_actMapped_258 : decode cX12_actMapped 258 = .ok (.iadd, 1) := by decide +kernel
theorem dX12_actMapped_259 : decode cX12_actMapped 259 = .ok (.putfield 546, 3) := by decide +kernel
theorem dX12_actMapped_262 : decode cX12_actMapped 262 = .ok (.iinc 6 (-1), 3) := by decide +kernel
theorem dX12_actMapped_265 : decode cX12_actMapped 265 = .ok (.iinc 7 (-1), 3) := by decide +kernel
theorem dX12_actMapped_268 : decode cX12_actMapped 268 = .ok (.goto (-133), 3) := by decide +kernel
theorem dX12_actMapped_271 : decode cX12_actMapped 271 = .ok (.iconst 0, 1) := by decide +kernel
theorem dX12_actMapped_272 : decode cX12_actMapped 272 = .ok (.istore 7, 2) := by decide +kernel
theorem dX12_actMapped_274 : decode cX12_actMapped 274 = .ok (.iload 7, 2) := by decide +kernel
theorem dX12_actMapped_276 : decode cX12_actMapped 276 = .ok (.aload_n 0, 1) := by decide +kernel
theorem dX12_actMapped_277 : decode cX12_actMapped 277 = .ok (.getfield 62, 3) := by decide +kernel
theorem dX12_actMapped_280 : decode cX12_actMapped 280 = .ok (.bipush 8, 2) := by decide +kernel
theorem dX12_actMapped_282 : decode cX12_actMapped 282 = .ok (.iload 4, 2) := by decide +kernel
theorem dX12_actMapped_284 : decode cX12_actMapped 284 = .ok (.iadd, 1) := by decide +kernel
theorem dX12_actMapped_285 : decode cX12_actMapped 285 = .ok (.iaload, 1) := by decide +kernel
theorem dX12_actMapped_286 : decode cX12_actMapped 286 = .ok (.if_icmp .ge 46, 3) := by decide +kernel
theorem dX12_actMapped_289 : decode cX12_actMapped 289 = .ok (.aload_n 0, 1) := by decide +kernel
theorem dX12_actMapped_290 : decode cX12_actMapped 290 = .ok (.getfield 193, 3) := by decide +kernel
theorem dX12_actMapped_293 : decode cX12_actMapped 293 = .ok (.iload 7, 2) := by decide +kernel
theorem dX12_actMapped_295 : decode cX12_actMapped 295 = .ok (.aload_n 0, 1) := by decide +kernel
theorem dX12_actMapped_296 : decode cX12_actMapped 296 = .ok (.getfield 193, 3) := by decide +kernel
theorem dX12_actMapped_299 : decode cX12_actMapped 299 = .ok (.iload 7, 2) := by decide +kernel
theorem dX12_actMapped_301 : decode cX12_actMapped 301 = .ok (.iaload, 1) := by decide +kernel
theorem dX12_actMapped_302 : decode cX12_actMapped 302 = .ok (.aload_n 0, 1) := by decide +kernel
theorem dX12_actMapped_303 : decode cX12_actMapped 303 = .ok (.getfield 163, 3) := by decide +kernel
theorem dX12_actMapped_306 : decode cX12_actMapped 306 = .ok (.bipush 64, 2) := by decide +kernel
theorem dX12_actMapped_308 : decode cX12_actMapped 308 = .ok (.iload_n 1, 1) := by decide +kernel
theorem dX12_actMapped_309 : decode cX12_actMapped 309 = .ok (.imul, 1) := by decide +kernel
theorem dX12_actMapped_310 : decode cX12_actMapped 310 = .ok (.iload 5, 2) := by decide +kernel
theorem dX12_actMapped_312 : decode cX12_actMapped 312 = .ok (.iadd, 1) := by decide +kernel
theorem dX12_actMapped_313 : decode cX12_actMapped 313 = .ok (.iaload, 1) := by decide +kernel
theorem dX12_actMapped_314 : decode cX12_actMapped 314 = .ok (.aload_n 0, 1) := by decide +kernel
theorem dX12_actMapped_315 : decode cX12_actMapped 315 = .ok (.getfield 175, 3) := by decide +kernel
theorem dX12_actMapped_318 : decode cX12_actMapped 318 = .ok (.iload 7, 2) := by decide +kernel
theorem dX12_actMapped_320 : decode cX12_actMapped 320 = .ok (.iaload, 1) := by decide +kernel
theorem dX12_actMapped_321 : decode cX12_actMapped 321 = .ok (.imul, 1) := by decide +kernel
theorem dX12_actMapped_322 : decode cX12_actMapped 322 = .ok (.iadd, 1) := by decide +kernel
theorem dX12_actMapped_323 : decode cX12_actMapped 323 = .ok (.iload_n 3, 1) := by decide +kernel
theorem dX12_actMapped_324 : decode cX12_actMapped 324 = .ok (.irem, 1) := by decide +kernel
theorem dX12_actMapped_325 : decode cX12_actMapped 325 = .ok (.iastore, 1) := by decide +kernel
theorem dX12_actMapped_326 : decode cX12_actMapped 326 = .ok (.iinc 7 1, 3) := by decide +kernel
theorem dX12_actMapped_329 : decode cX12_actMapped 329 = .ok (.goto (-55), 3) := by decide +kernel
theorem dX12_actMapped_332 : decode cX12_actMapped 332 = .ok (.iinc 5 1, 3) := by decide +kernel
theorem dX12_actMapped_335 : decode cX12_actMapped 335 = .ok (.goto (-245), 3) := by decide +kernel
theorem dX12_actMapped_338 : decode cX12_actMapped 338 = .ok (.aload_n 0, 1) := by decide +kernel
theorem dX12_actMapped_339 : decode cX12_actMapped 339 = .ok (.dup, 1) := by decide +kernel
theorem dX12_actMapped_340 : decode cX12_actMapped 340 = .ok (.getfield 549, 3) := by decide +kernel
theorem dX12_actMapped_343 : decode cX12_actMapped 343 = .ok (.iload_n 2, 1) := by decide +kernel
theorem dX12_actMapped_344 : decode cX12_actMapped 344 = .ok (.isub, 1) := by decide +kernel
theorem dX12_actMapped_345 : decode cX12_actMapped 345 = .ok (.putfield 549, 3) := by decide +kernel
theorem dX12_actMapped_348 : decode cX12_actMapped 348 = .ok (.iconst 0, 1) := by decide +kernel
theorem dX12_actMapped_349 : decode cX12_actMapped 349 = .ok (.istore 5, 2) := by decide +kernel
theorem dX12_actMapped_351 : decode cX12_actMapped 351 = .ok (.iload 5, 2) := by decide +kernel
theorem dX12_actMapped_353 : decode cX12_actMapped 353 = .ok (.aload_n 0, 1) := by decide +kernel
theorem dX12_actMapped_354 : decode cX12_actMapped 354 = .ok (.getfield 62, 3) := by decide +kernel
theorem dX12_actMapped_357 : decode cX12_actMapped 357 = .ok (.bipush 8, 2) := by decide +kernel
theorem dX12_actMapped_359 : decode cX12_actMapped 359 = .ok (.iload 4, 2) := by decide +kernel
theorem dX12_actMapped_361 : decode cX12_actMapped 361 = .ok (.iadd, 1) := by decide +kernel
theorem dX12_actMapped_362 : decode cX12_actMapped 362 = .ok (.iaload, 1) := by decide +kernel
theorem dX12_actMapped_363 : decode cX12_actMapped 363 = .ok (.if_icmp .ge 32, 3) := by decide +kernel
theorem dX12_actMapped_366 : decode cX12_actMapped 366 = .ok (.aload_n 0, 1) := by decide +kernel
theorem dX12_actMapped_367 : decode cX12_actMapped 367 = .ok (.getfield 169, 3) := by decide +kernel
theorem dX12_actMapped_370 : decode cX12_actMapped 370 = .ok (.sipush 300, 3) := by decide +kernel
theorem dX12_actMapped_373 : decode cX12_actMapped 373 = .ok (.aload_n 0, 1) := by decide +kernel
theorem dX12_actMapped_374 : decode cX12_actMapped 374 = .ok (.getfield 549, 3) := by decide +kernel
theorem dX12_actMapped_377 : decode cX12_actMapped 377 = .ok (.imul, 1) := by decide +kernel
theorem dX12_actMapped_378 : decode cX12_actMapped 378 = .ok (.iload 5, 2) := by decide +kernel
theorem dX12_actMapped_380 : decode cX12_actMapped 380 = .ok (.iadd, 1) := by decide +kernel
theorem dX12_actMapped_381 : decode cX12_actMapped 381 = .ok (.aload_n 0, 1) := by decide +kernel
theorem dX12_actMapped_382 : decode cX12_actMapped 382 = .ok (.getfield 193, 3) := by decide +kernel
theorem dX12_actMapped_385 : decode cX12_actMapped 385 = .ok (.iload 5, 2) := by decide +kernel
theorem dX12_actMapped_387 : decode cX12_actMapped 387 = .ok (.iaload, 1) := by decide +kernel
theorem dX12_actMapped_388 : decode cX12_actMapped 388 = .ok (.iastore, 1) := by decide +kernel
theorem dX12_actMapped_389 : decode cX12_actMapped 389 = .ok (.iinc 5 1, 3) := by decide +kernel
theorem dX12_actMapped_392 : decode cX12_actMapped 392 = .ok (.goto (-41), 3) := by decide +kernel
theorem dX12_actMapped_395 : decode cX12_actMapped 395 = .ok (.aload_n 0, 1) := by decide +kernel
theorem dX12_actMapped_396 : decode cX12_actMapped 396 = .ok (.getfield 172, 3) := by decide +kernel
theorem dX12_actMapped_399 : decode cX12_actMapped 399 = .ok (.aload_n 0, 1) := by decide +kernel
theorem dX12_actMapped_400 : decode cX12_actMapped 400 = .ok (.getfield 549, 3) := by decide +kernel
theorem dX12_actMapped_403 : decode cX12_actMapped 403 = .ok (.iload 4, 2) := by decide +kernel
theorem dX12_actMapped_405 : decode cX12_actMapped 405 = .ok (.iastore, 1) := by decide +kernel
theorem dX12_actMapped_406 : decode cX12_actMapped 406 = .ok (.aload_n 0, 1) := by decide +kernel
theorem dX12_actMapped_407 : decode cX12_actMapped 407 = .ok (.dup, 1) := by decide +kernel
theorem dX12_actMapped_408 : decode cX12_actMapped 408 = .ok (.getfield 549, 3) := by decide +kernel
theorem dX12_actMapped_411 : decode cX12_actMapped 411 = .ok (.iconst 1, 1) := by decide +kernel
theorem dX12_actMapped_412 : decode cX12_actMapped 412 = .ok (.iadd, 1) := by decide +kernel
theorem dX12_actMapped_413 : decode cX12_actMapped 413 = .ok (.putfield 549, 3) := by decide +kernel
theorem dX12_actMapped_416 : decode cX12_actMapped 416 = .ok (.return_, 1) := by decide +kernel
theorem dX12_keeps_0 : decode cX12_keeps 0 = .ok (.aload_n 0, 1) := by decide +kernel
theorem dX12_keeps_1 : decode cX12_keeps 1 = .ok (.getfield 33, 3) := by decide +kernel
theorem dX12_keeps_4 : decode cX12_keeps 4 = .ok (.bipush 7, 2) := by decide +kernel
theorem dX12_keeps_6 : decode cX12_keeps 6 = .ok (.iload_n 1, 1) := by decide +kernel
theorem dX12_keeps_7 : decode cX12_keeps 7 = .ok (.iadd, 1) := by decide +kernel
theorem dX12_keeps_8 : decode cX12_keeps 8 = .ok (.iaload, 1) := by decide +kernel
theorem dX12_keeps_9 : decode cX12_keeps 9 = .ok (.istore_n 2, 1) := by decide +kernel
theorem dX12_keeps_10 : decode cX12_keeps 10 = .ok (.aload_n 0, 1) := by decide +kernel
theorem dX12_keeps_11 : decode cX12_keeps 11 = .ok (.getfield 56, 3) := by decide +kernel
theorem dX12_keeps_14 : decode cX12_keeps 14 = .ok (.sipush 1173, 3) := by decide +kernel
theorem dX12_keeps_17 : decode cX12_keeps 17 = .ok (.iaload, 1) := by decide +kernel
theorem dX12_keeps_18 : decode cX12_keeps 18 = .ok (.istore_n 3, 1) := by decide +kernel
theorem dX12_keeps_19 : decode cX12_keeps 19 = .ok (.aload_n 0, 1) := by decide +kernel
theorem dX12_keeps_20 : decode cX12_keeps 20 = .ok (.getfield 196, 3) := by decide +kernel
theorem dX12_keeps_23 : decode cX12_keeps 23 = .ok (.astore 4, 2) := by decide +kernel
theorem dX12_keeps_25 : decode cX12_keeps 25 = .ok (.iconst 0, 1) := by decide +kernel
theorem dX12_keeps_26 : decode cX12_keeps 26 = .ok (.istore 5, 2) := by decide +kernel
theorem dX12_keeps_28 : decode cX12_keeps 28 = .ok (.iload 5, 2) := by decide +kernel
theorem dX12_keeps_30 : decode cX12_keeps 30 = .ok (.aload_n 0, 1) := by decide +kernel
theorem dX12_keeps_31 : decode cX12_keeps 31 = .ok (.getfield 62, 3) := by decide +kernel
theorem dX12_keeps_34 : decode cX12_keeps 34 = .ok (.bipush 8, 2) := by decide +kernel
theorem dX12_keeps_36 : decode cX12_keeps 36 = .ok (.iload_n 2, 1) := by decide +kernel
theorem dX12_keeps_37 : decode cX12_keeps 37 = .ok (.iadd, 1) := by decide +kernel
theorem dX12_keeps_38 : decode cX12_keeps 38 = .ok (.iaload, 1) := by decide +kernel
theorem dX12_keeps_39 : decode cX12_keeps 39 = .ok (.if_icmp .ge 15, 3) := by decide +kernel
theorem dX12_keeps_42 : decode cX12_keeps 42 = .ok (.aload 4, 2) := by decide +kernel
theorem dX12_keeps_44 : decode cX12_keeps 44 = .ok (.iload 5, 2) := by decide +kernel
theorem dX12_keeps_46 : decode cX12_keeps 46 = .ok (.iconst 0, 1) := by decide +kernel
theorem dX12_keeps_47 : decode cX12_keeps 47 = .ok (.iastore, 1) := by decide +kernel
theorem dX12_keeps_48 : decode cX12_keeps 48 = .ok (.iinc 5 1, 3) := by decide +kernel
theorem dX12_keeps_51 : decode cX12_keeps 51 = .ok (.goto (-23), 3) := by decide +kernel
theorem dX12_keeps_54 : decode cX12_keeps 54 = .ok (.aload_n 0, 1) := by decide +kernel
theorem dX12_keeps_55 : decode cX12_keeps 55 = .ok (.getfield 33, 3) := by decide +kernel
theorem dX12_keeps_58 : decode cX12_keeps 58 = .ok (.bipush 25, 2) := by decide +kernel
theorem dX12_keeps_60 : decode cX12_keeps 60 = .ok (.iload_n 1, 1) := by decide +kernel
theorem dX12_keeps_61 : decode cX12_keeps 61 = .ok (.iadd, 1) := by decide +kernel
theorem dX12_keeps_62 : decode cX12_keeps 62 = .ok (.iaload, 1) := by decide +kernel
theorem dX12_keeps_63 : decode cX12_keeps 63 = .ok (.istore 5, 2) := by decide +kernel
theorem dX12_keeps_65 : decode cX12_keeps 65 = .ok (.iload 5, 2) := by decide +kernel
theorem dX12_keeps_67 : decode cX12_keeps 67 = .ok (.aload_n 0, 1) := by decide +kernel
theorem dX12_keeps_68 : decode cX12_keeps 68 = .ok (.getfield 33, 3) := by decide +kernel
theorem dX12_keeps_71 : decode cX12_keeps 71 = .ok (.bipush 25, 2) := by decide +kernel
theorem dX12_keeps_73 : decode cX12_keeps 73 = .ok (.iload_n 1, 1) := by decide +kernel
theorem dX12_keeps_74 : decode cX12_keeps 74 = .ok (.iadd, 1) := by decide +kernel
theorem dX12_keeps_75 : decode cX12_keeps 75 = .ok (.iconst 1, 1) := by decide +kernel
theorem dX12_keeps_76 : decode cX12_keeps 76 = .ok (.iadd, 1) := by decide +kernel
theorem dX12_keeps_77 : decode cX12_keeps 77 = .ok (.iaload, 1) := by decide +kernel
theorem dX12_keeps_78 : decode cX12_keeps 78 = .ok (.if_icmp .ge 196, 3) := by decide +kernel
theorem dX12_keeps_81 : decode cX12_keeps 81 = .ok (.aload_n 0, 1) := by decide +kernel
theorem dX12_keeps_82 : decode cX12_keeps 82 = .ok (.aload_n 0, 1) := by decide +kernel
theorem dX12_keeps_83 : decode cX12_keeps 83 = .ok (.getfield 33, 3) := by decide +kernel
theorem dX12_keeps_86 : decode cX12_keeps 86 = .ok (.bipush 44, 2) := by decide +kernel
theorem dX12_keeps_88 : decode cX12_keeps 88 = .ok (.iload 5, 2) := by decide +kernel
theorem dX12_keeps_90 : decode cX12_keeps 90 = .ok (.iadd, 1) := by decide +kernel
theorem dX12_keeps_91 : decode cX12_keeps 91 = .ok (.iaload, 1) := by decide +kernel
theorem dX12_keeps_92 : decode cX12_keeps 92 = .ok (.invokevirtual 277, 3) := by decide +kernel
theorem dX12_keeps_95 : decode cX12_keeps 95 = .ok (.aload_n 0, 1) := by decide +kernel
theorem dX12_keeps_96 : decode cX12_keeps 96 = .ok (.getfield 274, 3) := by decide +kernel
theorem dX12_keeps_99 : decode cX12_keeps 99 = .ok (.istore 6, 2) := by decide +kernel
theorem dX12_keeps_101 : decode cX12_keeps 101 = .ok (.iconst 0, 1) := by decide +kernel
theorem dX12_keeps_102 : decode cX12_keeps 102 = .ok (.istore 7, 2) := by decide +kernel
theorem dX12_keeps_104 : decode cX12_keeps 104 = .ok (.iload 7, 2) := by decide +kernel
theorem dX12_keeps_106 : decode cX12_keeps 106 = .ok (.iload 6, 2) := by decide +kernel
theorem dX12_keeps_108 : decode cX12_keeps 108 = .ok (.if_icmp .ge 23, 3) := by decide +kernel
theorem dX12_keeps_111 : decode cX12_keeps 111 = .ok (.aload_n 0, 1) := by decide +kernel
theorem dX12_keeps_112 : decode cX12_keeps 112 = .ok (.getfield 184, 3) := by decide +kernel
theorem dX12_keeps_115 : decode cX12_keeps 115 = .ok (.iload 7, 2) := by decide +kernel
theorem dX12_keeps_117 : decode cX12_keeps 117 = .ok (.aload_n 0, 1) := by decide +kernel
theorem dX12_keeps_118 : decode cX12_keeps 118 = .ok (.getfield 44, 3) := by decide +kernel
theorem dX12_keeps_121 : decode cX12_keeps 121 = .ok (.iload 7, 2) := by decide +kernel
theorem dX12_keeps_123 : decode cX12_keeps 123 = .ok (.iaload, 1) := by decide +kernel
theorem dX12_keeps_124 : decode cX12_keeps 124 = .ok (.iastore, 1) := by decide +kernel
theorem dX12_keeps_125 : decode cX12_keeps 125 = .ok (.iinc 7 1, 3) := by decide +kernel
theorem dX12_keeps_128 : decode cX12_keeps 128 = .ok (.goto (-24), 3) := by decide +kernel
theorem dX12_keeps_131 : decode cX12_keeps 131 = .ok (.aload_n 0, 1) := by decide +kernel
theorem dX12_keeps_132 : decode cX12_keeps 132 = .ok (.iconst 0, 1) := by decide +kernel
theorem dX12_keeps_133 : decode cX12_keeps 133 = .ok (.putfield 549, 3) := by decide +kernel
theorem dX12_keeps_136 : decode cX12_keeps 136 = .ok (.iload 6, 2) := by decide +kernel
theorem dX12_keeps_138 : decode cX12_keeps 138 = .ok (.iconst 1, 1) := by decide +kernel
theorem dX12_keeps_139 : decode cX12_keeps 139 = .ok (.isub, 1) := by decide +kernel
theorem dX12_keeps_140 : decode cX12_keeps 140 = .ok (.istore 7, 2) := by decide +kernel
theorem dX12_keeps_142 : decode cX12_keeps 142 = .ok (.iload 7, 2) := by decide +kernel
theorem dX12_keeps_144 : decode cX12_keeps 144 = .ok (.ifCond .lt 69, 3) := by decide +kernel
theorem dX12_keeps_147 : decode cX12_keeps 147 = .ok (.aload_n 0, 1) := by decide +kernel
theorem dX12_keeps_148 : decode cX12_keeps 148 = .ok (.getfield 184, 3) := by decide +kernel
theorem dX12_keeps_151 : decode cX12_keeps 151 = .ok (.iload 7, 2) := by decide +kernel
theorem dX12_keeps_153 : decode cX12_keeps 153 = .ok (.iaload, 1) := by decide +kernel
theorem dX12_keeps_154 : decode cX12_keeps 154 = .ok (.ifCond .le 19, 3) := by decide +kernel
theorem dX12_keeps_157 : decode cX12_keeps 157 = .ok (.aload_n 0, 1) := by decide +kernel
theorem dX12_keeps_158 : decode cX12_keeps 158 = .ok (.aload_n 0, 1) := by decide +kernel
theorem dX12_keeps_159 : decode cX12_keeps 159 = .ok (.getfield 184, 3) := by decide +kernel
theorem dX12_keeps_162 : decode cX12_keeps 162 = .ok (.iload 7, 2) := by decide +kernel
theorem dX12_keeps_164 : decode cX12_keeps 164 = .ok (.iaload, 1) := by decide +kernel
theorem dX12_keeps_165 : decode cX12_keeps 165 = .ok (.iconst 1, 1) := by decide +kernel
theorem dX12_keeps_166 : decode cX12_keeps 166 = .ok (.isub, 1) := by decide +kernel
theorem dX12_keeps_167 : decode cX12_keeps 167 = .ok (.invokevirtual 555, 3) := by decide +kernel
theorem dX12_keeps_170 : decode cX12_keeps 170 = .ok (.goto 37, 3) := by decide +kernel
theorem dX12_keeps_173 : decode cX12_keeps 173 = .ok (.aload_n 0, 1) := by decide +kernel
theorem dX12_keeps_174 : decode cX12_keeps 174 = .ok (.getfield 169, 3) := by decide +kernel
theorem dX12_keeps_177 : decode cX12_keeps 177 = .ok (.sipush 300, 3) := by decide +kernel
theorem dX12_keeps_180 : decode cX12_keeps 180 = .ok (.aload_n 0, 1) := by decide +kernel
theorem dX12_keeps_181 : decode cX12_keeps 181 = .ok (.getfield 549, 3) := by decide +kernel
theorem dX12_keeps_184 : decode cX12_keeps 184 = .ok (.imul, 1) := by decide +kernel
theorem dX12_keeps_185 : decode cX12_keeps 185 = .ok (.iconst 1, 1) := by decide +kernel
theorem dX12_keeps_186 : decode cX12_keeps 186 = .ok (.iastore, 1) := by decide +kernel
theorem dX12_keeps_187 : decode cX12_keeps 187 = .ok (.aload_n 0, 1) := by decide +kernel
theorem dX12_keeps_188 : decode cX12_keeps 188 = .ok (.getfield 172, 3) := by decide +kernel
theorem dX12_keeps_191 : decode cX12_keeps 191 = .ok (.aload_n 0, 1) := by decide +kernel
theorem dX12_keeps_192 : decode cX12_keeps 192 = .ok (.getfield 549, 3) := by decide +kernel
theorem dX12_keeps_195 : decode cX12_keeps 195 = .ok (.iconst 1, 1) := by decide +kernel
theorem dX12_keeps_196 : decode cX12_keeps 196 = .ok (.iastore, 1) := by decide +kernel
theorem dX12_keeps_197 : decode cX12_keeps 197 = .ok (.aload_n 0, 1) := by decide +kernel
theorem dX12_keeps_198 : decode cX12_keeps 198 = .ok (.dup, 1) := by decide +kernel
theorem dX12_keeps_199 : decode cX12_keeps 199 = .ok (.getfield 549, 3) := by decide +kernel
theorem dX12_keeps_202 : decode cX12_keeps 202 = .ok (.iconst 1, 1) := by decide +kernel
theorem dX12_keeps_203 : decode cX12_keeps 203 = .ok (.iadd, 1) := by decide +kernel
theorem dX12_keeps_204 : decode cX12_keeps 204 = .ok (.putfield 549, 3) := by decide +kernel
theorem dX12_keeps_207 : decode cX12_keeps 207 = .ok (.iinc 7 (-1), 3) := by decide +kernel
theorem dX12_keeps_210 : decode cX12_keeps 210 = .ok (.goto (-68), 3) := by decide +kernel
theorem dX12_keeps_213 : decode cX12_keeps 213 = .ok (.iconst 0, 1) := by decide +kernel
theorem dX12_keeps_214 : decode cX12_keeps 214 = .ok (.istore 7, 2) := by decide +kernel
theorem dX12_keeps_216 : decode cX12_keeps 216 = .ok (.iload 7, 2) := by decide +kernel
theorem dX12_keeps_218 : decode cX12_keeps 218 = .ok (.aload_n 0, 1) := by decide +kernel
theorem dX12_keeps_219 : decode cX12_keeps 219 = .ok (.getfield 62, 3) := by decide +kernel
theorem dX12_keeps_222 : decode cX12_keeps 222 = .ok (.bipush 8, 2) := by decide +kernel
theorem dX12_keeps_224 : decode cX12_keeps 224 = .ok (.iload_n 2, 1) := by decide +kernel
theorem dX12_keeps_225 : decode cX12_keeps 225 = .ok (.iadd, 1) := by decide +kernel
theorem dX12_keeps_226 : decode cX12_keeps 226 = .ok (.iaload, 1) := by decide +kernel
theorem dX12_keeps_227 : decode cX12_keeps 227 = .ok (.if_icmp .ge 41, 3) := by decide +kernel
theorem dX12_keeps_230 : decode cX12_keeps 230 = .ok (.aload 4, 2) := by decide +kernel
theorem dX12_keeps_232 : decode cX12_keeps 232 = .ok (.iload 7, 2) := by decide +kernel
theorem dX12_keeps_234 : decode cX12_keeps 234 = .ok (.aload 4, 2) := by decide +kernel
theorem dX12_keeps_236 : decode cX12_keeps 236 = .ok (.iload 7, 2) := by decide +kernel
theorem dX12_keeps_238 : decode cX12_keeps 238 = .ok (.iaload, 1) := by decide +kernel
theorem dX12_keeps_239 : decode cX12_keeps 239 = .ok (.aload_n 0, 1) := by decide +kernel
theorem dX12_keeps_240 : decode cX12_keeps 240 = .ok (.getfield 33, 3) := by decide +kernel
theorem dX12_keeps_243 : decode cX12_keeps 243 = .ok (.sipush 244, 3) := by decide +kernel
theorem dX12_keeps_246 : decode cX12_keeps 246 = .ok (.iload 5, 2) := by decide +kernel
theorem dX12_keeps_248 : decode cX12_keeps 248 = .ok (.iadd, 1) := by decide +kernel
theorem dX12_keeps_249 : decode cX12_keeps 249 = .ok (.iaload, 1) := by decide +kernel
theorem dX12_keeps_250 : decode cX12_keeps 250 = .ok (.aload_n 0, 1) := by decide +kernel
theorem dX12_keeps_251 : decode cX12_keeps 251 = .ok (.getfield 169, 3) := by decide +kernel
theorem dX12_keeps_254 : decode cX12_keeps 254 = .ok (.iload 7, 2) := by decide +kernel
theorem dX12_keeps_256 : decode cX12_keeps 256 = .ok (.iaload, 1) := by decide +kernel
theorem dX12_keeps_257 : decode cX12_keeps 257 = .ok (.imul, 1) := by decide +kernel
theorem dX12_keeps_258 : decode cX12_keeps 258 = .ok (.iadd, 1) := by decide +kernel
theorem dX12_keeps_259 : decode cX12_keeps 259 = .ok (.iload_n 3, 1) := by decide +kernel
theorem dX12_keeps_260 : decode cX12_keeps 260 = .ok (.irem, 1) := by decide +kernel
theorem dX12_keeps_261 : decode cX12_keeps 261 = .ok (.iastore, 1) := by decide +kernel
theorem dX12_keeps_262 : decode cX12_keeps 262 = .ok (.iinc 7 1, 3) := by decide +kernel
theorem dX12_keeps_265 : decode cX12_keeps 265 = .ok (.goto (-49), 3) := by decide +kernel
theorem dX12_keeps_268 : decode cX12_keeps 268 = .ok (.iinc 5 1, 3) := by decide +kernel
theorem dX12_keeps_271 : decode cX12_keeps 271 = .ok (.goto (-206), 3) := by decide +kernel
theorem dX12_keeps_274 : decode cX12_keeps 274 = .ok (.iconst 0, 1) := by decide +kernel
theorem dX12_keeps_275 : decode cX12_keeps 275 = .ok (.istore 5, 2) := by decide +kernel
theorem dX12_keeps_277 : decode cX12_keeps 277 = .ok (.iload 5, 2) := by decide +kernel
theorem dX12_keeps_279 : decode cX12_keeps 279 = .ok (.aload_n 0, 1) := by decide +kernel
theorem dX12_keeps_280 : decode cX12_keeps 280 = .ok (.getfield 62, 3) := by decide +kernel
theorem dX12_keeps_283 : decode cX12_keeps 283 = .ok (.bipush 8, 2) := by decide +kernel
theorem dX12_keeps_285 : decode cX12_keeps 285 = .ok (.iload_n 2, 1) := by decide +kernel
theorem dX12_keeps_286 : decode cX12_keeps 286 = .ok (.iadd, 1) := by decide +kernel
theorem dX12_keeps_287 : decode cX12_keeps 287 = .ok (.iaload, 1) := by decide +kernel
theorem dX12_keeps_288 : decode cX12_keeps 288 = .ok (.if_icmp .ge 21, 3) := by decide +kernel
theorem dX12_keeps_291 : decode cX12_keeps 291 = .ok (.aload_n 0, 1) := by decide +kernel
theorem dX12_keeps_292 : decode cX12_keeps 292 = .ok (.getfield 106, 3) := by decide +kernel
theorem dX12_keeps_295 : decode cX12_keeps 295 = .ok (.iload 5, 2) := by decide +kernel
theorem dX12_keeps_297 : decode cX12_keeps 297 = .ok (.aload 4, 2) := by decide +kernel
theorem dX12_keeps_299 : decode cX12_keeps 299 = .ok (.iload 5, 2) := by decide +kernel
theorem dX12_keeps_301 : decode cX12_keeps 301 = .ok (.iaload, 1) := by decide +kernel
theorem dX12_keeps_302 : decode cX12_keeps 302 = .ok (.iastore, 1) := by decide +kernel
theorem dX12_keeps_303 : decode cX12_keeps 303 = .ok (.iinc 5 1, 3) := by decide +kernel
theorem dX12_keeps_306 : decode cX12_keeps 306 = .ok (.goto (-29), 3) := by decide +kernel
theorem dX12_keeps_309 : decode cX12_keeps 309 = .ok (.aload_n 0, 1) := by decide +kernel
theorem dX12_keeps_310 : decode cX12_keeps 310 = .ok (.iconst 1, 1) := by decide +kernel
theorem dX12_keeps_311 : decode cX12_keeps 311 = .ok (.iload_n 2, 1) := by decide +kernel
theorem dX12_keeps_312 : decode cX12_keeps 312 = .ok (.invokevirtual 339, 3) := by decide +kernel
theorem dX12_keeps_315 : decode cX12_keeps 315 = .ok (.iconst 0, 1) := by decide +kernel
theorem dX12_keeps_316 : decode cX12_keeps 316 = .ok (.istore 5, 2) := by decide +kernel
theorem dX12_keeps_318 : decode cX12_keeps 318 = .ok (.iload 5, 2) := by decide +kernel
theorem dX12_keeps_320 : decode cX12_keeps 320 = .ok (.aload_n 0, 1) := by decide +kernel
theorem dX12_keeps_321 : decode cX12_keeps 321 = .ok (.getfield 62, 3) := by decide +kernel
theorem dX12_keeps_324 : decode cX12_keeps 324 = .ok (.bipush 8, 2) := by decide +kernel
theorem dX12_keeps_326 : decode cX12_keeps 326 = .ok (.iload_n 2, 1) := by decide +kernel
theorem dX12_keeps_327 : decode cX12_keeps 327 = .ok (.iadd, 1) := by decide +kernel
theorem dX12_keeps_328 : decode cX12_keeps 328 = .ok (.iaload, 1) := by decide +kernel
theorem dX12_keeps_329 : decode cX12_keeps 329 = .ok (.if_icmp .ge 21, 3) := by decide +kernel
theorem dX12_keeps_332 : decode cX12_keeps 332 = .ok (.aload_n 0, 1) := by decide +kernel
theorem dX12_keeps_333 : decode cX12_keeps 333 = .ok (.getfield 106, 3) := by decide +kernel
theorem dX12_keeps_336 : decode cX12_keeps 336 = .ok (.iload 5, 2) := by decide +kernel
theorem dX12_keeps_338 : decode cX12_keeps 338 = .ok (.iaload, 1) := by decide +kernel
theorem dX12_keeps_339 : decode cX12_keeps 339 = .ok (.ifCond .eq 5, 3) := by decide +kernel
theorem dX12_keeps_342 : decode cX12_keeps 342 = .ok (.iconst 0, 1) := by decide +kernel
theorem dX12_keeps_343 : decode cX12_keeps 343 = .ok (.ireturn, 1) := by decide +kernel
theorem dX12_keeps_344 : decode cX12_keeps 344 = .ok (.iinc 5 1, 3) := by decide +kernel
theorem dX12_keeps_347 : decode cX12_keeps 347 = .ok (.goto (-29), 3) := by decide +kernel
theorem dX12_keeps_350 : decode cX12_keeps 350 = .ok (.iconst 1, 1) := by decide +kernel
theorem dX12_keeps_351 : decode cX12_keeps 351 = .ok (.ireturn, 1) := by decide +kernel
theorem dX12_map_0 : decode cX12_map 0 = .ok (.aload_n 0, 1) := by decide +kernel
theorem dX12_map_1 : decode cX12_map 1 = .ok (.iconst 0, 1) := by decide +kernel
theorem dX12_map_2 : decode cX12_map 2 = .ok (.putfield 1, 3) := by decide +kernel
theorem dX12_map_5 : decode cX12_map 5 = .ok (.aload_n 0, 1) := by decide +kernel
theorem dX12_map_6 : decode cX12_map 6 = .ok (.sipush 400, 3) := by decide +kernel
theorem dX12_map_9 : decode cX12_map 9 = .ok (.invokevirtual 454, 3) := by decide +kernel
theorem dX12_map_12 : decode cX12_map 12 = .ok (.aload_n 0, 1) := by decide +kernel
theorem dX12_map_13 : decode cX12_map 13 = .ok (.iconst 0, 1) := by decide +kernel
theorem dX12_map_14 : decode cX12_map 14 = .ok (.putfield 259, 3) := by decide +kernel
theorem dX12_map_17 : decode cX12_map 17 = .ok (.aload_n 0, 1) := by decide +kernel
theorem dX12_map_18 : decode cX12_map 18 = .ok (.iload_n 1, 1) := by decide +kernel
theorem dX12_map_19 : decode cX12_map 19 = .ok (.invokevirtual 540, 3) := by decide +kernel
theorem dX12_map_22 : decode cX12_map 22 = .ok (.ifCond .eq 24, 3) := by decide +kernel
theorem dX12_map_25 : decode cX12_map 25 = .ok (.aload_n 0, 1) := by decide +kernel
theorem dX12_map_26 : decode cX12_map 26 = .ok (.getfield 214, 3) := by decide +kernel
theorem dX12_map_29 : decode cX12_map 29 = .ok (.sipush 3775, 3) := by decide +kernel
theorem dX12_map_32 : decode cX12_map 32 = .ok (.iload_n 1, 1) := by decide +kernel
theorem dX12_map_33 : decode cX12_map 33 = .ok (.imul, 1) := by decide +kernel
theorem dX12_map_34 : decode cX12_map 34 = .ok (.iconst 0, 1) := by decide +kernel
theorem dX12_map_35 : decode cX12_map 35 = .ok (.iadd, 1) := by decide +kernel
theorem dX12_map_36 : decode cX12_map 36 = .ok (.iaload, 1) := by decide +kernel
theorem dX12_map_37 : decode cX12_map 37 = .ok (.aload_n 0, 1) := by decide +kernel
theorem dX12_map_38 : decode cX12_map 38 = .ok (.getfield 33, 3) := by decide +kernel
theorem dX12_map_41 : decode cX12_map 41 = .ok (.iconst 0, 1) := by decide +kernel
theorem dX12_map_42 : decode cX12_map 42 = .ok (.iaload, 1) := by decide +kernel
theorem dX12_map_43 : decode cX12_map 43 = .ok (.if_icmp .eq 7, 3) := by decide +kernel
theorem dX12_map_46 : decode cX12_map 46 = .ok (.sipush (-1000), 3) := by decide +kernel
theorem dX12_map_49 : decode cX12_map 49 = .ok (.ireturn, 1) := by decide +kernel
theorem dX12_map_50 : decode cX12_map 50 = .ok (.aload_n 0, 1) := by decide +kernel
theorem dX12_map_51 : decode cX12_map 51 = .ok (.invokevirtual 373, 3) := by decide +kernel
theorem dX12_map_54 : decode cX12_map 54 = .ok (.aload_n 0, 1) := by decide +kernel
theorem dX12_map_55 : decode cX12_map 55 = .ok (.iload_n 1, 1) := by decide +kernel
theorem dX12_map_56 : decode cX12_map 56 = .ok (.invokevirtual 543, 3) := by decide +kernel
theorem dX12_map_59 : decode cX12_map 59 = .ok (.iconst 0, 1) := by decide +kernel
theorem dX12_map_60 : decode cX12_map 60 = .ok (.istore_n 2, 1) := by decide +kernel
theorem dX12_map_61 : decode cX12_map 61 = .ok (.iload_n 2, 1) := by decide +kernel
theorem dX12_map_62 : decode cX12_map 62 = .ok (.iconst 3, 1) := by decide +kernel
theorem dX12_map_63 : decode cX12_map 63 = .ok (.if_icmp .ge 27, 3) := by decide +kernel
theorem dX12_map_66 : decode cX12_map 66 = .ok (.aload_n 0, 1) := by decide +kernel
theorem dX12_map_67 : decode cX12_map 67 = .ok (.getfield 40, 3) := by decide +kernel
theorem dX12_map_70 : decode cX12_map 70 = .ok (.iconst 3, 1) := by decide +kernel
theorem dX12_map_71 : decode cX12_map 71 = .ok (.iload_n 2, 1) := by decide +kernel
theorem dX12_map_72 : decode cX12_map 72 = .ok (.iadd, 1) := by decide +kernel
theorem dX12_map_73 : decode cX12_map 73 = .ok (.aload_n 0, 1) := by decide +kernel
theorem dX12_map_74 : decode cX12_map 74 = .ok (.getfield 217, 3) := by decide +kernel
theorem dX12_map_77 : decode cX12_map 77 = .ok (.iconst 3, 1) := by decide +kernel
theorem dX12_map_78 : decode cX12_map 78 = .ok (.iload_n 1, 1) := by decide +kernel
theorem dX12_map_79 : decode cX12_map 79 = .ok (.imul, 1) := by decide +kernel
theorem dX12_map_80 : decode cX12_map 80 = .ok (.iload_n 2, 1) := by decide +kernel
theorem dX12_map_81 : decode cX12_map 81 = .ok (.iadd, 1) := by decide +kernel
theorem dX12_map_82 : decode cX12_map 82 = .ok (.laload, 1) := by decide +kernel
theorem dX12_map_83 : decode cX12_map 83 = .ok (.lastore, 1) := by decide +kernel
theorem dX12_map_84 : decode cX12_map 84 = .ok (.iinc 2 1, 3) := by decide +kernel
theorem dX12_map_87 : decode cX12_map 87 = .ok (.goto (-26), 3) := by decide +kernel
theorem dX12_map_90 : decode cX12_map 90 = .ok (.aload_n 0, 1) := by decide +kernel
theorem dX12_map_91 : decode cX12_map 91 = .ok (.iconst 3, 1) := by decide +kernel
theorem dX12_map_92 : decode cX12_map 92 = .ok (.putfield 418, 3) := by decide +kernel
theorem dX12_map_95 : decode cX12_map 95 = .ok (.aload_n 0, 1) := by decide +kernel
theorem dX12_map_96 : decode cX12_map 96 = .ok (.iconst 1, 1) := by decide +kernel
theorem dX12_map_97 : decode cX12_map 97 = .ok (.putfield 415, 3) := by decide +kernel
theorem dX12_map_100 : decode cX12_map 100 = .ok (.aload_n 0, 1) := by decide +kernel
theorem dX12_map_101 : decode cX12_map 101 = .ok (.invokevirtual 271, 3) := by decide +kernel
theorem dX12_map_104 : decode cX12_map 104 = .ok (.aload_n 0, 1) := by decide +kernel
theorem dX12_map_105 : decode cX12_map 105 = .ok (.invokevirtual 558, 3) := by decide +kernel
theorem dX12_map_108 : decode cX12_map 108 = .ok (.ifCond .ne 10, 3) := by decide +kernel
theorem dX12_map_111 : decode cX12_map 111 = .ok (.iconst (-1), 1) := by decide +kernel
theorem dX12_map_112 : decode cX12_map 112 = .ok (.aload_n 0, 1) := by decide +kernel
theorem dX12_map_113 : decode cX12_map 113 = .ok (.getfield 262, 3) := by decide +kernel
theorem dX12_map_116 : decode cX12_map 116 = .ok (.isub, 1) := by decide +kernel
theorem dX12_map_117 : decode cX12_map 117 = .ok (.ireturn, 1) := by decide +kernel
theorem dX12_map_118 : decode cX12_map 118 = .ok (.aload_n 0, 1) := by decide +kernel
theorem dX12_map_119 : decode cX12_map 119 = .ok (.iconst 1, 1) := by decide +kernel
theorem dX12_map_120 : decode cX12_map 120 = .ok (.invokevirtual 342, 3) := by decide +kernel
theorem dX12_map_123 : decode cX12_map 123 = .ok (.iconst 1, 1) := by decide +kernel
theorem dX12_map_124 : decode cX12_map 124 = .ok (.istore_n 2, 1) := by decide +kernel
theorem dX12_map_125 : decode cX12_map 125 = .ok (.iconst 0, 1) := by decide +kernel
theorem dX12_map_126 : decode cX12_map 126 = .ok (.istore_n 3, 1) := by decide +kernel
theorem dX12_map_127 : decode cX12_map 127 = .ok (.iload_n 3, 1) := by decide +kernel
theorem dX12_map_128 : decode cX12_map 128 = .ok (.aload_n 0, 1) := by decide +kernel
theorem dX12_map_129 : decode cX12_map 129 = .ok (.getfield 33, 3) := by decide +kernel
theorem dX12_map_132 : decode cX12_map 132 = .ok (.iconst 2, 1) := by decide +kernel
theorem dX12_map_133 : decode cX12_map 133 = .ok (.iaload, 1) := by decide +kernel
theorem dX12_map_134 : decode cX12_map 134 = .ok (.if_icmp .ge 48, 3) := by decide +kernel
theorem dX12_map_137 : decode cX12_map 137 = .ok (.aload_n 0, 1) := by decide +kernel
theorem dX12_map_138 : decode cX12_map 138 = .ok (.iload_n 3, 1) := by decide +kernel
theorem dX12_map_139 : decode cX12_map 139 = .ok (.invokevirtual 561, 3) := by decide +kernel
theorem dX12_map_142 : decode cX12_map 142 = .ok (.ifCond .eq 7, 3) := by decide +kernel
theorem dX12_map_145 : decode cX12_map 145 = .ok (.sipush (-1001), 3) := by decide +kernel
theorem dX12_map_148 : decode cX12_map 148 = .ok (.ireturn, 1) := by decide +kernel
theorem dX12_map_149 : decode cX12_map 149 = .ok (.aload_n 0, 1) := by decide +kernel
theorem dX12_map_150 : decode cX12_map 150 = .ok (.getfield 33, 3) := by decide +kernel
theorem dX12_map_153 : decode cX12_map 153 = .ok (.bipush 7, 2) := by decide +kernel
theorem dX12_map_155 : decode cX12_map 155 = .ok (.iload_n 3, 1) := by decide +kernel
theorem dX12_map_156 : decode cX12_map 156 = .ok (.iadd, 1) := by decide +kernel
theorem dX12_map_157 : decode cX12_map 157 = .ok (.iaload, 1) := by decide +kernel
theorem dX12_map_158 : decode cX12_map 158 = .ok (.iload_n 2, 1) := by decide +kernel
theorem dX12_map_159 : decode cX12_map 159 = .ok (.if_icmp .le 15, 3) := by decide +kernel
theorem dX12_map_162 : decode cX12_map 162 = .ok (.aload_n 0, 1) := by decide +kernel
theorem dX12_map_163 : decode cX12_map 163 = .ok (.getfield 33, 3) := by decide +kernel
theorem dX12_map_166 : decode cX12_map 166 = .ok (.bipush 7, 2) := by decide +kernel
theorem dX12_map_168 : decode cX12_map 168 = .ok (.iload_n 3, 1) := by decide +kernel
theorem dX12_map_169 : decode cX12_map 169 = .ok (.iadd, 1) := by decide +kernel
theorem dX12_map_170 : decode cX12_map 170 = .ok (.iaload, 1) := by decide +kernel
theorem dX12_map_171 : decode cX12_map 171 = .ok (.goto 4, 3) := by decide +kernel
theorem dX12_map_174 : decode cX12_map 174 = .ok (.iload_n 2, 1) := by decide +kernel
theorem dX12_map_175 : decode cX12_map 175 = .ok (.istore_n 2, 1) := by decide +kernel
theorem dX12_map_176 : decode cX12_map 176 = .ok (.iinc 3 1, 3) := by decide +kernel
theorem dX12_map_179 : decode cX12_map 179 = .ok (.goto (-52), 3) := by decide +kernel
theorem dX12_map_182 : decode cX12_map 182 = .ok (.aload_n 0, 1) := by decide +kernel
theorem dX12_map_183 : decode cX12_map 183 = .ok (.iconst 1, 1) := by decide +kernel
theorem dX12_map_184 : decode cX12_map 184 = .ok (.iload_n 2, 1) := by decide +kernel
theorem dX12_map_185 : decode cX12_map 185 = .ok (.invokevirtual 376, 3) := by decide +kernel
theorem dX12_map_188 : decode cX12_map 188 = .ok (.iconst 0, 1) := by decide +kernel
theorem dX12_map_189 : decode cX12_map 189 = .ok (.istore_n 3, 1) := by decide +kernel
theorem dX12_map_190 : decode cX12_map 190 = .ok (.aload_n 0, 1) := by decide +kernel
theorem dX12_map_191 : decode cX12_map 191 = .ok (.iconst (-1), 1) := by decide +kernel
theorem dX12_map_192 : decode cX12_map 192 = .ok (.putfield 190, 3) := by decide +kernel
theorem dX12_map_195 : decode cX12_map 195 = .ok (.iconst 0, 1) := by decide +kernel
theorem dX12_map_196 : decode cX12_map 196 = .ok (.istore 4, 2) := by decide +kernel
theorem dX12_map_198 : decode cX12_map 198 = .ok (.iload 4, 2) := by decide +kernel
theorem dX12_map_200 : decode cX12_map 200 = .ok (.aload_n 0, 1) := by decide +kernel
theorem dX12_map_201 : decode cX12_map 201 = .ok (.getfield 33, 3) := by decide +kernel
theorem dX12_map_204 : decode cX12_map 204 = .ok (.iconst 2, 1) := by decide +kernel
theorem dX12_map_205 : decode cX12_map 205 = .ok (.iaload, 1) := by decide +kernel
theorem dX12_map_206 : decode cX12_map 206 = .ok (.if_icmp .ge 37, 3) := by decide +kernel
theorem dX12_map_209 : decode cX12_map 209 = .ok (.aload_n 0, 1) := by decide +kernel
theorem dX12_map_210 : decode cX12_map 210 = .ok (.iload 4, 2) := by decide +kernel
theorem dX12_map_212 : decode cX12_map 212 = .ok (.invokevirtual 564, 3) := by decide +kernel
theorem dX12_map_215 : decode cX12_map 215 = .ok (.ifCond .eq 9, 3) := by decide +kernel
theorem dX12_map_218 : decode cX12_map 218 = .ok (.iinc 3 1, 3) := by decide +kernel
theorem dX12_map_221 : decode cX12_map 221 = .ok (.goto 16, 3) := by decide +kernel
theorem dX12_map_224 : decode cX12_map 224 = .ok (.aload_n 0, 1) := by decide +kernel
theorem dX12_map_225 : decode cX12_map 225 = .ok (.getfield 190, 3) := by decide +kernel
theorem dX12_map_228 : decode cX12_map 228 = .ok (.ifCond .ge 9, 3) := by decide +kernel
theorem dX12_map_231 : decode cX12_map 231 = .ok (.aload_n 0, 1) := by decide +kernel
theorem dX12_map_232 : decode cX12_map 232 = .ok (.iload 4, 2) := by decide +kernel
theorem dX12_map_234 : decode cX12_map 234 = .ok (.putfield 190, 3) := by decide +kernel
theorem dX12_map_237 : decode cX12_map 237 = .ok (.iinc 4 1, 3) := by decide +kernel
theorem dX12_map_240 : decode cX12_map 240 = .ok (.goto (-42), 3) := by decide +kernel
theorem dX12_map_243 : decode cX12_map 243 = .ok (.iload_n 3, 1) := by decide +kernel
theorem dX12_map_244 : decode cX12_map 244 = .ok (.ireturn, 1) := by decide +kernel
theorem dX12_broken_0 : decode cX12_broken 0 = .ok (.aload_n 0, 1) := by decide +kernel
theorem dX12_broken_1 : decode cX12_broken 1 = .ok (.iconst 0, 1) := by decide +kernel
theorem dX12_broken_2 : decode cX12_broken 2 = .ok (.putfield 1, 3) := by decide +kernel
theorem dX12_broken_5 : decode cX12_broken 5 = .ok (.aload_n 0, 1) := by decide +kernel
theorem dX12_broken_6 : decode cX12_broken 6 = .ok (.getfield 190, 3) := by decide +kernel
theorem dX12_broken_9 : decode cX12_broken 9 = .ok (.ireturn, 1) := by decide +kernel
theorem dX12_table0_0 : decode cX12_table0 0 = .ok (.aload_n 0, 1) := by decide +kernel
theorem dX12_table0_1 : decode cX12_table0 1 = .ok (.getfield 33, 3) := by decide +kernel
theorem dX12_table0_4 : decode cX12_table0 4 = .ok (.iconst 3, 1) := by decide +kernel
theorem dX12_table0_5 : decode cX12_table0 5 = .ok (.iaload, 1) := by decide +kernel
theorem dX12_table0_6 : decode cX12_table0 6 = .ok (.istore_n 2, 1) := by decide +kernel
theorem dX12_table0_7 : decode cX12_table0 7 = .ok (.iconst 0, 1) := by decide +kernel
theorem dX12_table0_8 : decode cX12_table0 8 = .ok (.istore_n 3, 1) := by decide +kernel
theorem dX12_table0_9 : decode cX12_table0 9 = .ok (.iload_n 3, 1) := by decide +kernel
theorem dX12_table0_10 : decode cX12_table0 10 = .ok (.aload_n 0, 1) := by decide +kernel
theorem dX12_table0_11 : decode cX12_table0 11 = .ok (.getfield 33, 3) := by decide +kernel
theorem dX12_table0_14 : decode cX12_table0 14 = .ok (.iconst 4, 1) := by decide +kernel
theorem dX12_table0_15 : decode cX12_table0 15 = .ok (.iload_n 1, 1) := by decide +kernel
theorem dX12_table0_16 : decode cX12_table0 16 = .ok (.iadd, 1) := by decide +kernel
theorem dX12_table0_17 : decode cX12_table0 17 = .ok (.iaload, 1) := by decide +kernel
theorem dX12_table0_18 : decode cX12_table0 18 = .ok (.if_icmp .ge 18, 3) := by decide +kernel
theorem dX12_table0_21 : decode cX12_table0 21 = .ok (.iload_n 2, 1) := by decide +kernel
theorem dX12_table0_22 : decode cX12_table0 22 = .ok (.aload_n 0, 1) := by decide +kernel
theorem dX12_table0_23 : decode cX12_table0 23 = .ok (.getfield 33, 3) := by decide +kernel
theorem dX12_table0_26 : decode cX12_table0 26 = .ok (.iconst 3, 1) := by decide +kernel
theorem dX12_table0_27 : decode cX12_table0 27 = .ok (.iaload, 1) := by decide +kernel
theorem dX12_table0_28 : decode cX12_table0 28 = .ok (.imul, 1) := by decide +kernel
theorem dX12_table0_29 : decode cX12_table0 29 = .ok (.istore_n 2, 1) := by decide +kernel
theorem dX12_table0_30 : decode cX12_table0 30 = .ok (.iinc 3 1, 3) := by decide +kernel
theorem dX12_table0_33 : decode cX12_table0 33 = .ok (.goto (-24), 3) := by decide +kernel
theorem dX12_table0_36 : decode cX12_table0 36 = .ok (.iload_n 2, 1) := by decide +kernel
theorem dX12_table0_37 : decode cX12_table0 37 = .ok (.ireturn, 1) := by decide +kernel
theorem dX12_space_0 : decode cX12_space 0 = .ok (.aload_n 0, 1) := by decide +kernel
theorem dX12_space_1 : decode cX12_space 1 = .ok (.iconst 0, 1) := by decide +kernel
theorem dX12_space_2 : decode cX12_space 2 = .ok (.putfield 1, 3) := by decide +kernel
theorem dX12_space_5 : decode cX12_space 5 = .ok (.iload_n 1, 1) := by decide +kernel
theorem dX12_space_6 : decode cX12_space 6 = .ok (.iconst 1, 1) := by decide +kernel
theorem dX12_space_7 : decode cX12_space 7 = .ok (.iconst 3, 1) := by decide +kernel
theorem dX12_space_8 : decode cX12_space 8 = .ok (.invokestatic 451, 3) := by decide +kernel
theorem dX12_space_11 : decode cX12_space 11 = .ok (.ifCond .ne 5, 3) := by decide +kernel
theorem dX12_space_14 : decode cX12_space 14 = .ok (.iconst 0, 1) := by decide +kernel
theorem dX12_space_15 : decode cX12_space 15 = .ok (.ireturn, 1) := by decide +kernel
theorem dX12_space_16 : decode cX12_space 16 = .ok (.aload_n 0, 1) := by decide +kernel
theorem dX12_space_17 : decode cX12_space 17 = .ok (.getfield 33, 3) := by decide +kernel
theorem dX12_space_20 : decode cX12_space 20 = .ok (.iconst 3, 1) := by decide +kernel
theorem dX12_space_21 : decode cX12_space 21 = .ok (.iload_n 1, 1) := by decide +kernel
theorem dX12_space_22 : decode cX12_space 22 = .ok (.iastore, 1) := by decide +kernel
theorem dX12_space_23 : decode cX12_space 23 = .ok (.sipush 444, 3) := by decide +kernel
theorem dX12_space_26 : decode cX12_space 26 = .ok (.istore_n 2, 1) := by decide +kernel
theorem dX12_space_27 : decode cX12_space 27 = .ok (.iload_n 2, 1) := by decide +kernel
theorem dX12_space_28 : decode cX12_space 28 = .ok (.sipush 1173, 3) := by decide +kernel
theorem dX12_space_31 : decode cX12_space 31 = .ok (.if_icmp .ge 16, 3) := by decide +kernel
theorem dX12_space_34 : decode cX12_space 34 = .ok (.aload_n 0, 1) := by decide +kernel
theorem dX12_space_35 : decode cX12_space 35 = .ok (.getfield 33, 3) := by decide +kernel
theorem dX12_space_38 : decode cX12_space 38 = .ok (.iload_n 2, 1) := by decide +kernel
theorem dX12_space_39 : decode cX12_space 39 = .ok (.iconst 0, 1) := by decide +kernel
theorem dX12_space_40 : decode cX12_space 40 = .ok (.iastore, 1) := by decide +kernel
theorem dX12_space_41 : decode cX12_space 41 = .ok (.iinc 2 1, 3) := by decide +kernel
theorem dX12_space_44 : decode cX12_space 44 = .ok (.goto (-17), 3) := by decide +kernel
theorem dX12_space_47 : decode cX12_space 47 = .ok (.iconst 1, 1) := by decide +kernel
theorem dX12_space_48 : decode cX12_space 48 = .ok (.ireturn, 1) := by decide +kernel
theorem dX12_table_0 : decode cX12_table 0 = .ok (.aload_n 0, 1) := by decide +kernel
theorem dX12_table_1 : decode cX12_table 1 = .ok (.iconst 0, 1) := by decide +kernel
theorem dX12_table_2 : decode cX12_table 2 = .ok (.putfield 1, 3) := by decide +kernel
theorem dX12_table_5 : decode cX12_table 5 = .ok (.aload_n 0, 1) := by decide +kernel
theorem dX12_table_6 : decode cX12_table 6 = .ok (.sipush 940, 3) := by decide +kernel
theorem dX12_table_9 : decode cX12_table 9 = .ok (.invokevirtual 454, 3) := by decide +kernel
theorem dX12_table_12 : decode cX12_table 12 = .ok (.aload_n 0, 1) := by decide +kernel
theorem dX12_table_13 : decode cX12_table 13 = .ok (.iload_n 1, 1) := by decide +kernel
theorem dX12_table_14 : decode cX12_table 14 = .ok (.invokevirtual 466, 3) := by decide +kernel
theorem dX12_table_17 : decode cX12_table 17 = .ok (.ifCond .eq 15, 3) := by decide +kernel
theorem dX12_table_20 : decode cX12_table 20 = .ok (.aload_n 0, 1) := by decide +kernel
theorem dX12_table_21 : decode cX12_table 21 = .ok (.getfield 18, 3) := by decide +kernel
theorem dX12_table_24 : decode cX12_table 24 = .ok (.aload_n 0, 1) := by decide +kernel
theorem dX12_table_25 : decode cX12_table 25 = .ok (.iload_n 1, 1) := by decide +kernel
theorem dX12_table_26 : decode cX12_table 26 = .ok (.invokevirtual 567, 3) := by decide +kernel
theorem dX12_table_29 : decode cX12_table 29 = .ok (.if_icmp .eq 5, 3) := by decide +kernel
theorem dX12_table_32 : decode cX12_table 32 = .ok (.iconst 0, 1) := by decide +kernel
theorem dX12_table_33 : decode cX12_table 33 = .ok (.ireturn, 1) := by decide +kernel
theorem dX12_table_34 : decode cX12_table 34 = .ok (.iconst 0, 1) := by decide +kernel
theorem dX12_table_35 : decode cX12_table 35 = .ok (.istore_n 2, 1) := by decide +kernel
theorem dX12_table_36 : decode cX12_table 36 = .ok (.iload_n 2, 1) := by decide +kernel
theorem dX12_table_37 : decode cX12_table 37 = .ok (.aload_n 0, 1) := by decide +kernel
theorem dX12_table_38 : decode cX12_table 38 = .ok (.getfield 18, 3) := by decide +kernel
theorem dX12_table_41 : decode cX12_table 41 = .ok (.if_icmp .ge 37, 3) := by decide +kernel
theorem dX12_table_44 : decode cX12_table 44 = .ok (.aload_n 0, 1) := by decide +kernel
theorem dX12_table_45 : decode cX12_table 45 = .ok (.getfield 33, 3) := by decide +kernel
theorem dX12_table_48 : decode cX12_table 48 = .ok (.sipush 444, 3) := by decide +kernel
theorem dX12_table_51 : decode cX12_table 51 = .ok (.sipush 243, 3) := by decide +kernel
theorem dX12_table_54 : decode cX12_table 54 = .ok (.iload_n 1, 1) := by decide +kernel
theorem dX12_table_55 : decode cX12_table 55 = .ok (.imul, 1) := by decide +kernel
theorem dX12_table_56 : decode cX12_table 56 = .ok (.iadd, 1) := by decide +kernel
theorem dX12_table_57 : decode cX12_table 57 = .ok (.iload_n 2, 1) := by decide +kernel
theorem dX12_table_58 : decode cX12_table 58 = .ok (.iadd, 1) := by decide +kernel
theorem dX12_table_59 : decode cX12_table 59 = .ok (.aload_n 0, 1) := by decide +kernel
theorem dX12_table_60 : decode cX12_table 60 = .ok (.iload_n 2, 1) := by decide +kernel
theorem dX12_table_61 : decode cX12_table 61 = .ok (.invokevirtual 570, 3) := by decide +kernel
theorem dX12_table_64 : decode cX12_table 64 = .ok (.aload_n 0, 1) := by decide +kernel
theorem dX12_table_65 : decode cX12_table 65 = .ok (.getfield 33, 3) := by decide +kernel
theorem dX12_table_68 : decode cX12_table 68 = .ok (.iconst 0, 1) := by decide +kernel
theorem dX12_table_69 : decode cX12_table 69 = .ok (.iaload, 1) := by decide +kernel
theorem dX12_table_70 : decode cX12_table 70 = .ok (.irem, 1) := by decide +kernel
theorem dX12_table_71 : decode cX12_table 71 = .ok (.iastore, 1) := by decide +kernel
theorem dX12_table_72 : decode cX12_table 72 = .ok (.iinc 2 1, 3) := by decide +kernel
theorem dX12_table_75 : decode cX12_table 75 = .ok (.goto (-39), 3) := by decide +kernel
theorem dX12_table_78 : decode cX12_table 78 = .ok (.iconst 1, 1) := by decide +kernel
theorem dX12_table_79 : decode cX12_table 79 = .ok (.ireturn, 1) := by decide +kernel
theorem dX12_doTree_0 : decode cX12_doTree 0 = .ok (.aload_n 0, 1) := by decide +kernel
theorem dX12_doTree_1 : decode cX12_doTree 1 = .ok (.iload_n 1, 1) := by decide +kernel
theorem dX12_doTree_2 : decode cX12_doTree 2 = .ok (.invokevirtual 277, 3) := by decide +kernel
theorem dX12_doTree_5 : decode cX12_doTree 5 = .ok (.aload_n 0, 1) := by decide +kernel
theorem dX12_doTree_6 : decode cX12_doTree 6 = .ok (.getfield 33, 3) := by decide +kernel
theorem dX12_doTree_9 : decode cX12_doTree 9 = .ok (.iconst 3, 1) := by decide +kernel
theorem dX12_doTree_10 : decode cX12_doTree 10 = .ok (.iaload, 1) := by decide +kernel
theorem dX12_doTree_11 : decode cX12_doTree 11 = .ok (.istore_n 3, 1) := by decide +kernel
theorem dX12_doTree_12 : decode cX12_doTree 12 = .ok (.iconst 0, 1) := by decide +kernel
theorem dX12_doTree_13 : decode cX12_doTree 13 = .ok (.istore 4, 2) := by decide +kernel
theorem dX12_doTree_15 : decode cX12_doTree 15 = .ok (.iconst 0, 1) := by decide +kernel
theorem dX12_doTree_16 : decode cX12_doTree 16 = .ok (.istore 5, 2) := by decide +kernel
theorem dX12_doTree_18 : decode cX12_doTree 18 = .ok (.iconst 0, 1) := by decide +kernel
theorem dX12_doTree_19 : decode cX12_doTree 19 = .ok (.istore 6, 2) := by decide +kernel
theorem dX12_doTree_21 : decode cX12_doTree 21 = .ok (.iload 6, 2) := by decide +kernel
theorem dX12_doTree_23 : decode cX12_doTree 23 = .ok (.aload_n 0, 1) := by decide +kernel
theorem dX12_doTree_24 : decode cX12_doTree 24 = .ok (.getfield 274, 3) := by decide +kernel
theorem dX12_doTree_27 : decode cX12_doTree 27 = .ok (.if_icmp .ge 29, 3) := by decide +kernel
theorem dX12_doTree_30 : decode cX12_doTree 30 = .ok (.iload 5, 2) := by decide +kernel
theorem dX12_doTree_32 : decode cX12_doTree 32 = .ok (.aload_n 0, 1) := by decide +kernel
theorem dX12_doTree_33 : decode cX12_doTree 33 = .ok (.getfield 44, 3) := by decide +kernel
theorem dX12_doTree_36 : decode cX12_doTree 36 = .ok (.iload 6, 2) := by decide +kernel
theorem dX12_doTree_38 : decode cX12_doTree 38 = .ok (.iaload, 1) := by decide +kernel
theorem dX12_doTree_39 : decode cX12_doTree 39 = .ok (.ifCond .ne 7, 3) := by decide +kernel
theorem dX12_doTree_42 : decode cX12_doTree 42 = .ok (.iconst 1, 1) := by decide +kernel
theorem dX12_doTree_43 : decode cX12_doTree 43 = .ok (.goto 4, 3) := by decide +kernel
theorem dX12_doTree_46 : decode cX12_doTree 46 = .ok (.iconst 0, 1) := by decide +kernel
theorem dX12_doTree_47 : decode cX12_doTree 47 = .ok (.iadd, 1) := by decide +kernel
theorem dX12_doTree_48 : decode cX12_doTree 48 = .ok (.istore 5, 2) := by decide +kernel
theorem dX12_doTree_50 : decode cX12_doTree 50 = .ok (.iinc 6 1, 3) := by decide +kernel
theorem dX12_doTree_53 : decode cX12_doTree 53 = .ok (.goto (-32), 3) := by decide +kernel
theorem dX12_doTree_56 : decode cX12_doTree 56 = .ok (.aload_n 0, 1) := by decide +kernel
theorem dX12_doTree_57 : decode cX12_doTree 57 = .ok (.getfield 274, 3) := by decide +kernel
theorem dX12_doTree_60 : decode cX12_doTree 60 = .ok (.iconst 1, 1) := by decide +kernel
theorem dX12_doTree_61 : decode cX12_doTree 61 = .ok (.isub, 1) := by decide +kernel
theorem dX12_doTree_62 : decode cX12_doTree 62 = .ok (.istore 6, 2) := by decide +kernel
theorem dX12_doTree_64 : decode cX12_doTree 64 = .ok (.iload 6, 2) := by decide +kernel
theorem dX12_doTree_66 : decode cX12_doTree 66 = .ok (.ifCond .lt 316, 3) := by decide +kernel
theorem dX12_doTree_69 : decode cX12_doTree 69 = .ok (.aload_n 0, 1) := by decide +kernel
theorem dX12_doTree_70 : decode cX12_doTree 70 = .ok (.getfield 44, 3) := by decide +kernel
theorem dX12_doTree_73 : decode cX12_doTree 73 = .ok (.iload 6, 2) := by decide +kernel
theorem dX12_doTree_75 : decode cX12_doTree 75 = .ok (.iaload, 1) := by decide +kernel
theorem dX12_doTree_76 : decode cX12_doTree 76 = .ok (.ifCond .ne 56, 3) := by decide +kernel
theorem dX12_doTree_79 : decode cX12_doTree 79 = .ok (.iinc 5 (-1), 3) := by decide +kernel
theorem dX12_doTree_82 : decode cX12_doTree 82 = .ok (.iconst 0, 1) := by decide +kernel
theorem dX12_doTree_83 : decode cX12_doTree 83 = .ok (.istore 7, 2) := by decide +kernel
theorem dX12_doTree_85 : decode cX12_doTree 85 = .ok (.iload 7, 2) := by decide +kernel
theorem dX12_doTree_87 : decode cX12_doTree 87 = .ok (.iload_n 3, 1) := by decide +kernel
theorem dX12_doTree_88 : decode cX12_doTree 88 = .ok (.if_icmp .ge 38, 3) := by decide +kernel
theorem dX12_doTree_91 : decode cX12_doTree 91 = .ok (.aload_n 0, 1) := by decide +kernel
theorem dX12_doTree_92 : decode cX12_doTree 92 = .ok (.getfield 199, 3) := by decide +kernel
theorem dX12_doTree_95 : decode cX12_doTree 95 = .ok (.iconst 3, 1) := by decide +kernel
theorem dX12_doTree_96 : decode cX12_doTree 96 = .ok (.iload 4, 2) := by decide +kernel
theorem dX12_doTree_98 : decode cX12_doTree 98 = .ok (.imul, 1) := by decide +kernel
theorem dX12_doTree_99 : decode cX12_doTree 99 = .ok (.iload 7, 2) := by decide +kernel
theorem dX12_doTree_101 : decode cX12_doTree 101 = .ok (.iadd, 1) := by decide +kernel
theorem dX12_doTree_102 : decode cX12_doTree 102 = .ok (.iload 7, 2) := by decide +kernel
theorem dX12_doTree_104 : decode cX12_doTree 104 = .ok (.aload_n 0, 1) := by decide +kernel
theorem dX12_doTree_105 : decode cX12_doTree 105 = .ok (.getfield 205, 3) := by decide +kernel
theorem dX12_doTree_108 : decode cX12_doTree 108 = .ok (.iload 5, 2) := by decide +kernel
theorem dX12_doTree_110 : decode cX12_doTree 110 = .ok (.iaload, 1) := by decide +kernel
theorem dX12_doTree_111 : decode cX12_doTree 111 = .ok (.if_icmp .ne 7, 3) := by decide +kernel
theorem dX12_doTree_114 : decode cX12_doTree 114 = .ok (.iconst 1, 1) := by decide +kernel
theorem dX12_doTree_115 : decode cX12_doTree 115 = .ok (.goto 4, 3) := by decide +kernel
theorem dX12_doTree_118 : decode cX12_doTree 118 = .ok (.iconst 0, 1) := by decide +kernel
theorem dX12_doTree_119 : decode cX12_doTree 119 = .ok (.iastore, 1) := by decide +kernel
theorem dX12_doTree_120 : decode cX12_doTree 120 = .ok (.iinc 7 1, 3) := by decide +kernel
theorem dX12_doTree_123 : decode cX12_doTree 123 = .ok (.goto (-38), 3) := by decide +kernel
theorem dX12_doTree_126 : decode cX12_doTree 126 = .ok (.iinc 4 1, 3) := by decide +kernel
theorem dX12_doTree_129 : decode cX12_doTree 129 = .ok (.goto 247, 3) := by decide +kernel
theorem dX12_doTree_132 : decode cX12_doTree 132 = .ok (.aload_n 0, 1) := by decide +kernel
theorem dX12_doTree_133 : decode cX12_doTree 133 = .ok (.getfield 44, 3) := by decide +kernel
theorem dX12_doTree_136 : decode cX12_doTree 136 = .ok (.iload 6, 2) := by decide +kernel
theorem dX12_doTree_138 : decode cX12_doTree 138 = .ok (.iaload, 1) := by decide +kernel
theorem dX12_doTree_139 : decode cX12_doTree 139 = .ok (.iconst 1, 1) := by decide +kernel
theorem dX12_doTree_140 : decode cX12_doTree 140 = .ok (.isub, 1) := by decide +kernel
theorem dX12_doTree_141 : decode cX12_doTree 141 = .ok (.istore 7, 2) := by decide +kernel
theorem dX12_doTree_143 : decode cX12_doTree 143 = .ok (.aload_n 0, 1) := by decide +kernel
theorem dX12_doTree_144 : decode cX12_doTree 144 = .ok (.getfield 33, 3) := by decide +kernel
theorem dX12_doTree_147 : decode cX12_doTree 147 = .ok (.iconst 4, 1) := by decide +kernel
theorem dX12_doTree_148 : decode cX12_doTree 148 = .ok (.iload 7, 2) := by decide +kernel
theorem dX12_doTree_150 : decode cX12_doTree 150 = .ok (.iadd, 1) := by decide +kernel
theorem dX12_doTree_151 : decode cX12_doTree 151 = .ok (.iaload, 1) := by decide +kernel
theorem dX12_doTree_152 : decode cX12_doTree 152 = .ok (.istore 8, 2) := by decide +kernel
theorem dX12_doTree_154 : decode cX12_doTree 154 = .ok (.aload_n 0, 1) := by decide +kernel
theorem dX12_doTree_155 : decode cX12_doTree 155 = .ok (.iload 7, 2) := by decide +kernel
theorem dX12_doTree_157 : decode cX12_doTree 157 = .ok (.invokevirtual 567, 3) := by decide +kernel
theorem dX12_doTree_160 : decode cX12_doTree 160 = .ok (.iload_n 3, 1) := by decide +kernel
theorem dX12_doTree_161 : decode cX12_doTree 161 = .ok (.idiv, 1) := by decide +kernel
theorem dX12_doTree_162 : decode cX12_doTree 162 = .ok (.istore 9, 2) := by decide +kernel
theorem dX12_doTree_164 : decode cX12_doTree 164 = .ok (.iconst 0, 1) := by decide +kernel
theorem dX12_doTree_165 : decode cX12_doTree 165 = .ok (.istore 10, 2) := by decide +kernel
theorem dX12_doTree_167 : decode cX12_doTree 167 = .ok (.iload 10, 2) := by decide +kernel
theorem dX12_doTree_169 : decode cX12_doTree 169 = .ok (.iload_n 3, 1) := by decide +kernel
theorem dX12_doTree_170 : decode cX12_doTree 170 = .ok (.if_icmp .ge 17, 3) := by decide +kernel
theorem dX12_doTree_173 : decode cX12_doTree 173 = .ok (.aload_n 0, 1) := by decide +kernel
theorem dX12_doTree_174 : decode cX12_doTree 174 = .ok (.getfield 202, 3) := by decide +kernel
theorem dX12_doTree_177 : decode cX12_doTree 177 = .ok (.iload 10, 2) := by decide +kernel
theorem dX12_doTree_179 : decode cX12_doTree 179 = .ok (.iconst 0, 1) := by decide +kernel
theorem dX12_doTree_180 : decode cX12_doTree 180 = .ok (.iastore, 1) := by decide +kernel
theorem dX12_doTree_181 : decode cX12_doTree 181 = .ok (.iinc 10 1, 3) := by decide +kernel
theorem dX12_doTree_184 : decode cX12_doTree 184 = .ok (.goto (-17), 3) := by decide +kernel
theorem dX12_doTree_187 : decode cX12_doTree 187 = .ok (.iconst 0, 1) := by decide +kernel
theorem dX12_doTree_188 : decode cX12_doTree 188 = .ok (.istore 10, 2) := by decide +kernel
theorem dX12_doTree_190 : decode cX12_doTree 190 = .ok (.iload 10, 2) := by decide +kernel
theorem dX12_doTree_192 : decode cX12_doTree 192 = .ok (.iload 9, 2) := by decide +kernel
theorem dX12_doTree_194 : decode cX12_doTree 194 = .ok (.if_icmp .ge 138, 3) := by decide +kernel
theorem dX12_doTree_197 : decode cX12_doTree 197 = .ok (.iconst 1, 1) := by decide +kernel
theorem dX12_doTree_198 : decode cX12_doTree 198 = .ok (.istore 11, 2) := by decide +kernel
theorem dX12_doTree_200 : decode cX12_doTree 200 = .ok (.iload 10, 2) := by decide +kernel
theorem dX12_doTree_202 : decode cX12_doTree 202 = .ok (.istore 12, 2) := by decide +kernel
theorem dX12_doTree_204 : decode cX12_doTree 204 = .ok (.iload 8, 2) := by decide +kernel
theorem dX12_doTree_206 : decode cX12_doTree 206 = .ok (.iconst 1, 1) := by decide +kernel
theorem dX12_doTree_207 : decode cX12_doTree 207 = .ok (.isub, 1) := by decide +kernel
theorem dX12_doTree_208 : decode cX12_doTree 208 = .ok (.istore 13, 2) := by decide +kernel
theorem dX12_doTree_210 : decode cX12_doTree 210 = .ok (.iload 13, 2) := by decide +kernel
theorem dX12_doTree_212 : decode cX12_doTree 212 = .ok (.ifCond .lt 46, 3) := by decide +kernel
theorem dX12_doTree_215 : decode cX12_doTree 215 = .ok (.iload 11, 2) := by decide +kernel
theorem dX12_doTree_217 : decode cX12_doTree 217 = .ok (.aload_n 0, 1) := by decide +kernel
theorem dX12_doTree_218 : decode cX12_doTree 218 = .ok (.getfield 199, 3) := by decide +kernel
theorem dX12_doTree_221 : decode cX12_doTree 221 = .ok (.iconst 3, 1) := by decide +kernel
theorem dX12_doTree_222 : decode cX12_doTree 222 = .ok (.iload 4, 2) := by decide +kernel
theorem dX12_doTree_224 : decode cX12_doTree 224 = .ok (.iconst 1, 1) := by decide +kernel
theorem dX12_doTree_225 : decode cX12_doTree 225 = .ok (.isub, 1) := by decide +kernel
theorem dX12_doTree_226 : decode cX12_doTree 226 = .ok (.iload 13, 2) := by decide +kernel
theorem dX12_doTree_228 : decode cX12_doTree 228 = .ok (.isub, 1) := by decide +kernel
theorem dX12_doTree_229 : decode cX12_doTree 229 = .ok (.imul, 1) := by decide +kernel
theorem dX12_doTree_230 : decode cX12_doTree 230 = .ok (.iload 12, 2) := by decide +kernel
theorem dX12_doTree_232 : decode cX12_doTree 232 = .ok (.iload_n 3, 1) := by decide +kernel
theorem dX12_doTree_233 : decode cX12_doTree 233 = .ok (.irem, 1) := by decide +kernel
theorem dX12_doTree_234 : decode cX12_doTree 234 = .ok (.iadd, 1) := by decide +kernel
theorem dX12_doTree_235 : decode cX12_doTree 235 = .ok (.iaload, 1) := by decide +kernel
theorem dX12_doTree_236 : decode cX12_doTree 236 = .ok (.imul, 1) := by decide +kernel
theorem dX12_doTree_237 : decode cX12_doTree 237 = .ok (.aload_n 0, 1) := by decide +kernel
theorem dX12_doTree_238 : decode cX12_doTree 238 = .ok (.getfield 33, 3) := by decide +kernel
theorem dX12_doTree_241 : decode cX12_doTree 241 = .ok (.iconst 0, 1) := by decide +kernel
theorem dX12_doTree_242 : decode cX12_doTree 242 = .ok (.iaload, 1) := by decide +kernel
theorem dX12_doTree_243 : decode cX12_doTree 243 = .ok (.irem, 1) := by decide +kernel
theorem dX12_doTree_244 : decode cX12_doTree 244 = .ok (.istore 11, 2) := by decide +kernel
theorem dX12_doTree_246 : decode cX12_doTree 246 = .ok (.iload 12, 2) := by decide +kernel
theorem dX12_doTree_248 : decode cX12_doTree 248 = .ok (.iload_n 3, 1) := by decide +kernel
theorem dX12_doTree_249 : decode cX12_doTree 249 = .ok (.idiv, 1) := by decide +kernel
theorem dX12_doTree_250 : decode cX12_doTree 250 = .ok (.istore 12, 2) := by decide +kernel
theorem dX12_doTree_252 : decode cX12_doTree 252 = .ok (.iinc 13 (-1), 3) := by decide +kernel
theorem dX12_doTree_255 : decode cX12_doTree 255 = .ok (.goto (-45), 3) := by decide +kernel
theorem dX12_doTree_258 : decode cX12_doTree 258 = .ok (.iconst 0, 1) := by decide +kernel
theorem dX12_doTree_259 : decode cX12_doTree 259 = .ok (.istore 13, 2) := by decide +kernel
theorem dX12_doTree_261 : decode cX12_doTree 261 = .ok (.iload 13, 2) := by decide +kernel
theorem dX12_doTree_263 : decode cX12_doTree 263 = .ok (.iload_n 3, 1) := by decide +kernel
theorem dX12_doTree_264 : decode cX12_doTree 264 = .ok (.if_icmp .ge 62, 3) := by decide +kernel
theorem dX12_doTree_267 : decode cX12_doTree 267 = .ok (.iload 11, 2) := by decide +kernel
theorem dX12_doTree_269 : decode cX12_doTree 269 = .ok (.ifCond .le 57, 3) := by decide +kernel
theorem dX12_doTree_272 : decode cX12_doTree 272 = .ok (.aload_n 0, 1) := by decide +kernel
theorem dX12_doTree_273 : decode cX12_doTree 273 = .ok (.getfield 202, 3) := by decide +kernel
theorem dX12_doTree_276 : decode cX12_doTree 276 = .ok (.iload 13, 2) := by decide +kernel
theorem dX12_doTree_278 : decode cX12_doTree 278 = .ok (.aload_n 0, 1) := by decide +kernel
theorem dX12_doTree_279 : decode cX12_doTree 279 = .ok (.getfield 202, 3) := by decide +kernel
theorem dX12_doTree_282 : decode cX12_doTree 282 = .ok (.iload 13, 2) := by decide +kernel
theorem dX12_doTree_284 : decode cX12_doTree 284 = .ok (.iaload, 1) := by decide +kernel
theorem dX12_doTree_285 : decode cX12_doTree 285 = .ok (.iload 11, 2) := by decide +kernel
theorem dX12_doTree_287 : decode cX12_doTree 287 = .ok (.aload_n 0, 1) := by decide +kernel
theorem dX12_doTree_288 : decode cX12_doTree 288 = .ok (.getfield 33, 3) := by decide +kernel
theorem dX12_doTree_291 : decode cX12_doTree 291 = .ok (.sipush 444, 3) := by decide +kernel
theorem dX12_doTree_294 : decode cX12_doTree 294 = .ok (.sipush 243, 3) := by decide +kernel
theorem dX12_doTree_297 : decode cX12_doTree 297 = .ok (.iload 7, 2) := by decide +kernel
theorem dX12_doTree_299 : decode cX12_doTree 299 = .ok (.imul, 1) := by decide +kernel
theorem dX12_doTree_300 : decode cX12_doTree 300 = .ok (.iadd, 1) := by decide +kernel
theorem dX12_doTree_301 : decode cX12_doTree 301 = .ok (.iload_n 3, 1) := by decide +kernel
theorem dX12_doTree_302 : decode cX12_doTree 302 = .ok (.iload 10, 2) := by decide +kernel
theorem dX12_doTree_304 : decode cX12_doTree 304 = .ok (.imul, 1) := by decide +kernel
theorem dX12_doTree_305 : decode cX12_doTree 305 = .ok (.iadd, 1) := by decide +kernel
theorem dX12_doTree_306 : decode cX12_doTree 306 = .ok (.iload 13, 2) := by decide +kernel
theorem dX12_doTree_308 : decode cX12_doTree 308 = .ok (.iadd, 1) := by decide +kernel
theorem dX12_doTree_309 : decode cX12_doTree 309 = .ok (.iaload, 1) := by decide +kernel
theorem dX12_doTree_310 : decode cX12_doTree 310 = .ok (.imul, 1) := by decide +kernel
theorem dX12_doTree_311 : decode cX12_doTree 311 = .ok (.iadd, 1) := by decide +kernel
theorem dX12_doTree_312 : decode cX12_doTree 312 = .ok (.aload_n 0, 1) := by decide +kernel
theorem dX12_doTree_313 : decode cX12_doTree 313 = .ok (.getfield 33, 3) := by decide +kernel
theorem dX12_doTree_316 : decode cX12_doTree 316 = .ok (.iconst 0, 1) := by decide +kernel
theorem dX12_doTree_317 : decode cX12_doTree 317 = .ok (.iaload, 1) := by decide +kernel
theorem dX12_doTree_318 : decode cX12_doTree 318 = .ok (.irem, 1) := by decide +kernel
theorem dX12_doTree_319 : decode cX12_doTree 319 = .ok (.iastore, 1) := by decide +kernel
theorem dX12_doTree_320 : decode cX12_doTree 320 = .ok (.iinc 13 1, 3) := by decide +kernel
theorem dX12_doTree_323 : decode cX12_doTree 323 = .ok (.goto (-62), 3) := by decide +kernel
theorem dX12_doTree_326 : decode cX12_doTree 326 = .ok (.iinc 10 1, 3) := by decide +kernel
theorem dX12_doTree_329 : decode cX12_doTree 329 = .ok (.goto (-139), 3) := by decide +kernel
theorem dX12_doTree_332 : decode cX12_doTree 332 = .ok (.iload 4, 2) := by decide +kernel
theorem dX12_doTree_334 : decode cX12_doTree 334 = .ok (.iload 8, 2) := by decide +kernel
theorem dX12_doTree_336 : decode cX12_doTree 336 = .ok (.isub, 1) := by decide +kernel
theorem dX12_doTree_337 : decode cX12_doTree 337 = .ok (.istore 4, 2) := by decide +kernel
theorem dX12_doTree_339 : decode cX12_doTree 339 = .ok (.iconst 0, 1) := by decide +kernel
theorem dX12_doTree_340 : decode cX12_doTree 340 = .ok (.istore 10, 2) := by decide +kernel
theorem dX12_doTree_342 : decode cX12_doTree 342 = .ok (.iload 10, 2) := by decide +kernel
theorem dX12_doTree_344 : decode cX12_doTree 344 = .ok (.iload_n 3, 1) := by decide +kernel
theorem dX12_doTree_345 : decode cX12_doTree 345 = .ok (.if_icmp .ge 28, 3) := by decide +kernel
theorem dX12_doTree_348 : decode cX12_doTree 348 = .ok (.aload_n 0, 1) := by decide +kernel
theorem dX12_doTree_349 : decode cX12_doTree 349 = .ok (.getfield 199, 3) := by decide +kernel
theorem dX12_doTree_352 : decode cX12_doTree 352 = .ok (.iconst 3, 1) := by decide +kernel
theorem dX12_doTree_353 : decode cX12_doTree 353 = .ok (.iload 4, 2) := by decide +kernel
theorem dX12_doTree_355 : decode cX12_doTree 355 = .ok (.imul, 1) := by decide +kernel
theorem dX12_doTree_356 : decode cX12_doTree 356 = .ok (.iload 10, 2) := by decide +kernel
theorem dX12_doTree_358 : decode cX12_doTree 358 = .ok (.iadd, 1) := by decide +kernel
theorem dX12_doTree_359 : decode cX12_doTree 359 = .ok (.aload_n 0, 1) := by decide +kernel
theorem dX12_doTree_360 : decode cX12_doTree 360 = .ok (.getfield 202, 3) := by decide +kernel
theorem dX12_doTree_363 : decode cX12_doTree 363 = .ok (.iload 10, 2) := by decide +kernel
theorem dX12_doTree_365 : decode cX12_doTree 365 = .ok (.iaload, 1) := by decide +kernel
theorem dX12_doTree_366 : decode cX12_doTree 366 = .ok (.iastore, 1) := by decide +kernel
theorem dX12_doTree_367 : decode cX12_doTree 367 = .ok (.iinc 10 1, 3) := by decide +kernel
theorem dX12_doTree_370 : decode cX12_doTree 370 = .ok (.goto (-28), 3) := by decide +kernel
theorem dX12_doTree_373 : decode cX12_doTree 373 = .ok (.iinc 4 1, 3) := by decide +kernel
theorem dX12_doTree_376 : decode cX12_doTree 376 = .ok (.iinc 6 (-1), 3) := by decide +kernel
theorem dX12_doTree_379 : decode cX12_doTree 379 = .ok (.goto (-315), 3) := by decide +kernel
theorem dX12_doTree_382 : decode cX12_doTree 382 = .ok (.iconst 0, 1) := by decide +kernel
theorem dX12_doTree_383 : decode cX12_doTree 383 = .ok (.istore 6, 2) := by decide +kernel
theorem dX12_doTree_385 : decode cX12_doTree 385 = .ok (.iload 6, 2) := by decide +kernel
theorem dX12_doTree_387 : decode cX12_doTree 387 = .ok (.iload_n 3, 1) := by decide +kernel
theorem dX12_doTree_388 : decode cX12_doTree 388 = .ok (.if_icmp .ge 40, 3) := by decide +kernel
theorem dX12_doTree_391 : decode cX12_doTree 391 = .ok (.aload_n 0, 1) := by decide +kernel
theorem dX12_doTree_392 : decode cX12_doTree 392 = .ok (.getfield 211, 3) := by decide +kernel
theorem dX12_doTree_395 : decode cX12_doTree 395 = .ok (.iload 6, 2) := by decide +kernel
theorem dX12_doTree_397 : decode cX12_doTree 397 = .ok (.aload_n 0, 1) := by decide +kernel
theorem dX12_doTree_398 : decode cX12_doTree 398 = .ok (.getfield 211, 3) := by decide +kernel
theorem dX12_doTree_401 : decode cX12_doTree 401 = .ok (.iload 6, 2) := by decide +kernel
theorem dX12_doTree_403 : decode cX12_doTree 403 = .ok (.iaload, 1) := by decide +kernel
theorem dX12_doTree_404 : decode cX12_doTree 404 = .ok (.iload_n 2, 1) := by decide +kernel
theorem dX12_doTree_405 : decode cX12_doTree 405 = .ok (.aload_n 0, 1) := by decide +kernel
theorem dX12_doTree_406 : decode cX12_doTree 406 = .ok (.getfield 199, 3) := by decide +kernel
theorem dX12_doTree_409 : decode cX12_doTree 409 = .ok (.iload 6, 2) := by decide +kernel
theorem dX12_doTree_411 : decode cX12_doTree 411 = .ok (.iaload, 1) := by decide +kernel
theorem dX12_doTree_412 : decode cX12_doTree 412 = .ok (.imul, 1) := by decide +kernel
theorem dX12_doTree_413 : decode cX12_doTree 413 = .ok (.iadd, 1) := by decide +kernel
theorem dX12_doTree_414 : decode cX12_doTree 414 = .ok (.aload_n 0, 1) := by decide +kernel
theorem dX12_doTree_415 : decode cX12_doTree 415 = .ok (.getfield 33, 3) := by decide +kernel
theorem dX12_doTree_418 : decode cX12_doTree 418 = .ok (.iconst 0, 1) := by decide +kernel
theorem dX12_doTree_419 : decode cX12_doTree 419 = .ok (.iaload, 1) := by decide +kernel
theorem dX12_doTree_420 : decode cX12_doTree 420 = .ok (.irem, 1) := by decide +kernel
theorem dX12_doTree_421 : decode cX12_doTree 421 = .ok (.iastore, 1) := by decide +kernel
theorem dX12_doTree_422 : decode cX12_doTree 422 = .ok (.iinc 6 1, 3) := by decide +kernel
theorem dX12_doTree_425 : decode cX12_doTree 425 = .ok (.goto (-40), 3) := by decide +kernel
theorem dX12_doTree_428 : decode cX12_doTree 428 = .ok (.return_, 1) := by decide +kernel
theorem dX12_holds_0 : decode cX12_holds 0 = .ok (.aload_n 0, 1) := by decide +kernel
theorem dX12_holds_1 : decode cX12_holds 1 = .ok (.iconst 0, 1) := by decide +kernel
theorem dX12_holds_2 : decode cX12_holds 2 = .ok (.putfield 1, 3) := by decide +kernel
theorem dX12_holds_5 : decode cX12_holds 5 = .ok (.aload_n 0, 1) := by decide +kernel
theorem dX12_holds_6 : decode cX12_holds 6 = .ok (.iload_n 1, 1) := by decide +kernel
theorem dX12_holds_7 : decode cX12_holds 7 = .ok (.invokevirtual 469, 3) := by decide +kernel
theorem dX12_holds_10 : decode cX12_holds 10 = .ok (.ifCond .ne 5, 3) := by decide +kernel
theorem dX12_holds_13 : decode cX12_holds 13 = .ok (.iconst (-1), 1) := by decide +kernel
theorem dX12_holds_14 : decode cX12_holds 14 = .ok (.ireturn, 1) := by decide +kernel
theorem dX12_holds_15 : decode cX12_holds 15 = .ok (.aload_n 0, 1) := by decide +kernel
theorem dX12_holds_16 : decode cX12_holds 16 = .ok (.getfield 33, 3) := by decide +kernel
theorem dX12_holds_19 : decode cX12_holds 19 = .ok (.iconst 3, 1) := by decide +kernel
theorem dX12_holds_20 : decode cX12_holds 20 = .ok (.iaload, 1) := by decide +kernel
theorem dX12_holds_21 : decode cX12_holds 21 = .ok (.istore_n 2, 1) := by decide +kernel
theorem dX12_holds_22 : decode cX12_holds 22 = .ok (.iconst 1, 1) := by decide +kernel
theorem dX12_holds_23 : decode cX12_holds 23 = .ok (.istore_n 3, 1) := by decide +kernel
theorem dX12_holds_24 : decode cX12_holds 24 = .ok (.iconst 0, 1) := by decide +kernel
theorem dX12_holds_25 : decode cX12_holds 25 = .ok (.istore 4, 2) := by decide +kernel
theorem dX12_holds_27 : decode cX12_holds 27 = .ok (.iload 4, 2) := by decide +kernel
theorem dX12_holds_29 : decode cX12_holds 29 = .ok (.aload_n 0, 1) := by decide +kernel
theorem dX12_holds_30 : decode cX12_holds 30 = .ok (.getfield 33, 3) := by decide +kernel
theorem dX12_holds_33 : decode cX12_holds 33 = .ok (.bipush 7, 2) := by decide +kernel
theorem dX12_holds_35 : decode cX12_holds 35 = .ok (.iload_n 1, 1) := by decide +kernel
theorem dX12_holds_36 : decode cX12_holds 36 = .ok (.iadd, 1) := by decide +kernel
theorem dX12_holds_37 : decode cX12_holds 37 = .ok (.iaload, 1) := by decide +kernel
theorem dX12_holds_38 : decode cX12_holds 38 = .ok (.if_icmp .ge 13, 3) := by decide +kernel
theorem dX12_holds_41 : decode cX12_holds 41 = .ok (.iload_n 3, 1) := by decide +kernel
theorem dX12_holds_42 : decode cX12_holds 42 = .ok (.iload_n 2, 1) := by decide +kernel
theorem dX12_holds_43 : decode cX12_holds 43 = .ok (.imul, 1) := by decide +kernel
theorem dX12_holds_44 : decode cX12_holds 44 = .ok (.istore_n 3, 1) := by decide +kernel
theorem dX12_holds_45 : decode cX12_holds 45 = .ok (.iinc 4 1, 3) := by decide +kernel
theorem dX12_holds_48 : decode cX12_holds 48 = .ok (.goto (-21), 3) := by decide +kernel
theorem dX12_holds_51 : decode cX12_holds 51 = .ok (.iconst 0, 1) := by decide +kernel
theorem dX12_holds_52 : decode cX12_holds 52 = .ok (.istore 4, 2) := by decide +kernel
theorem dX12_holds_54 : decode cX12_holds 54 = .ok (.iload 4, 2) := by decide +kernel
theorem dX12_holds_56 : decode cX12_holds 56 = .ok (.iload_n 3, 1) := by decide +kernel
theorem dX12_holds_57 : decode cX12_holds 57 = .ok (.if_icmp .ge 161, 3) := by decide +kernel
theorem dX12_holds_60 : decode cX12_holds 60 = .ok (.iload 4, 2) := by decide +kernel
theorem dX12_holds_62 : decode cX12_holds 62 = .ok (.istore 5, 2) := by decide +kernel
theorem dX12_holds_64 : decode cX12_holds 64 = .ok (.iconst 0, 1) := by decide +kernel
theorem dX12_holds_65 : decode cX12_holds 65 = .ok (.istore 6, 2) := by decide +kernel
theorem dX12_holds_67 : decode cX12_holds 67 = .ok (.iload 6, 2) := by decide +kernel
theorem dX12_holds_69 : decode cX12_holds 69 = .ok (.aload_n 0, 1) := by decide +kernel
theorem dX12_holds_70 : decode cX12_holds 70 = .ok (.getfield 33, 3) := by decide +kernel
theorem dX12_holds_73 : decode cX12_holds 73 = .ok (.bipush 7, 2) := by decide +kernel
theorem dX12_holds_75 : decode cX12_holds 75 = .ok (.iload_n 1, 1) := by decide +kernel
theorem dX12_holds_76 : decode cX12_holds 76 = .ok (.iadd, 1) := by decide +kernel
theorem dX12_holds_77 : decode cX12_holds 77 = .ok (.iaload, 1) := by decide +kernel
theorem dX12_holds_78 : decode cX12_holds 78 = .ok (.if_icmp .ge 26, 3) := by decide +kernel
theorem dX12_holds_81 : decode cX12_holds 81 = .ok (.aload_n 0, 1) := by decide +kernel
theorem dX12_holds_82 : decode cX12_holds 82 = .ok (.getfield 205, 3) := by decide +kernel
theorem dX12_holds_85 : decode cX12_holds 85 = .ok (.iload 6, 2) := by decide +kernel
theorem dX12_holds_87 : decode cX12_holds 87 = .ok (.iload 5, 2) := by decide +kernel
theorem dX12_holds_89 : decode cX12_holds 89 = .ok (.iload_n 2, 1) := by decide +kernel
theorem dX12_holds_90 : decode cX12_holds 90 = .ok (.irem, 1) := by decide +kernel
theorem dX12_holds_91 : decode cX12_holds 91 = .ok (.iastore, 1) := by decide +kernel
theorem dX12_holds_92 : decode cX12_holds 92 = .ok (.iload 5, 2) := by decide +kernel
theorem dX12_holds_94 : decode cX12_holds 94 = .ok (.iload_n 2, 1) := by decide +kernel
theorem dX12_holds_95 : decode cX12_holds 95 = .ok (.idiv, 1) := by decide +kernel
theorem dX12_holds_96 : decode cX12_holds 96 = .ok (.istore 5, 2) := by decide +kernel
theorem dX12_holds_98 : decode cX12_holds 98 = .ok (.iinc 6 1, 3) := by decide +kernel
theorem dX12_holds_101 : decode cX12_holds 101 = .ok (.goto (-34), 3) := by decide +kernel
theorem dX12_holds_104 : decode cX12_holds 104 = .ok (.iconst 0, 1) := by decide +kernel
theorem dX12_holds_105 : decode cX12_holds 105 = .ok (.istore 6, 2) := by decide +kernel
theorem dX12_holds_107 : decode cX12_holds 107 = .ok (.iload 6, 2) := by decide +kernel
theorem dX12_holds_109 : decode cX12_holds 109 = .ok (.iconst 3, 1) := by decide +kernel
theorem dX12_holds_110 : decode cX12_holds 110 = .ok (.if_icmp .ge 17, 3) := by decide +kernel
theorem dX12_holds_113 : decode cX12_holds 113 = .ok (.aload_n 0, 1) := by decide +kernel
theorem dX12_holds_114 : decode cX12_holds 114 = .ok (.getfield 211, 3) := by decide +kernel
theorem dX12_holds_117 : decode cX12_holds 117 = .ok (.iload 6, 2) := by decide +kernel
theorem dX12_holds_119 : decode cX12_holds 119 = .ok (.iconst 0, 1) := by decide +kernel
theorem dX12_holds_120 : decode cX12_holds 120 = .ok (.iastore, 1) := by decide +kernel
theorem dX12_holds_121 : decode cX12_holds 121 = .ok (.iinc 6 1, 3) := by decide +kernel
theorem dX12_holds_124 : decode cX12_holds 124 = .ok (.goto (-17), 3) := by decide +kernel
theorem dX12_holds_127 : decode cX12_holds 127 = .ok (.aload_n 0, 1) := by decide +kernel
theorem dX12_holds_128 : decode cX12_holds 128 = .ok (.getfield 33, 3) := by decide +kernel
theorem dX12_holds_131 : decode cX12_holds 131 = .ok (.bipush 25, 2) := by decide +kernel
theorem dX12_holds_133 : decode cX12_holds 133 = .ok (.iload_n 1, 1) := by decide +kernel
theorem dX12_holds_134 : decode cX12_holds 134 = .ok (.iadd, 1) := by decide +kernel
theorem dX12_holds_135 : decode cX12_holds 135 = .ok (.iaload, 1) := by decide +kernel
theorem dX12_holds_136 : decode cX12_holds 136 = .ok (.istore 6, 2) := by decide +kernel
theorem dX12_holds_138 : decode cX12_holds 138 = .ok (.iload 6, 2) := by decide +kernel
theorem dX12_holds_140 : decode cX12_holds 140 = .ok (.aload_n 0, 1) := by decide +kernel
theorem dX12_holds_141 : decode cX12_holds 141 = .ok (.getfield 33, 3) := by decide +kernel
theorem dX12_holds_144 : decode cX12_holds 144 = .ok (.bipush 25, 2) := by decide +kernel
theorem dX12_holds_146 : decode cX12_holds 146 = .ok (.iload_n 1, 1) := by decide +kernel
theorem dX12_holds_147 : decode cX12_holds 147 = .ok (.iadd, 1) := by decide +kernel
theorem dX12_holds_148 : decode cX12_holds 148 = .ok (.iconst 1, 1) := by decide +kernel
theorem dX12_holds_149 : decode cX12_holds 149 = .ok (.iadd, 1) := by decide +kernel
theorem dX12_holds_150 : decode cX12_holds 150 = .ok (.iaload, 1) := by decide +kernel
theorem dX12_holds_151 : decode cX12_holds 151 = .ok (.if_icmp .ge 34, 3) := by decide +kernel
theorem dX12_holds_154 : decode cX12_holds 154 = .ok (.aload_n 0, 1) := by decide +kernel
theorem dX12_holds_155 : decode cX12_holds 155 = .ok (.aload_n 0, 1) := by decide +kernel
theorem dX12_holds_156 : decode cX12_holds 156 = .ok (.getfield 33, 3) := by decide +kernel
theorem dX12_holds_159 : decode cX12_holds 159 = .ok (.bipush 44, 2) := by decide +kernel
theorem dX12_holds_161 : decode cX12_holds 161 = .ok (.iload 6, 2) := by decide +kernel
theorem dX12_holds_163 : decode cX12_holds 163 = .ok (.iadd, 1) := by decide +kernel
theorem dX12_holds_164 : decode cX12_holds 164 = .ok (.iaload, 1) := by decide +kernel
theorem dX12_holds_165 : decode cX12_holds 165 = .ok (.aload_n 0, 1) := by decide +kernel
theorem dX12_holds_166 : decode cX12_holds 166 = .ok (.getfield 33, 3) := by decide +kernel
theorem dX12_holds_169 : decode cX12_holds 169 = .ok (.sipush 244, 3) := by decide +kernel
theorem dX12_holds_172 : decode cX12_holds 172 = .ok (.iload 6, 2) := by decide +kernel
theorem dX12_holds_174 : decode cX12_holds 174 = .ok (.iadd, 1) := by decide +kernel
theorem dX12_holds_175 : decode cX12_holds 175 = .ok (.iaload, 1) := by decide +kernel
theorem dX12_holds_176 : decode cX12_holds 176 = .ok (.invokevirtual 573, 3) := by decide +kernel
theorem dX12_holds_179 : decode cX12_holds 179 = .ok (.iinc 6 1, 3) := by decide +kernel
theorem dX12_holds_182 : decode cX12_holds 182 = .ok (.goto (-44), 3) := by decide +kernel
theorem dX12_holds_185 : decode cX12_holds 185 = .ok (.iconst 0, 1) := by decide +kernel
theorem dX12_holds_186 : decode cX12_holds 186 = .ok (.istore 6, 2) := by decide +kernel
theorem dX12_holds_188 : decode cX12_holds 188 = .ok (.iload 6, 2) := by decide +kernel
theorem dX12_holds_190 : decode cX12_holds 190 = .ok (.iload_n 2, 1) := by decide +kernel
theorem dX12_holds_191 : decode cX12_holds 191 = .ok (.if_icmp .ge 21, 3) := by decide +kernel
theorem dX12_holds_194 : decode cX12_holds 194 = .ok (.aload_n 0, 1) := by decide +kernel
theorem dX12_holds_195 : decode cX12_holds 195 = .ok (.getfield 211, 3) := by decide +kernel
theorem dX12_holds_198 : decode cX12_holds 198 = .ok (.iload 6, 2) := by decide +kernel
theorem dX12_holds_200 : decode cX12_holds 200 = .ok (.iaload, 1) := by decide +kernel
theorem dX12_holds_201 : decode cX12_holds 201 = .ok (.ifCond .eq 5, 3) := by decide +kernel
theorem dX12_holds_204 : decode cX12_holds 204 = .ok (.iconst 0, 1) := by decide +kernel
theorem dX12_holds_205 : decode cX12_holds 205 = .ok (.ireturn, 1) := by decide +kernel
theorem dX12_holds_206 : decode cX12_holds 206 = .ok (.iinc 6 1, 3) := by decide +kernel
theorem dX12_holds_209 : decode cX12_holds 209 = .ok (.goto (-21), 3) := by decide +kernel
theorem dX12_holds_212 : decode cX12_holds 212 = .ok (.iinc 4 1, 3) := by decide +kernel
theorem dX12_holds_215 : decode cX12_holds 215 = .ok (.goto (-161), 3) := by decide +kernel
theorem dX12_holds_218 : decode cX12_holds 218 = .ok (.iconst 1, 1) := by decide +kernel
theorem dX12_holds_219 : decode cX12_holds 219 = .ok (.ireturn, 1) := by decide +kernel
theorem dX12_done_0 : decode cX12_done 0 = .ok (.aload_n 0, 1) := by decide +kernel
theorem dX12_done_1 : decode cX12_done 1 = .ok (.iconst 0, 1) := by decide +kernel
theorem dX12_done_2 : decode cX12_done 2 = .ok (.putfield 1, 3) := by decide +kernel
theorem dX12_done_5 : decode cX12_done 5 = .ok (.aload_n 0, 1) := by decide +kernel
theorem dX12_done_6 : decode cX12_done 6 = .ok (.sipush 940, 3) := by decide +kernel
theorem dX12_done_9 : decode cX12_done 9 = .ok (.invokevirtual 454, 3) := by decide +kernel
theorem dX12_done_12 : decode cX12_done 12 = .ok (.aload_n 0, 1) := by decide +kernel
theorem dX12_done_13 : decode cX12_done 13 = .ok (.getfield 18, 3) := by decide +kernel
theorem dX12_done_16 : decode cX12_done 16 = .ok (.aload_n 0, 1) := by decide +kernel
theorem dX12_done_17 : decode cX12_done 17 = .ok (.getfield 33, 3) := by decide +kernel
theorem dX12_done_20 : decode cX12_done 20 = .ok (.sipush 1173, 3) := by decide +kernel
theorem dX12_done_23 : decode cX12_done 23 = .ok (.iaload, 1) := by decide +kernel
theorem dX12_done_24 : decode cX12_done 24 = .ok (.if_icmp .ne 19, 3) := by decide +kernel
theorem dX12_done_27 : decode cX12_done 27 = .ok (.iload_n 1, 1) := by decide +kernel
theorem dX12_done_28 : decode cX12_done 28 = .ok (.iconst 0, 1) := by decide +kernel
theorem dX12_done_29 : decode cX12_done 29 = .ok (.aload_n 0, 1) := by decide +kernel
theorem dX12_done_30 : decode cX12_done 30 = .ok (.getfield 33, 3) := by decide +kernel
theorem dX12_done_33 : decode cX12_done 33 = .ok (.iconst 3, 1) := by decide +kernel
theorem dX12_done_34 : decode cX12_done 34 = .ok (.iaload, 1) := by decide +kernel
theorem dX12_done_35 : decode cX12_done 35 = .ok (.iconst 1, 1) := by decide +kernel
theorem dX12_done_36 : decode cX12_done 36 = .ok (.isub, 1) := by decide +kernel
theorem dX12_done_37 : decode cX12_done 37 = .ok (.invokestatic 451, 3) := by decide +kernel
theorem dX12_done_40 : decode cX12_done 40 = .ok (.ifCond .ne 5, 3) := by decide +kernel
theorem dX12_done_43 : decode cX12_done 43 = .ok (.iconst (-1), 1) := by decide +kernel
theorem dX12_done_44 : decode cX12_done 44 = .ok (.ireturn, 1) := by decide +kernel
theorem dX12_done_45 : decode cX12_done 45 = .ok (.iconst 0, 1) := by decide +kernel
theorem dX12_done_46 : decode cX12_done 46 = .ok (.istore_n 2, 1) := by decide +kernel
theorem dX12_done_47 : decode cX12_done 47 = .ok (.iload_n 2, 1) := by decide +kernel
theorem dX12_done_48 : decode cX12_done 48 = .ok (.aload_n 0, 1) := by decide +kernel
theorem dX12_done_49 : decode cX12_done 49 = .ok (.getfield 18, 3) := by decide +kernel
theorem dX12_done_52 : decode cX12_done 52 = .ok (.if_icmp .ge 37, 3) := by decide +kernel
theorem dX12_done_55 : decode cX12_done 55 = .ok (.aload_n 0, 1) := by decide +kernel
theorem dX12_done_56 : decode cX12_done 56 = .ok (.getfield 205, 3) := by decide +kernel
theorem dX12_done_59 : decode cX12_done 59 = .ok (.iload_n 2, 1) := by decide +kernel
theorem dX12_done_60 : decode cX12_done 60 = .ok (.aload_n 0, 1) := by decide +kernel
theorem dX12_done_61 : decode cX12_done 61 = .ok (.iload_n 2, 1) := by decide +kernel
theorem dX12_done_62 : decode cX12_done 62 = .ok (.invokevirtual 570, 3) := by decide +kernel
theorem dX12_done_65 : decode cX12_done 65 = .ok (.iastore, 1) := by decide +kernel
theorem dX12_done_66 : decode cX12_done 66 = .ok (.aload_n 0, 1) := by decide +kernel
theorem dX12_done_67 : decode cX12_done 67 = .ok (.getfield 205, 3) := by decide +kernel
theorem dX12_done_70 : decode cX12_done 70 = .ok (.iload_n 2, 1) := by decide +kernel
theorem dX12_done_71 : decode cX12_done 71 = .ok (.iaload, 1) := by decide +kernel
theorem dX12_done_72 : decode cX12_done 72 = .ok (.aload_n 0, 1) := by decide +kernel
theorem dX12_done_73 : decode cX12_done 73 = .ok (.getfield 33, 3) := by decide +kernel
theorem dX12_done_76 : decode cX12_done 76 = .ok (.iconst 3, 1) := by decide +kernel
theorem dX12_done_77 : decode cX12_done 77 = .ok (.iaload, 1) := by decide +kernel
theorem dX12_done_78 : decode cX12_done 78 = .ok (.if_icmp .lt 5, 3) := by decide +kernel
theorem dX12_done_81 : decode cX12_done 81 = .ok (.iconst (-1), 1) := by decide +kernel
theorem dX12_done_82 : decode cX12_done 82 = .ok (.ireturn, 1) := by decide +kernel
theorem dX12_done_83 : decode cX12_done 83 = .ok (.iinc 2 1, 3) := by decide +kernel
theorem dX12_done_86 : decode cX12_done 86 = .ok (.goto (-39), 3) := by decide +kernel
theorem dX12_done_89 : decode cX12_done 89 = .ok (.iconst 0, 1) := by decide +kernel
theorem dX12_done_90 : decode cX12_done 90 = .ok (.istore_n 2, 1) := by decide +kernel
theorem dX12_done_91 : decode cX12_done 91 = .ok (.iload_n 2, 1) := by decide +kernel
theorem dX12_done_92 : decode cX12_done 92 = .ok (.iconst 3, 1) := by decide +kernel
theorem dX12_done_93 : decode cX12_done 93 = .ok (.if_icmp .ge 16, 3) := by decide +kernel
theorem dX12_done_96 : decode cX12_done 96 = .ok (.aload_n 0, 1) := by decide +kernel
theorem dX12_done_97 : decode cX12_done 97 = .ok (.getfield 211, 3) := by decide +kernel
theorem dX12_done_100 : decode cX12_done 100 = .ok (.iload_n 2, 1) := by decide +kernel
theorem dX12_done_101 : decode cX12_done 101 = .ok (.iconst 0, 1) := by decide +kernel
theorem dX12_done_102 : decode cX12_done 102 = .ok (.iastore, 1) := by decide +kernel
theorem dX12_done_103 : decode cX12_done 103 = .ok (.iinc 2 1, 3) := by decide +kernel
theorem dX12_done_106 : decode cX12_done 106 = .ok (.goto (-15), 3) := by decide +kernel
theorem dX12_done_109 : decode cX12_done 109 = .ok (.iconst 0, 1) := by decide +kernel
theorem dX12_done_110 : decode cX12_done 110 = .ok (.istore_n 2, 1) := by decide +kernel
theorem dX12_done_111 : decode cX12_done 111 = .ok (.iload_n 2, 1) := by decide +kernel
theorem dX12_done_112 : decode cX12_done 112 = .ok (.aload_n 0, 1) := by decide +kernel
theorem dX12_done_113 : decode cX12_done 113 = .ok (.getfield 33, 3) := by decide +kernel
theorem dX12_done_116 : decode cX12_done 116 = .ok (.sipush 1174, 3) := by decide +kernel
theorem dX12_done_119 : decode cX12_done 119 = .ok (.iaload, 1) := by decide +kernel
theorem dX12_done_120 : decode cX12_done 120 = .ok (.if_icmp .ge 33, 3) := by decide +kernel
theorem dX12_done_123 : decode cX12_done 123 = .ok (.aload_n 0, 1) := by decide +kernel
theorem dX12_done_124 : decode cX12_done 124 = .ok (.aload_n 0, 1) := by decide +kernel
theorem dX12_done_125 : decode cX12_done 125 = .ok (.getfield 33, 3) := by decide +kernel
theorem dX12_done_128 : decode cX12_done 128 = .ok (.sipush 1175, 3) := by decide +kernel
theorem dX12_done_131 : decode cX12_done 131 = .ok (.iload_n 2, 1) := by decide +kernel
theorem dX12_done_132 : decode cX12_done 132 = .ok (.iadd, 1) := by decide +kernel
theorem dX12_done_133 : decode cX12_done 133 = .ok (.iaload, 1) := by decide +kernel
theorem dX12_done_134 : decode cX12_done 134 = .ok (.aload_n 0, 1) := by decide +kernel
theorem dX12_done_135 : decode cX12_done 135 = .ok (.getfield 33, 3) := by decide +kernel
theorem dX12_done_138 : decode cX12_done 138 = .ok (.sipush 2475, 3) := by decide +kernel
theorem dX12_done_141 : decode cX12_done 141 = .ok (.iload_n 2, 1) := by decide +kernel
theorem dX12_done_142 : decode cX12_done 142 = .ok (.iadd, 1) := by decide +kernel
theorem dX12_done_143 : decode cX12_done 143 = .ok (.iaload, 1) := by decide +kernel
theorem dX12_done_144 : decode cX12_done 144 = .ok (.invokevirtual 573, 3) := by decide +kernel
theorem dX12_done_147 : decode cX12_done 147 = .ok (.iinc 2 1, 3) := by decide +kernel
theorem dX12_done_150 : decode cX12_done 150 = .ok (.goto (-39), 3) := by decide +kernel
theorem dX12_done_153 : decode cX12_done 153 = .ok (.aload_n 0, 1) := by decide +kernel
theorem dX12_done_154 : decode cX12_done 154 = .ok (.getfield 211, 3) := by decide +kernel
theorem dX12_done_157 : decode cX12_done 157 = .ok (.iload_n 1, 1) := by decide +kernel
theorem dX12_done_158 : decode cX12_done 158 = .ok (.iaload, 1) := by decide +kernel
theorem dX12_done_159 : decode cX12_done 159 = .ok (.ireturn, 1) := by decide +kernel
theorem dX12_draw_0 : decode cX12_draw 0 = .ok (.aload_n 0, 1) := by decide +kernel
theorem dX12_draw_1 : decode cX12_draw 1 = .ok (.aload_n 0, 1) := by decide +kernel
theorem dX12_draw_2 : decode cX12_draw 2 = .ok (.getfield 576, 3) := by decide +kernel
theorem dX12_draw_5 : decode cX12_draw 5 = .ok (.ldc_w 579, 3) := by decide +kernel
theorem dX12_draw_8 : decode cX12_draw 8 = .ok (.imul, 1) := by decide +kernel
theorem dX12_draw_9 : decode cX12_draw 9 = .ok (.sipush 12345, 3) := by decide +kernel
theorem dX12_draw_12 : decode cX12_draw 12 = .ok (.iadd, 1) := by decide +kernel
theorem dX12_draw_13 : decode cX12_draw 13 = .ok (.putfield 576, 3) := by decide +kernel
theorem dX12_draw_16 : decode cX12_draw 16 = .ok (.aload_n 0, 1) := by decide +kernel
theorem dX12_draw_17 : decode cX12_draw 17 = .ok (.getfield 576, 3) := by decide +kernel
theorem dX12_draw_20 : decode cX12_draw 20 = .ok (.bipush 8, 2) := by decide +kernel
theorem dX12_draw_22 : decode cX12_draw 22 = .ok (.iushr, 1) := by decide +kernel
theorem dX12_draw_23 : decode cX12_draw 23 = .ok (.iload_n 1, 1) := by decide +kernel
theorem dX12_draw_24 : decode cX12_draw 24 = .ok (.irem, 1) := by decide +kernel
theorem dX12_draw_25 : decode cX12_draw 25 = .ok (.ireturn, 1) := by decide +kernel
theorem dX12_drawn_0 : decode cX12_drawn 0 = .ok (.aload_n 0, 1) := by decide +kernel
theorem dX12_drawn_1 : decode cX12_drawn 1 = .ok (.iconst 0, 1) := by decide +kernel
theorem dX12_drawn_2 : decode cX12_drawn 2 = .ok (.putfield 1, 3) := by decide +kernel
theorem dX12_drawn_5 : decode cX12_drawn 5 = .ok (.iload_n 1, 1) := by decide +kernel
theorem dX12_drawn_6 : decode cX12_drawn 6 = .ok (.iconst 1, 1) := by decide +kernel
theorem dX12_drawn_7 : decode cX12_drawn 7 = .ok (.bipush 7, 2) := by decide +kernel
theorem dX12_drawn_9 : decode cX12_drawn 9 = .ok (.invokestatic 451, 3) := by decide +kernel
theorem dX12_drawn_12 : decode cX12_drawn 12 = .ok (.ifCond .eq 21, 3) := by decide +kernel
theorem dX12_drawn_15 : decode cX12_drawn 15 = .ok (.aload_n 0, 1) := by decide +kernel
theorem dX12_drawn_16 : decode cX12_drawn 16 = .ok (.iconst 0, 1) := by decide +kernel
theorem dX12_drawn_17 : decode cX12_drawn 17 = .ok (.iload_n 1, 1) := by decide +kernel
theorem dX12_drawn_18 : decode cX12_drawn 18 = .ok (.invokevirtual 495, 3) := by decide +kernel
theorem dX12_drawn_21 : decode cX12_drawn 21 = .ok (.ifCond .ne 12, 3) := by decide +kernel
theorem dX12_drawn_24 : decode cX12_drawn 24 = .ok (.aload_n 0, 1) := by decide +kernel
theorem dX12_drawn_25 : decode cX12_drawn 25 = .ok (.getfield 62, 3) := by decide +kernel
theorem dX12_drawn_28 : decode cX12_drawn 28 = .ok (.iload_n 1, 1) := by decide +kernel
theorem dX12_drawn_29 : decode cX12_drawn 29 = .ok (.iaload, 1) := by decide +kernel
theorem dX12_drawn_30 : decode cX12_drawn 30 = .ok (.ifCond .ne 5, 3) := by decide +kernel
theorem dX12_drawn_33 : decode cX12_drawn 33 = .ok (.iconst (-1), 1) := by decide +kernel
theorem dX12_drawn_34 : decode cX12_drawn 34 = .ok (.ireturn, 1) := by decide +kernel
theorem dX12_drawn_35 : decode cX12_drawn 35 = .ok (.aload_n 0, 1) := by decide +kernel
theorem dX12_drawn_36 : decode cX12_drawn 36 = .ok (.iload_n 2, 1) := by decide +kernel
theorem dX12_drawn_37 : decode cX12_drawn 37 = .ok (.putfield 576, 3) := by decide +kernel
theorem dX12_drawn_40 : decode cX12_drawn 40 = .ok (.aload_n 0, 1) := by decide +kernel
theorem dX12_drawn_41 : decode cX12_drawn 41 = .ok (.aload_n 0, 1) := by decide +kernel
theorem dX12_drawn_42 : decode cX12_drawn 42 = .ok (.getfield 62, 3) := by decide +kernel
theorem dX12_drawn_45 : decode cX12_drawn 45 = .ok (.iload_n 1, 1) := by decide +kernel
theorem dX12_drawn_46 : decode cX12_drawn 46 = .ok (.iaload, 1) := by decide +kernel
theorem dX12_drawn_47 : decode cX12_drawn 47 = .ok (.invokevirtual 580, 3) := by decide +kernel
theorem dX12_drawn_50 : decode cX12_drawn 50 = .ok (.istore_n 3, 1) := by decide +kernel
theorem dX12_drawn_51 : decode cX12_drawn 51 = .ok (.aload_n 0, 1) := by decide +kernel
theorem dX12_drawn_52 : decode cX12_drawn 52 = .ok (.iload_n 1, 1) := by decide +kernel
theorem dX12_drawn_53 : decode cX12_drawn 53 = .ok (.invokevirtual 421, 3) := by decide +kernel
theorem dX12_drawn_56 : decode cX12_drawn 56 = .ok (.aload_n 0, 1) := by decide +kernel
theorem dX12_drawn_57 : decode cX12_drawn 57 = .ok (.aload_n 0, 1) := by decide +kernel
theorem dX12_drawn_58 : decode cX12_drawn 58 = .ok (.getfield 74, 3) := by decide +kernel
theorem dX12_drawn_61 : decode cX12_drawn 61 = .ok (.aload_n 0, 1) := by decide +kernel
theorem dX12_drawn_62 : decode cX12_drawn 62 = .ok (.getfield 65, 3) := by decide +kernel
theorem dX12_drawn_65 : decode cX12_drawn 65 = .ok (.iload_n 1, 1) := by decide +kernel
theorem dX12_drawn_66 : decode cX12_drawn 66 = .ok (.iaload, 1) := by decide +kernel
theorem dX12_drawn_67 : decode cX12_drawn 67 = .ok (.iload_n 3, 1) := by decide +kernel
theorem dX12_drawn_68 : decode cX12_drawn 68 = .ok (.iadd, 1) := by decide +kernel
theorem dX12_drawn_69 : decode cX12_drawn 69 = .ok (.iaload, 1) := by decide +kernel
theorem dX12_drawn_70 : decode cX12_drawn 70 = .ok (.iconst 1, 1) := by decide +kernel
theorem dX12_drawn_71 : decode cX12_drawn 71 = .ok (.iconst 0, 1) := by decide +kernel
theorem dX12_drawn_72 : decode cX12_drawn 72 = .ok (.aload_n 0, 1) := by decide +kernel
theorem dX12_drawn_73 : decode cX12_drawn 73 = .ok (.getfield 33, 3) := by decide +kernel
theorem dX12_drawn_76 : decode cX12_drawn 76 = .ok (.iconst 0, 1) := by decide +kernel
theorem dX12_drawn_77 : decode cX12_drawn 77 = .ok (.iaload, 1) := by decide +kernel
theorem dX12_drawn_78 : decode cX12_drawn 78 = .ok (.invokevirtual 430, 3) := by decide +kernel
theorem dX12_drawn_81 : decode cX12_drawn 81 = .ok (.aload_n 0, 1) := by decide +kernel
theorem dX12_drawn_82 : decode cX12_drawn 82 = .ok (.invokevirtual 480, 3) := by decide +kernel
theorem dX12_drawn_85 : decode cX12_drawn 85 = .ok (.ireturn, 1) := by decide +kernel
theorem dX12_image_0 : decode cX12_image 0 = .ok (.aload_n 0, 1) := by decide +kernel
theorem dX12_image_1 : decode cX12_image 1 = .ok (.iconst 0, 1) := by decide +kernel
theorem dX12_image_2 : decode cX12_image 2 = .ok (.putfield 1, 3) := by decide +kernel
theorem dX12_image_5 : decode cX12_image 5 = .ok (.iload_n 1, 1) := by decide +kernel
theorem dX12_image_6 : decode cX12_image 6 = .ok (.iconst 0, 1) := by decide +kernel
theorem dX12_image_7 : decode cX12_image 7 = .ok (.iconst 1, 1) := by decide +kernel
theorem dX12_image_8 : decode cX12_image 8 = .ok (.invokestatic 451, 3) := by decide +kernel
theorem dX12_image_11 : decode cX12_image 11 = .ok (.ifCond .ne 5, 3) := by decide +kernel
theorem dX12_image_14 : decode cX12_image 14 = .ok (.iconst 0, 1) := by decide +kernel
theorem dX12_image_15 : decode cX12_image 15 = .ok (.ireturn, 1) := by decide +kernel
theorem dX12_image_16 : decode cX12_image 16 = .ok (.iconst 0, 1) := by decide +kernel
theorem dX12_image_17 : decode cX12_image 17 = .ok (.istore_n 2, 1) := by decide +kernel
theorem dX12_image_18 : decode cX12_image 18 = .ok (.iload_n 2, 1) := by decide +kernel
theorem dX12_image_19 : decode cX12_image 19 = .ok (.sipush 3775, 3) := by decide +kernel
theorem dX12_image_22 : decode cX12_image 22 = .ok (.if_icmp .ge 27, 3) := by decide +kernel
theorem dX12_image_25 : decode cX12_image 25 = .ok (.aload_n 0, 1) := by decide +kernel
theorem dX12_image_26 : decode cX12_image 26 = .ok (.getfield 214, 3) := by decide +kernel
theorem dX12_image_29 : decode cX12_image 29 = .ok (.sipush 3775, 3) := by decide +kernel
theorem dX12_image_32 : decode cX12_image 32 = .ok (.iload_n 1, 1) := by decide +kernel
theorem dX12_image_33 : decode cX12_image 33 = .ok (.imul, 1) := by decide +kernel
theorem dX12_image_34 : decode cX12_image 34 = .ok (.iload_n 2, 1) := by decide +kernel
theorem dX12_image_35 : decode cX12_image 35 = .ok (.iadd, 1) := by decide +kernel
theorem dX12_image_36 : decode cX12_image 36 = .ok (.aload_n 0, 1) := by decide +kernel
theorem dX12_image_37 : decode cX12_image 37 = .ok (.getfield 33, 3) := by decide +kernel
theorem dX12_image_40 : decode cX12_image 40 = .ok (.iload_n 2, 1) := by decide +kernel
theorem dX12_image_41 : decode cX12_image 41 = .ok (.iaload, 1) := by decide +kernel
theorem dX12_image_42 : decode cX12_image 42 = .ok (.iastore, 1) := by decide +kernel
theorem dX12_image_43 : decode cX12_image 43 = .ok (.iinc 2 1, 3) := by decide +kernel
theorem dX12_image_46 : decode cX12_image 46 = .ok (.goto (-28), 3) := by decide +kernel
theorem dX12_image_49 : decode cX12_image 49 = .ok (.iconst 0, 1) := by decide +kernel
theorem dX12_image_50 : decode cX12_image 50 = .ok (.istore_n 2, 1) := by decide +kernel
theorem dX12_image_51 : decode cX12_image 51 = .ok (.iload_n 2, 1) := by decide +kernel
theorem dX12_image_52 : decode cX12_image 52 = .ok (.iconst 3, 1) := by decide +kernel
theorem dX12_image_53 : decode cX12_image 53 = .ok (.if_icmp .ge 25, 3) := by decide +kernel
theorem dX12_image_56 : decode cX12_image 56 = .ok (.aload_n 0, 1) := by decide +kernel
theorem dX12_image_57 : decode cX12_image 57 = .ok (.getfield 217, 3) := by decide +kernel
theorem dX12_image_60 : decode cX12_image 60 = .ok (.iconst 3, 1) := by decide +kernel
theorem dX12_image_61 : decode cX12_image 61 = .ok (.iload_n 1, 1) := by decide +kernel
theorem dX12_image_62 : decode cX12_image 62 = .ok (.imul, 1) := by decide +kernel
theorem dX12_image_63 : decode cX12_image 63 = .ok (.iload_n 2, 1) := by decide +kernel
theorem dX12_image_64 : decode cX12_image 64 = .ok (.iadd, 1) := by decide +kernel
theorem dX12_image_65 : decode cX12_image 65 = .ok (.aload_n 0, 1) := by decide +kernel
theorem dX12_image_66 : decode cX12_image 66 = .ok (.getfield 40, 3) := by decide +kernel
theorem dX12_image_69 : decode cX12_image 69 = .ok (.iload_n 2, 1) := by decide +kernel
theorem dX12_image_70 : decode cX12_image 70 = .ok (.laload, 1) := by decide +kernel
theorem dX12_image_71 : decode cX12_image 71 = .ok (.lastore, 1) := by decide +kernel
theorem dX12_image_72 : decode cX12_image 72 = .ok (.iinc 2 1, 3) := by decide +kernel
theorem dX12_image_75 : decode cX12_image 75 = .ok (.goto (-24), 3) := by decide +kernel
theorem dX12_image_78 : decode cX12_image 78 = .ok (.aload_n 0, 1) := by decide +kernel
theorem dX12_image_79 : decode cX12_image 79 = .ok (.getfield 220, 3) := by decide +kernel
theorem dX12_image_82 : decode cX12_image 82 = .ok (.iload_n 1, 1) := by decide +kernel
theorem dX12_image_83 : decode cX12_image 83 = .ok (.iconst 1, 1) := by decide +kernel
theorem dX12_image_84 : decode cX12_image 84 = .ok (.bastore, 1) := by decide +kernel
theorem dX12_image_85 : decode cX12_image 85 = .ok (.iconst 1, 1) := by decide +kernel
theorem dX12_image_86 : decode cX12_image 86 = .ok (.ireturn, 1) := by decide +kernel
theorem dX12_restore_0 : decode cX12_restore 0 = .ok (.aload_n 0, 1) := by decide +kernel
theorem dX12_restore_1 : decode cX12_restore 1 = .ok (.iconst 0, 1) := by decide +kernel
theorem dX12_restore_2 : decode cX12_restore 2 = .ok (.putfield 1, 3) := by decide +kernel
theorem dX12_restore_5 : decode cX12_restore 5 = .ok (.iload_n 1, 1) := by decide +kernel
theorem dX12_restore_6 : decode cX12_restore 6 = .ok (.iconst 0, 1) := by decide +kernel
theorem dX12_restore_7 : decode cX12_restore 7 = .ok (.iconst 1, 1) := by decide +kernel
theorem dX12_restore_8 : decode cX12_restore 8 = .ok (.invokestatic 451, 3) := by decide +kernel
theorem dX12_restore_11 : decode cX12_restore 11 = .ok (.ifCond .eq 12, 3) := by decide +kernel
theorem dX12_restore_14 : decode cX12_restore 14 = .ok (.aload_n 0, 1) := by decide +kernel
theorem dX12_restore_15 : decode cX12_restore 15 = .ok (.getfield 220, 3) := by decide +kernel
theorem dX12_restore_18 : decode cX12_restore 18 = .ok (.iload_n 1, 1) := by decide +kernel
theorem dX12_restore_19 : decode cX12_restore 19 = .ok (.baload, 1) := by decide +kernel
theorem dX12_restore_20 : decode cX12_restore 20 = .ok (.ifCond .ne 5, 3) := by decide +kernel
theorem dX12_restore_23 : decode cX12_restore 23 = .ok (.iconst 0, 1) := by decide +kernel
theorem dX12_restore_24 : decode cX12_restore 24 = .ok (.ireturn, 1) := by decide +kernel
theorem dX12_restore_25 : decode cX12_restore 25 = .ok (.iconst 0, 1) := by decide +kernel
theorem dX12_restore_26 : decode cX12_restore 26 = .ok (.istore_n 2, 1) := by decide +kernel
theorem dX12_restore_27 : decode cX12_restore 27 = .ok (.iload_n 2, 1) := by decide +kernel
theorem dX12_restore_28 : decode cX12_restore 28 = .ok (.sipush 3775, 3) := by decide +kernel
theorem dX12_restore_31 : decode cX12_restore 31 = .ok (.if_icmp .ge 27, 3) := by decide +kernel
theorem dX12_restore_34 : decode cX12_restore 34 = .ok (.aload_n 0, 1) := by decide +kernel
theorem dX12_restore_35 : decode cX12_restore 35 = .ok (.getfield 33, 3) := by decide +kernel
theorem dX12_restore_38 : decode cX12_restore 38 = .ok (.iload_n 2, 1) := by decide +kernel
theorem dX12_restore_39 : decode cX12_restore 39 = .ok (.aload_n 0, 1) := by decide +kernel
theorem dX12_restore_40 : decode cX12_restore 40 = .ok (.getfield 214, 3) := by decide +kernel
theorem dX12_restore_43 : decode cX12_restore 43 = .ok (.sipush 3775, 3) := by decide +kernel
theorem dX12_restore_46 : decode cX12_restore 46 = .ok (.iload_n 1, 1) := by decide +kernel
theorem dX12_restore_47 : decode cX12_restore 47 = .ok (.imul, 1) := by decide +kernel
theorem dX12_restore_48 : decode cX12_restore 48 = .ok (.iload_n 2, 1) := by decide +kernel
theorem dX12_restore_49 : decode cX12_restore 49 = .ok (.iadd, 1) := by decide +kernel
theorem dX12_restore_50 : decode cX12_restore 50 = .ok (.iaload, 1) := by decide +kernel
theorem dX12_restore_51 : decode cX12_restore 51 = .ok (.iastore, 1) := by decide +kernel
theorem dX12_restore_52 : decode cX12_restore 52 = .ok (.iinc 2 1, 3) := by decide +kernel
theorem dX12_restore_55 : decode cX12_restore 55 = .ok (.goto (-28), 3) := by decide +kernel
theorem dX12_restore_58 : decode cX12_restore 58 = .ok (.iconst 0, 1) := by decide +kernel
theorem dX12_restore_59 : decode cX12_restore 59 = .ok (.istore_n 2, 1) := by decide +kernel
theorem dX12_restore_60 : decode cX12_restore 60 = .ok (.iload_n 2, 1) := by decide +kernel
theorem dX12_restore_61 : decode cX12_restore 61 = .ok (.iconst 3, 1) := by decide +kernel
theorem dX12_restore_62 : decode cX12_restore 62 = .ok (.if_icmp .ge 25, 3) := by decide +kernel
theorem dX12_restore_65 : decode cX12_restore 65 = .ok (.aload_n 0, 1) := by decide +kernel
theorem dX12_restore_66 : decode cX12_restore 66 = .ok (.getfield 40, 3) := by decide +kernel
theorem dX12_restore_69 : decode cX12_restore 69 = .ok (.iload_n 2, 1) := by decide +kernel
theorem dX12_restore_70 : decode cX12_restore 70 = .ok (.aload_n 0, 1) := by decide +kernel
theorem dX12_restore_71 : decode cX12_restore 71 = .ok (.getfield 217, 3) := by decide +kernel
theorem dX12_restore_74 : decode cX12_restore 74 = .ok (.iconst 3, 1) := by decide +kernel
theorem dX12_restore_75 : decode cX12_restore 75 = .ok (.iload_n 1, 1) := by decide +kernel
theorem dX12_restore_76 : decode cX12_restore 76 = .ok (.imul, 1) := by decide +kernel
theorem dX12_restore_77 : decode cX12_restore 77 = .ok (.iload_n 2, 1) := by decide +kernel
theorem dX12_restore_78 : decode cX12_restore 78 = .ok (.iadd, 1) := by decide +kernel
theorem dX12_restore_79 : decode cX12_restore 79 = .ok (.laload, 1) := by decide +kernel
theorem dX12_restore_80 : decode cX12_restore 80 = .ok (.lastore, 1) := by decide +kernel
theorem dX12_restore_81 : decode cX12_restore 81 = .ok (.iinc 2 1, 3) := by decide +kernel
theorem dX12_restore_84 : decode cX12_restore 84 = .ok (.goto (-24), 3) := by decide +kernel
theorem dX12_restore_87 : decode cX12_restore 87 = .ok (.aload_n 0, 1) := by decide +kernel
theorem dX12_restore_88 : decode cX12_restore 88 = .ok (.iconst (-1), 1) := by decide +kernel
theorem dX12_restore_89 : decode cX12_restore 89 = .ok (.putfield 91, 3) := by decide +kernel
theorem dX12_restore_92 : decode cX12_restore 92 = .ok (.aload_n 0, 1) := by decide +kernel
theorem dX12_restore_93 : decode cX12_restore 93 = .ok (.iconst 0, 1) := by decide +kernel
theorem dX12_restore_94 : decode cX12_restore 94 = .ok (.putfield 229, 3) := by decide +kernel
theorem dX12_restore_97 : decode cX12_restore 97 = .ok (.iconst 1, 1) := by decide +kernel
theorem dX12_restore_98 : decode cX12_restore 98 = .ok (.ireturn, 1) := by decide +kernel
theorem dX12_count_0 : decode cX12_count 0 = .ok (.aload_n 0, 1) := by decide +kernel
theorem dX12_count_1 : decode cX12_count 1 = .ok (.iconst 0, 1) := by decide +kernel
theorem dX12_count_2 : decode cX12_count 2 = .ok (.putfield 1, 3) := by decide +kernel
theorem dX12_count_5 : decode cX12_count 5 = .ok (.iload_n 1, 1) := by decide +kernel
theorem dX12_count_6 : decode cX12_count 6 = .ok (.tableswitch 80 0 5 #[38, 45, 52, 59, 68, 75], 38) := by decide +kernel
theorem dX12_count_44 : decode cX12_count 44 = .ok (.aload_n 0, 1) := by decide +kernel
theorem dX12_count_45 : decode cX12_count 45 = .ok (.getfield 33, 3) := by decide +kernel
theorem dX12_count_48 : decode cX12_count 48 = .ok (.iconst 0, 1) := by decide +kernel
theorem dX12_count_49 : decode cX12_count 49 = .ok (.iaload, 1) := by decide +kernel
theorem dX12_count_50 : decode cX12_count 50 = .ok (.ireturn, 1) := by decide +kernel
theorem dX12_count_51 : decode cX12_count 51 = .ok (.aload_n 0, 1) := by decide +kernel
theorem dX12_count_52 : decode cX12_count 52 = .ok (.getfield 33, 3) := by decide +kernel
theorem dX12_count_55 : decode cX12_count 55 = .ok (.iconst 1, 1) := by decide +kernel
theorem dX12_count_56 : decode cX12_count 56 = .ok (.iaload, 1) := by decide +kernel
theorem dX12_count_57 : decode cX12_count 57 = .ok (.ireturn, 1) := by decide +kernel
theorem dX12_count_58 : decode cX12_count 58 = .ok (.aload_n 0, 1) := by decide +kernel
theorem dX12_count_59 : decode cX12_count 59 = .ok (.getfield 33, 3) := by decide +kernel
theorem dX12_count_62 : decode cX12_count 62 = .ok (.iconst 2, 1) := by decide +kernel
theorem dX12_count_63 : decode cX12_count 63 = .ok (.iaload, 1) := by decide +kernel
theorem dX12_count_64 : decode cX12_count 64 = .ok (.ireturn, 1) := by decide +kernel
theorem dX12_count_65 : decode cX12_count 65 = .ok (.aload_n 0, 1) := by decide +kernel
theorem dX12_count_66 : decode cX12_count 66 = .ok (.getfield 33, 3) := by decide +kernel
theorem dX12_count_69 : decode cX12_count 69 = .ok (.sipush 1174, 3) := by decide +kernel
theorem dX12_count_72 : decode cX12_count 72 = .ok (.iaload, 1) := by decide +kernel
theorem dX12_count_73 : decode cX12_count 73 = .ok (.ireturn, 1) := by decide +kernel
theorem dX12_count_74 : decode cX12_count 74 = .ok (.aload_n 0, 1) := by decide +kernel
theorem dX12_count_75 : decode cX12_count 75 = .ok (.getfield 33, 3) := by decide +kernel
theorem dX12_count_78 : decode cX12_count 78 = .ok (.iconst 3, 1) := by decide +kernel
theorem dX12_count_79 : decode cX12_count 79 = .ok (.iaload, 1) := by decide +kernel
theorem dX12_count_80 : decode cX12_count 80 = .ok (.ireturn, 1) := by decide +kernel
theorem dX12_count_81 : decode cX12_count 81 = .ok (.aload_n 0, 1) := by decide +kernel
theorem dX12_count_82 : decode cX12_count 82 = .ok (.getfield 7, 3) := by decide +kernel
theorem dX12_count_85 : decode cX12_count 85 = .ok (.ireturn, 1) := by decide +kernel
theorem dX12_count_86 : decode cX12_count 86 = .ok (.iconst (-1), 1) := by decide +kernel
theorem dX12_count_87 : decode cX12_count 87 = .ok (.ireturn, 1) := by decide +kernel
