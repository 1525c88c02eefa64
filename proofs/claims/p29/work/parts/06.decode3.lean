theorem dL_release_10 : decode cL_release 10 = .ok (.goto 49, 3) := by decide +kernel
theorem dL_release_13 : decode cL_release 13 = .ok (.iload_n 3, 1) := by decide +kernel
theorem dL_release_14 : decode cL_release 14 = .ok (.iconst 1, 1) := by decide +kernel
theorem dL_release_15 : decode cL_release 15 = .ok (.if_icmp .ne 20, 3) := by decide +kernel
theorem dL_release_18 : decode cL_release 18 = .ok (.aload_n 0, 1) := by decide +kernel
theorem dL_release_19 : decode cL_release 19 = .ok (.iload_n 1, 1) := by decide +kernel
theorem dL_release_20 : decode cL_release 20 = .ok (.iload_n 2, 1) := by decide +kernel
theorem dL_release_21 : decode cL_release 21 = .ok (.invokevirtual 86, 3) := by decide +kernel
theorem dL_release_24 : decode cL_release 24 = .ok (.ifCond .eq 7, 3) := by decide +kernel
theorem dL_release_27 : decode cL_release 27 = .ok (.iconst 1, 1) := by decide +kernel
theorem dL_release_28 : decode cL_release 28 = .ok (.goto 31, 3) := by decide +kernel
theorem dL_release_31 : decode cL_release 31 = .ok (.iconst 0, 1) := by decide +kernel
theorem dL_release_32 : decode cL_release 32 = .ok (.goto 27, 3) := by decide +kernel
theorem dL_release_35 : decode cL_release 35 = .ok (.iload_n 3, 1) := by decide +kernel
theorem dL_release_36 : decode cL_release 36 = .ok (.iconst 2, 1) := by decide +kernel
theorem dL_release_37 : decode cL_release 37 = .ok (.if_icmp .ne 12, 3) := by decide +kernel
theorem dL_release_40 : decode cL_release 40 = .ok (.aload_n 0, 1) := by decide +kernel
theorem dL_release_41 : decode cL_release 41 = .ok (.iload_n 1, 1) := by decide +kernel
theorem dL_release_42 : decode cL_release 42 = .ok (.iload_n 2, 1) := by decide +kernel
theorem dL_release_43 : decode cL_release 43 = .ok (.invokevirtual 90, 3) := by decide +kernel
theorem dL_release_46 : decode cL_release 46 = .ok (.goto 13, 3) := by decide +kernel
theorem dL_release_49 : decode cL_release 49 = .ok (.aload_n 0, 1) := by decide +kernel
theorem dL_release_50 : decode cL_release 50 = .ok (.iload_n 1, 1) := by decide +kernel
theorem dL_release_51 : decode cL_release 51 = .ok (.iload_n 2, 1) := by decide +kernel
theorem dL_release_52 : decode cL_release 52 = .ok (.iload_n 3, 1) := by decide +kernel
theorem dL_release_53 : decode cL_release 53 = .ok (.bipush 10, 2) := by decide +kernel
theorem dL_release_55 : decode cL_release 55 = .ok (.isub, 1) := by decide +kernel
theorem dL_release_56 : decode cL_release 56 = .ok (.invokevirtual 93, 3) := by decide +kernel
theorem dL_release_59 : decode cL_release 59 = .ok (.ireturn, 1) := by decide +kernel
theorem dL_release_60 : decode cL_release 60 = .ok (.astore 4, 2) := by decide +kernel
theorem dL_release_62 : decode cL_release 62 = .ok (.sipush (-1001), 3) := by decide +kernel
theorem dL_release_65 : decode cL_release 65 = .ok (.ireturn, 1) := by decide +kernel
theorem dL_release_66 : decode cL_release 66 = .ok (.astore 4, 2) := by decide +kernel
theorem dL_release_68 : decode cL_release 68 = .ok (.sipush (-1002), 3) := by decide +kernel
theorem dL_release_71 : decode cL_release 71 = .ok (.ireturn, 1) := by decide +kernel
theorem dL_release_72 : decode cL_release 72 = .ok (.astore 4, 2) := by decide +kernel
theorem dL_release_74 : decode cL_release 74 = .ok (.sipush (-1003), 3) := by decide +kernel
theorem dL_release_77 : decode cL_release 77 = .ok (.ireturn, 1) := by decide +kernel
theorem dL_release_78 : decode cL_release 78 = .ok (.astore 4, 2) := by decide +kernel
theorem dL_release_80 : decode cL_release 80 = .ok (.sipush (-1004), 3) := by decide +kernel
theorem dL_release_83 : decode cL_release 83 = .ok (.ireturn, 1) := by decide +kernel
theorem dL_good_0 : decode cL_good 0 = .ok (.aload_n 0, 1) := by decide +kernel
theorem dL_good_1 : decode cL_good 1 = .ok (.invokevirtual 96, 3) := by decide +kernel
theorem dL_good_4 : decode cL_good 4 = .ok (.freturn, 1) := by decide +kernel
theorem dL_good_5 : decode cL_good 5 = .ok (.astore_n 1, 1) := by decide +kernel
theorem dL_good_6 : decode cL_good 6 = .ok (.ldc 102, 2) := by decide +kernel
theorem dL_good_8 : decode cL_good 8 = .ok (.freturn, 1) := by decide +kernel
theorem dL_packs_0 : decode cL_packs 0 = .ok (.iconst 0, 1) := by decide +kernel
theorem dL_packs_1 : decode cL_packs 1 = .ok (.istore_n 1, 1) := by decide +kernel
theorem dL_packs_2 : decode cL_packs 2 = .ok (.iload_n 1, 1) := by decide +kernel
theorem dL_packs_3 : decode cL_packs 3 = .ok (.bipush 6, 2) := by decide +kernel
theorem dL_packs_5 : decode cL_packs 5 = .ok (.if_icmp .ge 18, 3) := by decide +kernel
theorem dL_packs_8 : decode cL_packs 8 = .ok (.aload_n 0, 1) := by decide +kernel
theorem dL_packs_9 : decode cL_packs 9 = .ok (.iload_n 1, 1) := by decide +kernel
theorem dL_packs_10 : decode cL_packs 10 = .ok (.iconst 4, 1) := by decide +kernel
theorem dL_packs_11 : decode cL_packs 11 = .ok (.invokestatic 109, 3) := by decide +kernel
theorem dL_packs_14 : decode cL_packs 14 = .ok (.ifCond .lt 9, 3) := by decide +kernel
theorem dL_packs_17 : decode cL_packs 17 = .ok (.iinc 1 1, 3) := by decide +kernel
theorem dL_packs_20 : decode cL_packs 20 = .ok (.goto (-18), 3) := by decide +kernel
theorem dL_packs_23 : decode cL_packs 23 = .ok (.iload_n 1, 1) := by decide +kernel
theorem dL_packs_24 : decode cL_packs 24 = .ok (.ireturn, 1) := by decide +kernel
theorem dL_testMany_0 : decode cL_testMany 0 = .ok (.iconst 0, 1) := by decide +kernel
theorem dL_testMany_1 : decode cL_testMany 1 = .ok (.istore_n 1, 1) := by decide +kernel
theorem dL_testMany_2 : decode cL_testMany 2 = .ok (.iload_n 1, 1) := by decide +kernel
theorem dL_testMany_3 : decode cL_testMany 3 = .ok (.bipush 8, 2) := by decide +kernel
theorem dL_testMany_5 : decode cL_testMany 5 = .ok (.if_icmp .ge 18, 3) := by decide +kernel
theorem dL_testMany_8 : decode cL_testMany 8 = .ok (.aload_n 0, 1) := by decide +kernel
theorem dL_testMany_9 : decode cL_testMany 9 = .ok (.iload_n 1, 1) := by decide +kernel
theorem dL_testMany_10 : decode cL_testMany 10 = .ok (.iconst 0, 1) := by decide +kernel
theorem dL_testMany_11 : decode cL_testMany 11 = .ok (.invokestatic 115, 3) := by decide +kernel
theorem dL_testMany_14 : decode cL_testMany 14 = .ok (.ifCond .lt 9, 3) := by decide +kernel
theorem dL_testMany_17 : decode cL_testMany 17 = .ok (.iinc 1 1, 3) := by decide +kernel
theorem dL_testMany_20 : decode cL_testMany 20 = .ok (.goto (-18), 3) := by decide +kernel
theorem dL_testMany_23 : decode cL_testMany 23 = .ok (.iload_n 1, 1) := by decide +kernel
theorem dL_testMany_24 : decode cL_testMany 24 = .ok (.ireturn, 1) := by decide +kernel
theorem dL_sum_0 : decode cL_sum 0 = .ok (.aload_n 0, 1) := by decide +kernel
theorem dL_sum_1 : decode cL_sum 1 = .ok (.invokestatic 118, 3) := by decide +kernel
theorem dL_sum_4 : decode cL_sum 4 = .ok (.istore_n 1, 1) := by decide +kernel
theorem dL_sum_5 : decode cL_sum 5 = .ok (.aload_n 0, 1) := by decide +kernel
theorem dL_sum_6 : decode cL_sum 6 = .ok (.invokevirtual 122, 3) := by decide +kernel
theorem dL_sum_9 : decode cL_sum 9 = .ok (.i2l, 1) := by decide +kernel
theorem dL_sum_10 : decode cL_sum 10 = .ok (.ldc2_w 125, 3) := by decide +kernel
theorem dL_sum_13 : decode cL_sum 13 = .ok (.aload_n 0, 1) := by decide +kernel
theorem dL_sum_14 : decode cL_sum 14 = .ok (.invokestatic 127, 3) := by decide +kernel
theorem dL_sum_17 : decode cL_sum 17 = .ok (.i2l, 1) := by decide +kernel
theorem dL_sum_18 : decode cL_sum 18 = .ok (.lmul, 1) := by decide +kernel
theorem dL_sum_19 : decode cL_sum 19 = .ok (.ladd, 1) := by decide +kernel
theorem dL_sum_20 : decode cL_sum 20 = .ok (.ldc2_w 129, 3) := by decide +kernel
theorem dL_sum_23 : decode cL_sum 23 = .ok (.aload_n 0, 1) := by decide +kernel
theorem dL_sum_24 : decode cL_sum 24 = .ok (.invokestatic 131, 3) := by decide +kernel
theorem dL_sum_27 : decode cL_sum 27 = .ok (.invokestatic 135, 3) := by decide +kernel
theorem dL_sum_30 : decode cL_sum 30 = .ok (.i2l, 1) := by decide +kernel
theorem dL_sum_31 : decode cL_sum 31 = .ok (.lmul, 1) := by decide +kernel
theorem dL_sum_32 : decode cL_sum 32 = .ok (.ladd, 1) := by decide +kernel
theorem dL_sum_33 : decode cL_sum 33 = .ok (.lstore_n 2, 1) := by decide +kernel
theorem dL_sum_34 : decode cL_sum 34 = .ok (.iconst 0, 1) := by decide +kernel
theorem dL_sum_35 : decode cL_sum 35 = .ok (.istore 4, 2) := by decide +kernel
theorem dL_sum_37 : decode cL_sum 37 = .ok (.iload 4, 2) := by decide +kernel
theorem dL_sum_39 : decode cL_sum 39 = .ok (.iconst 3, 1) := by decide +kernel
theorem dL_sum_40 : decode cL_sum 40 = .ok (.if_icmp .ge 26, 3) := by decide +kernel
theorem dL_sum_43 : decode cL_sum 43 = .ok (.ldc2_w 125, 3) := by decide +kernel
theorem dL_sum_46 : decode cL_sum 46 = .ok (.lload_n 2, 1) := by decide +kernel
theorem dL_sum_47 : decode cL_sum 47 = .ok (.lmul, 1) := by decide +kernel
theorem dL_sum_48 : decode cL_sum 48 = .ok (.aload_n 0, 1) := by decide +kernel
theorem dL_sum_49 : decode cL_sum 49 = .ok (.bipush 98, 2) := by decide +kernel
theorem dL_sum_51 : decode cL_sum 51 = .ok (.iload 4, 2) := by decide +kernel
theorem dL_sum_53 : decode cL_sum 53 = .ok (.iconst 0, 1) := by decide +kernel
theorem dL_sum_54 : decode cL_sum 54 = .ok (.invokestatic 141, 3) := by decide +kernel
theorem dL_sum_57 : decode cL_sum 57 = .ok (.i2l, 1) := by decide +kernel
theorem dL_sum_58 : decode cL_sum 58 = .ok (.ladd, 1) := by decide +kernel
theorem dL_sum_59 : decode cL_sum 59 = .ok (.lstore_n 2, 1) := by decide +kernel
theorem dL_sum_60 : decode cL_sum 60 = .ok (.iinc 4 1, 3) := by decide +kernel
theorem dL_sum_63 : decode cL_sum 63 = .ok (.goto (-26), 3) := by decide +kernel
theorem dL_sum_66 : decode cL_sum 66 = .ok (.iconst 0, 1) := by decide +kernel
theorem dL_sum_67 : decode cL_sum 67 = .ok (.istore 4, 2) := by decide +kernel
theorem dL_sum_69 : decode cL_sum 69 = .ok (.iload 4, 2) := by decide +kernel
theorem dL_sum_71 : decode cL_sum 71 = .ok (.iload_n 1, 1) := by decide +kernel
theorem dL_sum_72 : decode cL_sum 72 = .ok (.if_icmp .ge 83, 3) := by decide +kernel
theorem dL_sum_75 : decode cL_sum 75 = .ok (.ldc2_w 125, 3) := by decide +kernel
theorem dL_sum_78 : decode cL_sum 78 = .ok (.lload_n 2, 1) := by decide +kernel
theorem dL_sum_79 : decode cL_sum 79 = .ok (.lmul, 1) := by decide +kernel
theorem dL_sum_80 : decode cL_sum 80 = .ok (.aload_n 0, 1) := by decide +kernel
theorem dL_sum_81 : decode cL_sum 81 = .ok (.iload 4, 2) := by decide +kernel
theorem dL_sum_83 : decode cL_sum 83 = .ok (.iconst 2, 1) := by decide +kernel
theorem dL_sum_84 : decode cL_sum 84 = .ok (.invokestatic 109, 3) := by decide +kernel
theorem dL_sum_87 : decode cL_sum 87 = .ok (.i2l, 1) := by decide +kernel
theorem dL_sum_88 : decode cL_sum 88 = .ok (.ladd, 1) := by decide +kernel
theorem dL_sum_89 : decode cL_sum 89 = .ok (.ldc2_w 145, 3) := by decide +kernel
theorem dL_sum_92 : decode cL_sum 92 = .ok (.aload_n 0, 1) := by decide +kernel
theorem dL_sum_93 : decode cL_sum 93 = .ok (.iload 4, 2) := by decide +kernel
theorem dL_sum_95 : decode cL_sum 95 = .ok (.iconst 3, 1) := by decide +kernel
theorem dL_sum_96 : decode cL_sum 96 = .ok (.invokestatic 109, 3) := by decide +kernel
theorem dL_sum_99 : decode cL_sum 99 = .ok (.i2l, 1) := by decide +kernel
theorem dL_sum_100 : decode cL_sum 100 = .ok (.lmul, 1) := by decide +kernel
theorem dL_sum_101 : decode cL_sum 101 = .ok (.ladd, 1) := by decide +kernel
theorem dL_sum_102 : decode cL_sum 102 = .ok (.ldc2_w 147, 3) := by decide +kernel
theorem dL_sum_105 : decode cL_sum 105 = .ok (.aload_n 0, 1) := by decide +kernel
theorem dL_sum_106 : decode cL_sum 106 = .ok (.iload 4, 2) := by decide +kernel
theorem dL_sum_108 : decode cL_sum 108 = .ok (.iconst 4, 1) := by decide +kernel
theorem dL_sum_109 : decode cL_sum 109 = .ok (.invokestatic 109, 3) := by decide +kernel
theorem dL_sum_112 : decode cL_sum 112 = .ok (.i2l, 1) := by decide +kernel
theorem dL_sum_113 : decode cL_sum 113 = .ok (.lmul, 1) := by decide +kernel
theorem dL_sum_114 : decode cL_sum 114 = .ok (.ladd, 1) := by decide +kernel
theorem dL_sum_115 : decode cL_sum 115 = .ok (.lstore_n 2, 1) := by decide +kernel
theorem dL_sum_116 : decode cL_sum 116 = .ok (.iconst 0, 1) := by decide +kernel
theorem dL_sum_117 : decode cL_sum 117 = .ok (.istore 5, 2) := by decide +kernel
theorem dL_sum_119 : decode cL_sum 119 = .ok (.iload 5, 2) := by decide +kernel
theorem dL_sum_121 : decode cL_sum 121 = .ok (.iload 4, 2) := by decide +kernel
theorem dL_sum_123 : decode cL_sum 123 = .ok (.if_icmp .ge 26, 3) := by decide +kernel
theorem dL_sum_126 : decode cL_sum 126 = .ok (.ldc2_w 125, 3) := by decide +kernel
theorem dL_sum_129 : decode cL_sum 129 = .ok (.lload_n 2, 1) := by decide +kernel
theorem dL_sum_130 : decode cL_sum 130 = .ok (.lmul, 1) := by decide +kernel
theorem dL_sum_131 : decode cL_sum 131 = .ok (.aload_n 0, 1) := by decide +kernel
theorem dL_sum_132 : decode cL_sum 132 = .ok (.iload 4, 2) := by decide +kernel
theorem dL_sum_134 : decode cL_sum 134 = .ok (.iload 5, 2) := by decide +kernel
theorem dL_sum_136 : decode cL_sum 136 = .ok (.iconst 0, 1) := by decide +kernel
theorem dL_sum_137 : decode cL_sum 137 = .ok (.invokestatic 149, 3) := by decide +kernel
theorem dL_sum_140 : decode cL_sum 140 = .ok (.i2l, 1) := by decide +kernel
theorem dL_sum_141 : decode cL_sum 141 = .ok (.ladd, 1) := by decide +kernel
theorem dL_sum_142 : decode cL_sum 142 = .ok (.lstore_n 2, 1) := by decide +kernel
theorem dL_sum_143 : decode cL_sum 143 = .ok (.iinc 5 1, 3) := by decide +kernel
theorem dL_sum_146 : decode cL_sum 146 = .ok (.goto (-27), 3) := by decide +kernel
theorem dL_sum_149 : decode cL_sum 149 = .ok (.iinc 4 1, 3) := by decide +kernel
theorem dL_sum_152 : decode cL_sum 152 = .ok (.goto (-83), 3) := by decide +kernel
theorem dL_sum_155 : decode cL_sum 155 = .ok (.iconst 0, 1) := by decide +kernel
theorem dL_sum_156 : decode cL_sum 156 = .ok (.istore 4, 2) := by decide +kernel
theorem dL_sum_158 : decode cL_sum 158 = .ok (.iload 4, 2) := by decide +kernel
theorem dL_sum_160 : decode cL_sum 160 = .ok (.bipush 8, 2) := by decide +kernel
theorem dL_sum_162 : decode cL_sum 162 = .ok (.if_icmp .ge 24, 3) := by decide +kernel
theorem dL_sum_165 : decode cL_sum 165 = .ok (.ldc2_w 125, 3) := by decide +kernel
theorem dL_sum_168 : decode cL_sum 168 = .ok (.lload_n 2, 1) := by decide +kernel
theorem dL_sum_169 : decode cL_sum 169 = .ok (.lmul, 1) := by decide +kernel
theorem dL_sum_170 : decode cL_sum 170 = .ok (.aload_n 0, 1) := by decide +kernel
theorem dL_sum_171 : decode cL_sum 171 = .ok (.iload 4, 2) := by decide +kernel
theorem dL_sum_173 : decode cL_sum 173 = .ok (.iconst 0, 1) := by decide +kernel
theorem dL_sum_174 : decode cL_sum 174 = .ok (.invokestatic 115, 3) := by decide +kernel
theorem dL_sum_177 : decode cL_sum 177 = .ok (.i2l, 1) := by decide +kernel
theorem dL_sum_178 : decode cL_sum 178 = .ok (.ladd, 1) := by decide +kernel
theorem dL_sum_179 : decode cL_sum 179 = .ok (.lstore_n 2, 1) := by decide +kernel
theorem dL_sum_180 : decode cL_sum 180 = .ok (.iinc 4 1, 3) := by decide +kernel
theorem dL_sum_183 : decode cL_sum 183 = .ok (.goto (-25), 3) := by decide +kernel
theorem dL_sum_186 : decode cL_sum 186 = .ok (.ldc2_w 125, 3) := by decide +kernel
theorem dL_sum_189 : decode cL_sum 189 = .ok (.lload_n 2, 1) := by decide +kernel
theorem dL_sum_190 : decode cL_sum 190 = .ok (.lmul, 1) := by decide +kernel
theorem dL_sum_191 : decode cL_sum 191 = .ok (.iload_n 1, 1) := by decide +kernel
theorem dL_sum_192 : decode cL_sum 192 = .ok (.i2l, 1) := by decide +kernel
theorem dL_sum_193 : decode cL_sum 193 = .ok (.ladd, 1) := by decide +kernel
theorem dL_sum_194 : decode cL_sum 194 = .ok (.lreturn, 1) := by decide +kernel
theorem dL_isSound_0 : decode cL_isSound 0 = .ok (.aload_n 0, 1) := by decide +kernel
theorem dL_isSound_1 : decode cL_isSound 1 = .ok (.invokestatic 118, 3) := by decide +kernel
theorem dL_isSound_4 : decode cL_isSound 4 = .ok (.istore_n 3, 1) := by decide +kernel
theorem dL_isSound_5 : decode cL_isSound 5 = .ok (.iconst 0, 1) := by decide +kernel
theorem dL_isSound_6 : decode cL_isSound 6 = .ok (.istore 4, 2) := by decide +kernel
theorem dL_isSound_8 : decode cL_isSound 8 = .ok (.iload 4, 2) := by decide +kernel
theorem dL_isSound_10 : decode cL_isSound 10 = .ok (.iload_n 3, 1) := by decide +kernel
theorem dL_isSound_11 : decode cL_isSound 11 = .ok (.if_icmp .ge 169, 3) := by decide +kernel
theorem dL_isSound_14 : decode cL_isSound 14 = .ok (.iconst 1, 1) := by decide +kernel
theorem dL_isSound_15 : decode cL_isSound 15 = .ok (.istore 5, 2) := by decide +kernel
theorem dL_isSound_17 : decode cL_isSound 17 = .ok (.iconst 0, 1) := by decide +kernel
theorem dL_isSound_18 : decode cL_isSound 18 = .ok (.istore 6, 2) := by decide +kernel
theorem dL_isSound_20 : decode cL_isSound 20 = .ok (.iload 6, 2) := by decide +kernel
theorem dL_isSound_22 : decode cL_isSound 22 = .ok (.iload_n 3, 1) := by decide +kernel
theorem dL_isSound_23 : decode cL_isSound 23 = .ok (.if_icmp .ge 111, 3) := by decide +kernel
theorem dL_isSound_26 : decode cL_isSound 26 = .ok (.aload_n 0, 1) := by decide +kernel
theorem dL_isSound_27 : decode cL_isSound 27 = .ok (.iload 4, 2) := by decide +kernel
theorem dL_isSound_29 : decode cL_isSound 29 = .ok (.iload 6, 2) := by decide +kernel
theorem dL_isSound_31 : decode cL_isSound 31 = .ok (.iconst 0, 1) := by decide +kernel
theorem dL_isSound_32 : decode cL_isSound 32 = .ok (.invokestatic 149, 3) := by decide +kernel
theorem dL_isSound_35 : decode cL_isSound 35 = .ok (.istore 7, 2) := by decide +kernel
theorem dL_isSound_37 : decode cL_isSound 37 = .ok (.iload 5, 2) := by decide +kernel
theorem dL_isSound_39 : decode cL_isSound 39 = .ok (.ifCond .eq 12, 3) := by decide +kernel
theorem dL_isSound_42 : decode cL_isSound 42 = .ok (.iload 7, 2) := by decide +kernel
theorem dL_isSound_44 : decode cL_isSound 44 = .ok (.ifCond .lt 7, 3) := by decide +kernel
theorem dL_isSound_47 : decode cL_isSound 47 = .ok (.iconst 1, 1) := by decide +kernel
theorem dL_isSound_48 : decode cL_isSound 48 = .ok (.goto 4, 3) := by decide +kernel
theorem dL_isSound_51 : decode cL_isSound 51 = .ok (.iconst 0, 1) := by decide +kernel
theorem dL_isSound_52 : decode cL_isSound 52 = .ok (.istore 5, 2) := by decide +kernel
theorem dL_isSound_54 : decode cL_isSound 54 = .ok (.iload 7, 2) := by decide +kernel
theorem dL_isSound_56 : decode cL_isSound 56 = .ok (.aload_n 0, 1) := by decide +kernel
theorem dL_isSound_57 : decode cL_isSound 57 = .ok (.iload 4, 2) := by decide +kernel
theorem dL_isSound_59 : decode cL_isSound 59 = .ok (.iload 6, 2) := by decide +kernel
theorem dL_isSound_61 : decode cL_isSound 61 = .ok (.iconst 1, 1) := by decide +kernel
theorem dL_isSound_62 : decode cL_isSound 62 = .ok (.invokestatic 149, 3) := by decide +kernel
theorem dL_isSound_65 : decode cL_isSound 65 = .ok (.if_icmp .ne 61, 3) := by decide +kernel
theorem dL_isSound_68 : decode cL_isSound 68 = .ok (.iload 6, 2) := by decide +kernel
theorem dL_isSound_70 : decode cL_isSound 70 = .ok (.iload 4, 2) := by decide +kernel
theorem dL_isSound_72 : decode cL_isSound 72 = .ok (.if_icmp .lt 8, 3) := by decide +kernel
theorem dL_isSound_75 : decode cL_isSound 75 = .ok (.iload 7, 2) := by decide +kernel
theorem dL_isSound_77 : decode cL_isSound 77 = .ok (.ifCond .gt 49, 3) := by decide +kernel
theorem dL_isSound_80 : decode cL_isSound 80 = .ok (.iload 7, 2) := by decide +kernel
theorem dL_isSound_82 : decode cL_isSound 82 = .ok (.ifCond .le 15, 3) := by decide +kernel
theorem dL_isSound_85 : decode cL_isSound 85 = .ok (.aload_n 0, 1) := by decide +kernel
theorem dL_isSound_86 : decode cL_isSound 86 = .ok (.iload 6, 2) := by decide +kernel
theorem dL_isSound_88 : decode cL_isSound 88 = .ok (.iload 7, 2) := by decide +kernel
theorem dL_isSound_90 : decode cL_isSound 90 = .ok (.iconst 1, 1) := by decide +kernel
theorem dL_isSound_91 : decode cL_isSound 91 = .ok (.invokestatic 152, 3) := by decide +kernel
theorem dL_isSound_94 : decode cL_isSound 94 = .ok (.ifCond .lt 32, 3) := by decide +kernel
theorem dL_isSound_97 : decode cL_isSound 97 = .ok (.iload 7, 2) := by decide +kernel
theorem dL_isSound_99 : decode cL_isSound 99 = .ok (.ifCond .lt 7, 3) := by decide +kernel
theorem dL_isSound_102 : decode cL_isSound 102 = .ok (.iconst 1, 1) := by decide +kernel
theorem dL_isSound_103 : decode cL_isSound 103 = .ok (.goto 4, 3) := by decide +kernel
theorem dL_isSound_106 : decode cL_isSound 106 = .ok (.iconst 0, 1) := by decide +kernel
theorem dL_isSound_107 : decode cL_isSound 107 = .ok (.aload_n 0, 1) := by decide +kernel
theorem dL_isSound_108 : decode cL_isSound 108 = .ok (.iload 4, 2) := by decide +kernel
theorem dL_isSound_110 : decode cL_isSound 110 = .ok (.iconst 0, 1) := by decide +kernel
theorem dL_isSound_111 : decode cL_isSound 111 = .ok (.iconst 0, 1) := by decide +kernel
theorem dL_isSound_112 : decode cL_isSound 112 = .ok (.invokestatic 149, 3) := by decide +kernel
theorem dL_isSound_115 : decode cL_isSound 115 = .ok (.ifCond .lt 7, 3) := by decide +kernel
theorem dL_isSound_118 : decode cL_isSound 118 = .ok (.iconst 1, 1) := by decide +kernel
theorem dL_isSound_119 : decode cL_isSound 119 = .ok (.goto 4, 3) := by decide +kernel
theorem dL_isSound_122 : decode cL_isSound 122 = .ok (.iconst 0, 1) := by decide +kernel
theorem dL_isSound_123 : decode cL_isSound 123 = .ok (.if_icmp .eq 5, 3) := by decide +kernel
theorem dL_isSound_126 : decode cL_isSound 126 = .ok (.iconst 0, 1) := by decide +kernel
theorem dL_isSound_127 : decode cL_isSound 127 = .ok (.ireturn, 1) := by decide +kernel
theorem dL_isSound_128 : decode cL_isSound 128 = .ok (.iinc 6 1, 3) := by decide +kernel
theorem dL_isSound_131 : decode cL_isSound 131 = .ok (.goto (-111), 3) := by decide +kernel
theorem dL_isSound_134 : decode cL_isSound 134 = .ok (.aload_n 0, 1) := by decide +kernel
theorem dL_isSound_135 : decode cL_isSound 135 = .ok (.iload 4, 2) := by decide +kernel
theorem dL_isSound_137 : decode cL_isSound 137 = .ok (.iconst 3, 1) := by decide +kernel
theorem dL_isSound_138 : decode cL_isSound 138 = .ok (.invokestatic 109, 3) := by decide +kernel
theorem dL_isSound_141 : decode cL_isSound 141 = .ok (.iconst 1, 1) := by decide +kernel
theorem dL_isSound_142 : decode cL_isSound 142 = .ok (.if_icmp .ne 8, 3) := by decide +kernel
theorem dL_isSound_145 : decode cL_isSound 145 = .ok (.iload 5, 2) := by decide +kernel
theorem dL_isSound_147 : decode cL_isSound 147 = .ok (.ifCond .eq 25, 3) := by decide +kernel
theorem dL_isSound_150 : decode cL_isSound 150 = .ok (.aload_n 0, 1) := by decide +kernel
theorem dL_isSound_151 : decode cL_isSound 151 = .ok (.iload 4, 2) := by decide +kernel
theorem dL_isSound_153 : decode cL_isSound 153 = .ok (.iconst 4, 1) := by decide +kernel
theorem dL_isSound_154 : decode cL_isSound 154 = .ok (.invokestatic 109, 3) := by decide +kernel
theorem dL_isSound_157 : decode cL_isSound 157 = .ok (.bipush 100, 2) := by decide +kernel
theorem dL_isSound_159 : decode cL_isSound 159 = .ok (.if_icmp .lt 13, 3) := by decide +kernel
theorem dL_isSound_162 : decode cL_isSound 162 = .ok (.aload_n 0, 1) := by decide +kernel
theorem dL_isSound_163 : decode cL_isSound 163 = .ok (.iload 4, 2) := by decide +kernel
theorem dL_isSound_165 : decode cL_isSound 165 = .ok (.iconst 2, 1) := by decide +kernel
theorem dL_isSound_166 : decode cL_isSound 166 = .ok (.invokestatic 109, 3) := by decide +kernel
theorem dL_isSound_169 : decode cL_isSound 169 = .ok (.ifCond .ge 5, 3) := by decide +kernel
theorem dL_isSound_172 : decode cL_isSound 172 = .ok (.iconst 0, 1) := by decide +kernel
theorem dL_isSound_173 : decode cL_isSound 173 = .ok (.ireturn, 1) := by decide +kernel
theorem dL_isSound_174 : decode cL_isSound 174 = .ok (.iinc 4 1, 3) := by decide +kernel
theorem dL_isSound_177 : decode cL_isSound 177 = .ok (.goto (-169), 3) := by decide +kernel
theorem dL_isSound_180 : decode cL_isSound 180 = .ok (.iconst 0, 1) := by decide +kernel
theorem dL_isSound_181 : decode cL_isSound 181 = .ok (.istore 4, 2) := by decide +kernel
theorem dL_isSound_183 : decode cL_isSound 183 = .ok (.iconst 0, 1) := by decide +kernel
theorem dL_isSound_184 : decode cL_isSound 184 = .ok (.istore 5, 2) := by decide +kernel
theorem dL_isSound_186 : decode cL_isSound 186 = .ok (.iload 5, 2) := by decide +kernel
theorem dL_isSound_188 : decode cL_isSound 188 = .ok (.iload_n 2, 1) := by decide +kernel
theorem dL_isSound_189 : decode cL_isSound 189 = .ok (.if_icmp .ge 215, 3) := by decide +kernel
theorem dL_isSound_192 : decode cL_isSound 192 = .ok (.aload_n 0, 1) := by decide +kernel
theorem dL_isSound_193 : decode cL_isSound 193 = .ok (.aload_n 1, 1) := by decide +kernel
theorem dL_isSound_194 : decode cL_isSound 194 = .ok (.iload 5, 2) := by decide +kernel
theorem dL_isSound_196 : decode cL_isSound 196 = .ok (.aaload, 1) := by decide +kernel
theorem dL_isSound_197 : decode cL_isSound 197 = .ok (.iconst 0, 1) := by decide +kernel
theorem dL_isSound_198 : decode cL_isSound 198 = .ok (.iaload, 1) := by decide +kernel
theorem dL_isSound_199 : decode cL_isSound 199 = .ok (.aload_n 1, 1) := by decide +kernel
theorem dL_isSound_200 : decode cL_isSound 200 = .ok (.iload 5, 2) := by decide +kernel
theorem dL_isSound_202 : decode cL_isSound 202 = .ok (.aaload, 1) := by decide +kernel
theorem dL_isSound_203 : decode cL_isSound 203 = .ok (.iconst 1, 1) := by decide +kernel
theorem dL_isSound_204 : decode cL_isSound 204 = .ok (.iaload, 1) := by decide +kernel
theorem dL_isSound_205 : decode cL_isSound 205 = .ok (.iconst 1, 1) := by decide +kernel
theorem dL_isSound_206 : decode cL_isSound 206 = .ok (.invokestatic 152, 3) := by decide +kernel
theorem dL_isSound_209 : decode cL_isSound 209 = .ok (.iconst 1, 1) := by decide +kernel
theorem dL_isSound_210 : decode cL_isSound 210 = .ok (.if_icmp .ne 7, 3) := by decide +kernel
theorem dL_isSound_213 : decode cL_isSound 213 = .ok (.iconst 1, 1) := by decide +kernel
theorem dL_isSound_214 : decode cL_isSound 214 = .ok (.goto 4, 3) := by decide +kernel
theorem dL_isSound_217 : decode cL_isSound 217 = .ok (.iconst 0, 1) := by decide +kernel
theorem dL_isSound_218 : decode cL_isSound 218 = .ok (.istore 6, 2) := by decide +kernel
theorem dL_isSound_220 : decode cL_isSound 220 = .ok (.iload 4, 2) := by decide +kernel
theorem dL_isSound_222 : decode cL_isSound 222 = .ok (.aload_n 1, 1) := by decide +kernel
theorem dL_isSound_223 : decode cL_isSound 223 = .ok (.iload 5, 2) := by decide +kernel
theorem dL_isSound_225 : decode cL_isSound 225 = .ok (.aaload, 1) := by decide +kernel
theorem dL_isSound_226 : decode cL_isSound 226 = .ok (.iconst 2, 1) := by decide +kernel
theorem dL_isSound_227 : decode cL_isSound 227 = .ok (.iaload, 1) := by decide +kernel
theorem dL_isSound_228 : decode cL_isSound 228 = .ok (.ifCond .ne 12, 3) := by decide +kernel
theorem dL_isSound_231 : decode cL_isSound 231 = .ok (.iload 6, 2) := by decide +kernel
theorem dL_isSound_233 : decode cL_isSound 233 = .ok (.ifCond .ne 7, 3) := by decide +kernel
theorem dL_isSound_236 : decode cL_isSound 236 = .ok (.iconst 1, 1) := by decide +kernel
theorem dL_isSound_237 : decode cL_isSound 237 = .ok (.goto 4, 3) := by decide +kernel
theorem dL_isSound_240 : decode cL_isSound 240 = .ok (.iconst 0, 1) := by decide +kernel
theorem dL_isSound_241 : decode cL_isSound 241 = .ok (.iadd, 1) := by decide +kernel
theorem dL_isSound_242 : decode cL_isSound 242 = .ok (.istore 4, 2) := by decide +kernel
theorem dL_isSound_244 : decode cL_isSound 244 = .ok (.iconst 0, 1) := by decide +kernel
theorem dL_isSound_245 : decode cL_isSound 245 = .ok (.istore 7, 2) := by decide +kernel
theorem dL_isSound_247 : decode cL_isSound 247 = .ok (.iconst 0, 1) := by decide +kernel
theorem dL_isSound_248 : decode cL_isSound 248 = .ok (.istore 8, 2) := by decide +kernel
theorem dL_isSound_250 : decode cL_isSound 250 = .ok (.iload 8, 2) := by decide +kernel
theorem dL_isSound_252 : decode cL_isSound 252 = .ok (.iload_n 3, 1) := by decide +kernel
theorem dL_isSound_253 : decode cL_isSound 253 = .ok (.if_icmp .ge 119, 3) := by decide +kernel
theorem dL_isSound_256 : decode cL_isSound 256 = .ok (.aload_n 0, 1) := by decide +kernel
theorem dL_isSound_257 : decode cL_isSound 257 = .ok (.aload_n 1, 1) := by decide +kernel
theorem dL_isSound_258 : decode cL_isSound 258 = .ok (.iload 5, 2) := by decide +kernel
theorem dL_isSound_260 : decode cL_isSound 260 = .ok (.aaload, 1) := by decide +kernel
theorem dL_isSound_261 : decode cL_isSound 261 = .ok (.iconst 0, 1) := by decide +kernel
theorem dL_isSound_262 : decode cL_isSound 262 = .ok (.iaload, 1) := by decide +kernel
theorem dL_isSound_263 : decode cL_isSound 263 = .ok (.aload_n 1, 1) := by decide +kernel
theorem dL_isSound_264 : decode cL_isSound 264 = .ok (.iload 5, 2) := by decide +kernel
theorem dL_isSound_266 : decode cL_isSound 266 = .ok (.aaload, 1) := by decide +kernel
theorem dL_isSound_267 : decode cL_isSound 267 = .ok (.iconst 1, 1) := by decide +kernel
theorem dL_isSound_268 : decode cL_isSound 268 = .ok (.iaload, 1) := by decide +kernel
theorem dL_isSound_269 : decode cL_isSound 269 = .ok (.bipush 10, 2) := by decide +kernel
theorem dL_isSound_271 : decode cL_isSound 271 = .ok (.iload 8, 2) := by decide +kernel
theorem dL_isSound_273 : decode cL_isSound 273 = .ok (.iadd, 1) := by decide +kernel
theorem dL_isSound_274 : decode cL_isSound 274 = .ok (.invokestatic 152, 3) := by decide +kernel
theorem dL_isSound_277 : decode cL_isSound 277 = .ok (.istore 9, 2) := by decide +kernel
theorem dL_isSound_279 : decode cL_isSound 279 = .ok (.iload 9, 2) := by decide +kernel
theorem dL_isSound_281 : decode cL_isSound 281 = .ok (.ifCond .lt 19, 3) := by decide +kernel
theorem dL_isSound_284 : decode cL_isSound 284 = .ok (.iload 8, 2) := by decide +kernel
theorem dL_isSound_286 : decode cL_isSound 286 = .ok (.aload_n 1, 1) := by decide +kernel
theorem dL_isSound_287 : decode cL_isSound 287 = .ok (.iload 5, 2) := by decide +kernel
theorem dL_isSound_289 : decode cL_isSound 289 = .ok (.aaload, 1) := by decide +kernel
theorem dL_isSound_290 : decode cL_isSound 290 = .ok (.iconst 0, 1) := by decide +kernel
theorem dL_isSound_291 : decode cL_isSound 291 = .ok (.iaload, 1) := by decide +kernel
theorem dL_isSound_292 : decode cL_isSound 292 = .ok (.if_icmp .lt 10, 3) := by decide +kernel
theorem dL_isSound_295 : decode cL_isSound 295 = .ok (.iload 9, 2) := by decide +kernel
theorem dL_isSound_297 : decode cL_isSound 297 = .ok (.ifCond .le 5, 3) := by decide +kernel
theorem dL_isSound_300 : decode cL_isSound 300 = .ok (.iconst 0, 1) := by decide +kernel
theorem dL_isSound_301 : decode cL_isSound 301 = .ok (.ireturn, 1) := by decide +kernel
theorem dL_isSound_302 : decode cL_isSound 302 = .ok (.iconst 0, 1) := by decide +kernel
theorem dL_isSound_303 : decode cL_isSound 303 = .ok (.istore 10, 2) := by decide +kernel
theorem dL_isSound_305 : decode cL_isSound 305 = .ok (.iload 10, 2) := by decide +kernel
theorem dL_isSound_307 : decode cL_isSound 307 = .ok (.iload_n 2, 1) := by decide +kernel
theorem dL_isSound_308 : decode cL_isSound 308 = .ok (.if_icmp .ge 58, 3) := by decide +kernel
theorem dL_isSound_311 : decode cL_isSound 311 = .ok (.iload 9, 2) := by decide +kernel
theorem dL_isSound_313 : decode cL_isSound 313 = .ok (.ifCond .le 53, 3) := by decide +kernel
theorem dL_isSound_316 : decode cL_isSound 316 = .ok (.iload 7, 2) := by decide +kernel
theorem dL_isSound_318 : decode cL_isSound 318 = .ok (.ifCond .ne 35, 3) := by decide +kernel
theorem dL_isSound_321 : decode cL_isSound 321 = .ok (.aload_n 1, 1) := by decide +kernel
theorem dL_isSound_322 : decode cL_isSound 322 = .ok (.iload 10, 2) := by decide +kernel
theorem dL_isSound_324 : decode cL_isSound 324 = .ok (.aaload, 1) := by decide +kernel
theorem dL_isSound_325 : decode cL_isSound 325 = .ok (.iconst 0, 1) := by decide +kernel
theorem dL_isSound_326 : decode cL_isSound 326 = .ok (.iaload, 1) := by decide +kernel
theorem dL_isSound_327 : decode cL_isSound 327 = .ok (.iload 8, 2) := by decide +kernel
theorem dL_isSound_329 : decode cL_isSound 329 = .ok (.if_icmp .ne 28, 3) := by decide +kernel
theorem dL_isSound_332 : decode cL_isSound 332 = .ok (.aload_n 1, 1) := by decide +kernel
theorem dL_isSound_333 : decode cL_isSound 333 = .ok (.iload 10, 2) := by decide +kernel
theorem dL_isSound_335 : decode cL_isSound 335 = .ok (.aaload, 1) := by decide +kernel
theorem dL_isSound_336 : decode cL_isSound 336 = .ok (.iconst 1, 1) := by decide +kernel
theorem dL_isSound_337 : decode cL_isSound 337 = .ok (.iaload, 1) := by decide +kernel
theorem dL_isSound_338 : decode cL_isSound 338 = .ok (.iload 9, 2) := by decide +kernel
theorem dL_isSound_340 : decode cL_isSound 340 = .ok (.if_icmp .ne 17, 3) := by decide +kernel
theorem dL_isSound_343 : decode cL_isSound 343 = .ok (.aload_n 1, 1) := by decide +kernel
theorem dL_isSound_344 : decode cL_isSound 344 = .ok (.iload 10, 2) := by decide +kernel
theorem dL_isSound_346 : decode cL_isSound 346 = .ok (.aaload, 1) := by decide +kernel
theorem dL_isSound_347 : decode cL_isSound 347 = .ok (.iconst 2, 1) := by decide +kernel
theorem dL_isSound_348 : decode cL_isSound 348 = .ok (.iaload, 1) := by decide +kernel
theorem dL_isSound_349 : decode cL_isSound 349 = .ok (.iconst 1, 1) := by decide +kernel
theorem dL_isSound_350 : decode cL_isSound 350 = .ok (.if_icmp .ne 7, 3) := by decide +kernel
theorem dL_isSound_353 : decode cL_isSound 353 = .ok (.iconst 1, 1) := by decide +kernel
theorem dL_isSound_354 : decode cL_isSound 354 = .ok (.goto 4, 3) := by decide +kernel
theorem dL_isSound_357 : decode cL_isSound 357 = .ok (.iconst 0, 1) := by decide +kernel
theorem dL_isSound_358 : decode cL_isSound 358 = .ok (.istore 7, 2) := by decide +kernel
theorem dL_isSound_360 : decode cL_isSound 360 = .ok (.iinc 10 1, 3) := by decide +kernel
theorem dL_isSound_363 : decode cL_isSound 363 = .ok (.goto (-58), 3) := by decide +kernel
theorem dL_isSound_366 : decode cL_isSound 366 = .ok (.iinc 8 1, 3) := by decide +kernel
theorem dL_isSound_369 : decode cL_isSound 369 = .ok (.goto (-119), 3) := by decide +kernel
theorem dL_isSound_372 : decode cL_isSound 372 = .ok (.iload 6, 2) := by decide +kernel
theorem dL_isSound_374 : decode cL_isSound 374 = .ok (.iload 7, 2) := by decide +kernel
theorem dL_isSound_376 : decode cL_isSound 376 = .ok (.ifCond .eq 16, 3) := by decide +kernel
theorem dL_isSound_379 : decode cL_isSound 379 = .ok (.aload_n 1, 1) := by decide +kernel
theorem dL_isSound_380 : decode cL_isSound 380 = .ok (.iload 5, 2) := by decide +kernel
theorem dL_isSound_382 : decode cL_isSound 382 = .ok (.aaload, 1) := by decide +kernel
theorem dL_isSound_383 : decode cL_isSound 383 = .ok (.iconst 2, 1) := by decide +kernel
theorem dL_isSound_384 : decode cL_isSound 384 = .ok (.iaload, 1) := by decide +kernel
theorem dL_isSound_385 : decode cL_isSound 385 = .ok (.ifCond .ne 7, 3) := by decide +kernel
theorem dL_isSound_388 : decode cL_isSound 388 = .ok (.iconst 1, 1) := by decide +kernel
theorem dL_isSound_389 : decode cL_isSound 389 = .ok (.goto 4, 3) := by decide +kernel
theorem dL_isSound_392 : decode cL_isSound 392 = .ok (.iconst 0, 1) := by decide +kernel
theorem dL_isSound_393 : decode cL_isSound 393 = .ok (.if_icmp .eq 5, 3) := by decide +kernel
theorem dL_isSound_396 : decode cL_isSound 396 = .ok (.iconst 0, 1) := by decide +kernel
theorem dL_isSound_397 : decode cL_isSound 397 = .ok (.ireturn, 1) := by decide +kernel
theorem dL_isSound_398 : decode cL_isSound 398 = .ok (.iinc 5 1, 3) := by decide +kernel
theorem dL_isSound_401 : decode cL_isSound 401 = .ok (.goto (-215), 3) := by decide +kernel
theorem dL_isSound_404 : decode cL_isSound 404 = .ok (.aload_n 0, 1) := by decide +kernel
theorem dL_isSound_405 : decode cL_isSound 405 = .ok (.invokestatic 127, 3) := by decide +kernel
theorem dL_isSound_408 : decode cL_isSound 408 = .ok (.istore 5, 2) := by decide +kernel
theorem dL_isSound_410 : decode cL_isSound 410 = .ok (.iconst 0, 1) := by decide +kernel
theorem dL_isSound_411 : decode cL_isSound 411 = .ok (.istore 6, 2) := by decide +kernel
theorem dL_isSound_413 : decode cL_isSound 413 = .ok (.iload 6, 2) := by decide +kernel
theorem dL_isSound_415 : decode cL_isSound 415 = .ok (.aload_n 0, 1) := by decide +kernel
theorem dL_isSound_416 : decode cL_isSound 416 = .ok (.invokestatic 156, 3) := by decide +kernel
theorem dL_isSound_419 : decode cL_isSound 419 = .ok (.if_icmp .ge 40, 3) := by decide +kernel
theorem dL_isSound_422 : decode cL_isSound 422 = .ok (.aload_n 0, 1) := by decide +kernel
theorem dL_isSound_423 : decode cL_isSound 423 = .ok (.iload 6, 2) := by decide +kernel
theorem dL_isSound_425 : decode cL_isSound 425 = .ok (.iconst 0, 1) := by decide +kernel
theorem dL_isSound_426 : decode cL_isSound 426 = .ok (.invokestatic 115, 3) := by decide +kernel
theorem dL_isSound_429 : decode cL_isSound 429 = .ok (.bipush 7, 2) := by decide +kernel
theorem dL_isSound_431 : decode cL_isSound 431 = .ok (.if_icmp .gt 20, 3) := by decide +kernel
theorem dL_isSound_434 : decode cL_isSound 434 = .ok (.aload_n 0, 1) := by decide +kernel
theorem dL_isSound_435 : decode cL_isSound 435 = .ok (.iload 6, 2) := by decide +kernel
theorem dL_isSound_437 : decode cL_isSound 437 = .ok (.iconst 0, 1) := by decide +kernel
theorem dL_isSound_438 : decode cL_isSound 438 = .ok (.invokestatic 115, 3) := by decide +kernel
theorem dL_isSound_441 : decode cL_isSound 441 = .ok (.aload_n 0, 1) := by decide +kernel
theorem dL_isSound_442 : decode cL_isSound 442 = .ok (.iload 5, 2) := by decide +kernel
theorem dL_isSound_444 : decode cL_isSound 444 = .ok (.iconst 0, 1) := by decide +kernel
theorem dL_isSound_445 : decode cL_isSound 445 = .ok (.invokestatic 115, 3) := by decide +kernel
theorem dL_isSound_448 : decode cL_isSound 448 = .ok (.if_icmp .le 5, 3) := by decide +kernel
theorem dL_isSound_451 : decode cL_isSound 451 = .ok (.iconst 0, 1) := by decide +kernel
theorem dL_isSound_452 : decode cL_isSound 452 = .ok (.ireturn, 1) := by decide +kernel
theorem dL_isSound_453 : decode cL_isSound 453 = .ok (.iinc 6 1, 3) := by decide +kernel
theorem dL_isSound_456 : decode cL_isSound 456 = .ok (.goto (-43), 3) := by decide +kernel
theorem dL_isSound_459 : decode cL_isSound 459 = .ok (.aload_n 0, 1) := by decide +kernel
theorem dL_isSound_460 : decode cL_isSound 460 = .ok (.invokestatic 131, 3) := by decide +kernel
theorem dL_isSound_463 : decode cL_isSound 463 = .ok (.ldc 102, 2) := by decide +kernel
theorem dL_isSound_465 : decode cL_isSound 465 = .ok (.fcmp .l, 1) := by decide +kernel
theorem dL_isSound_466 : decode cL_isSound 466 = .ok (.ifCond .ne 7, 3) := by decide +kernel
theorem dL_isSound_469 : decode cL_isSound 469 = .ok (.iconst 1, 1) := by decide +kernel
theorem dL_isSound_470 : decode cL_isSound 470 = .ok (.goto 4, 3) := by decide +kernel
theorem dL_isSound_473 : decode cL_isSound 473 = .ok (.iconst 0, 1) := by decide +kernel
theorem dL_isSound_474 : decode cL_isSound 474 = .ok (.iload_n 2, 1) := by decide +kernel
theorem dL_isSound_475 : decode cL_isSound 475 = .ok (.ifCond .ne 7, 3) := by decide +kernel
theorem dL_isSound_478 : decode cL_isSound 478 = .ok (.iconst 1, 1) := by decide +kernel
theorem dL_isSound_479 : decode cL_isSound 479 = .ok (.goto 4, 3) := by decide +kernel
theorem dL_isSound_482 : decode cL_isSound 482 = .ok (.iconst 0, 1) := by decide +kernel
theorem dL_isSound_483 : decode cL_isSound 483 = .ok (.if_icmp .ne 25, 3) := by decide +kernel
theorem dL_isSound_486 : decode cL_isSound 486 = .ok (.iload_n 2, 1) := by decide +kernel
theorem dL_isSound_487 : decode cL_isSound 487 = .ok (.ifCond .eq 17, 3) := by decide +kernel
theorem dL_isSound_490 : decode cL_isSound 490 = .ok (.aload_n 0, 1) := by decide +kernel
theorem dL_isSound_491 : decode cL_isSound 491 = .ok (.invokestatic 131, 3) := by decide +kernel
theorem dL_isSound_494 : decode cL_isSound 494 = .ok (.iload 4, 2) := by decide +kernel
theorem dL_isSound_496 : decode cL_isSound 496 = .ok (.i2f, 1) := by decide +kernel
theorem dL_isSound_497 : decode cL_isSound 497 = .ok (.iload_n 2, 1) := by decide +kernel
theorem dL_isSound_498 : decode cL_isSound 498 = .ok (.i2f, 1) := by decide +kernel
theorem dL_isSound_499 : decode cL_isSound 499 = .ok (.fdiv, 1) := by decide +kernel
theorem dL_isSound_500 : decode cL_isSound 500 = .ok (.fcmp .l, 1) := by decide +kernel
theorem dL_isSound_501 : decode cL_isSound 501 = .ok (.ifCond .ne 7, 3) := by decide +kernel
theorem dL_isSound_504 : decode cL_isSound 504 = .ok (.iconst 1, 1) := by decide +kernel
theorem dL_isSound_505 : decode cL_isSound 505 = .ok (.goto 4, 3) := by decide +kernel
theorem dL_isSound_508 : decode cL_isSound 508 = .ok (.iconst 0, 1) := by decide +kernel
theorem dL_isSound_509 : decode cL_isSound 509 = .ok (.ireturn, 1) := by decide +kernel
theorem dL_law_0 : decode cL_law 0 = .ok (.new 8, 3) := by decide +kernel
theorem dL_law_3 : decode cL_law 3 = .ok (.dup, 1) := by decide +kernel
theorem dL_law_4 : decode cL_law 4 = .ok (.invokespecial 159, 3) := by decide +kernel
theorem dL_law_7 : decode cL_law 7 = .ok (.astore_n 1, 1) := by decide +kernel
theorem dL_law_8 : decode cL_law 8 = .ok (.bipush 20, 2) := by decide +kernel
theorem dL_law_10 : decode cL_law 10 = .ok (.iconst 3, 1) := by decide +kernel
theorem dL_law_11 : decode cL_law 11 = .ok (.multianewarray 160 2, 4) := by decide +kernel
theorem dL_law_15 : decode cL_law 15 = .ok (.astore_n 2, 1) := by decide +kernel
theorem dL_law_16 : decode cL_law 16 = .ok (.iconst 0, 1) := by decide +kernel
theorem dL_law_17 : decode cL_law 17 = .ok (.istore_n 3, 1) := by decide +kernel
theorem dL_law_18 : decode cL_law 18 = .ok (.aload_n 0, 1) := by decide +kernel
theorem dL_law_19 : decode cL_law 19 = .ok (.iconst 0, 1) := by decide +kernel
theorem dL_law_20 : decode cL_law 20 = .ok (.invokestatic 162, 3) := by decide +kernel
theorem dL_law_23 : decode cL_law 23 = .ok (.bipush 56, 2) := by decide +kernel
theorem dL_law_25 : decode cL_law 25 = .ok (.invokestatic 166, 3) := by decide +kernel
theorem dL_law_28 : decode cL_law 28 = .ok (.istore 4, 2) := by decide +kernel
theorem dL_law_30 : decode cL_law 30 = .ok (.iconst 0, 1) := by decide +kernel
theorem dL_law_31 : decode cL_law 31 = .ok (.istore 5, 2) := by decide +kernel
theorem dL_law_33 : decode cL_law 33 = .ok (.iload 5, 2) := by decide +kernel
theorem dL_law_35 : decode cL_law 35 = .ok (.iload 4, 2) := by decide +kernel
theorem dL_law_37 : decode cL_law 37 = .ok (.if_icmp .ge 736, 3) := by decide +kernel
theorem dL_law_40 : decode cL_law 40 = .ok (.aload_n 0, 1) := by decide +kernel
theorem dL_law_41 : decode cL_law 41 = .ok (.iconst 1, 1) := by decide +kernel
theorem dL_law_42 : decode cL_law 42 = .ok (.iload 5, 2) := by decide +kernel
theorem dL_law_44 : decode cL_law 44 = .ok (.iadd, 1) := by decide +kernel
theorem dL_law_45 : decode cL_law 45 = .ok (.invokestatic 162, 3) := by decide +kernel
theorem dL_law_48 : decode cL_law 48 = .ok (.ldc 169, 2) := by decide +kernel
theorem dL_law_50 : decode cL_law 50 = .ok (.invokestatic 166, 3) := by decide +kernel
theorem dL_law_53 : decode cL_law 53 = .ok (.istore 6, 2) := by decide +kernel
theorem dL_law_55 : decode cL_law 55 = .ok (.iload 6, 2) := by decide +kernel
theorem dL_law_57 : decode cL_law 57 = .ok (.bipush 32, 2) := by decide +kernel
theorem dL_law_59 : decode cL_law 59 = .ok (.idiv, 1) := by decide +kernel
theorem dL_law_60 : decode cL_law 60 = .ok (.istore 7, 2) := by decide +kernel
theorem dL_law_62 : decode cL_law 62 = .ok (.iconst 1, 1) := by decide +kernel
theorem dL_law_63 : decode cL_law 63 = .ok (.aload_n 1, 1) := by decide +kernel
theorem dL_law_64 : decode cL_law 64 = .ok (.invokestatic 118, 3) := by decide +kernel
theorem dL_law_67 : decode cL_law 67 = .ok (.invokestatic 170, 3) := by decide +kernel
theorem dL_law_70 : decode cL_law 70 = .ok (.istore 8, 2) := by decide +kernel
theorem dL_law_72 : decode cL_law 72 = .ok (.iload 7, 2) := by decide +kernel
theorem dL_law_74 : decode cL_law 74 = .ok (.iload 8, 2) := by decide +kernel
theorem dL_law_76 : decode cL_law 76 = .ok (.irem, 1) := by decide +kernel
theorem dL_law_77 : decode cL_law 77 = .ok (.istore 9, 2) := by decide +kernel
theorem dL_law_79 : decode cL_law 79 = .ok (.iload 5, 2) := by decide +kernel
theorem dL_law_81 : decode cL_law 81 = .ok (.iconst 2, 1) := by decide +kernel
theorem dL_law_82 : decode cL_law 82 = .ok (.irem, 1) := by decide +kernel
theorem dL_law_83 : decode cL_law 83 = .ok (.ifCond .ne 7, 3) := by decide +kernel
theorem dL_law_86 : decode cL_law 86 = .ok (.iconst 1, 1) := by decide +kernel
theorem dL_law_87 : decode cL_law 87 = .ok (.goto 4, 3) := by decide +kernel
theorem dL_law_90 : decode cL_law 90 = .ok (.iconst 0, 1) := by decide +kernel
theorem dL_law_91 : decode cL_law 91 = .ok (.istore 10, 2) := by decide +kernel
theorem dL_law_93 : decode cL_law 93 = .ok (.iload 10, 2) := by decide +kernel
theorem dL_law_95 : decode cL_law 95 = .ok (.ifCond .eq 10, 3) := by decide +kernel
theorem dL_law_98 : decode cL_law 98 = .ok (.aload_n 1, 1) := by decide +kernel
theorem dL_law_99 : decode cL_law 99 = .ok (.invokestatic 175, 3) := by decide +kernel
theorem dL_law_102 : decode cL_law 102 = .ok (.goto 4, 3) := by decide +kernel
theorem dL_law_105 : decode cL_law 105 = .ok (.lconst 0, 1) := by decide +kernel
theorem dL_law_106 : decode cL_law 106 = .ok (.lstore 11, 2) := by decide +kernel
theorem dL_law_108 : decode cL_law 108 = .ok (.iconst 0, 1) := by decide +kernel
theorem dL_law_109 : decode cL_law 109 = .ok (.istore 13, 2) := by decide +kernel
theorem dL_law_111 : decode cL_law 111 = .ok (.iload 5, 2) := by decide +kernel
theorem dL_law_113 : decode cL_law 113 = .ok (.iconst 3, 1) := by decide +kernel
theorem dL_law_114 : decode cL_law 114 = .ok (.if_icmp .ge 7, 3) := by decide +kernel
theorem dL_law_117 : decode cL_law 117 = .ok (.iconst 0, 1) := by decide +kernel
theorem dL_law_118 : decode cL_law 118 = .ok (.goto 19, 3) := by decide +kernel
theorem dL_law_121 : decode cL_law 121 = .ok (.iload 5, 2) := by decide +kernel
theorem dL_law_123 : decode cL_law 123 = .ok (.iconst 5, 1) := by decide +kernel
theorem dL_law_124 : decode cL_law 124 = .ok (.if_icmp .ge 8, 3) := by decide +kernel
theorem dL_law_127 : decode cL_law 127 = .ok (.bipush 12, 2) := by decide +kernel
theorem dL_law_129 : decode cL_law 129 = .ok (.goto 8, 3) := by decide +kernel
theorem dL_law_132 : decode cL_law 132 = .ok (.iload 6, 2) := by decide +kernel
theorem dL_law_134 : decode cL_law 134 = .ok (.bipush 32, 2) := by decide +kernel
theorem dL_law_136 : decode cL_law 136 = .ok (.irem, 1) := by decide +kernel
theorem dL_law_137 : decode cL_law 137 = .ok (.istore 14, 2) := by decide +kernel
theorem dL_law_139 : decode cL_law 139 = .ok (.iload 14, 2) := by decide +kernel
theorem dL_law_141 : decode cL_law 141 = .ok (.iconst 1, 1) := by decide +kernel
theorem dL_law_142 : decode cL_law 142 = .ok (.if_icmp .ge 16, 3) := by decide +kernel
theorem dL_law_145 : decode cL_law 145 = .ok (.aload_n 1, 1) := by decide +kernel
theorem dL_law_146 : decode cL_law 146 = .ok (.iload 7, 2) := by decide +kernel
theorem dL_law_148 : decode cL_law 148 = .ok (.iconst 3, 1) := by decide +kernel
theorem dL_law_149 : decode cL_law 149 = .ok (.irem, 1) := by decide +kernel
theorem dL_law_150 : decode cL_law 150 = .ok (.invokestatic 179, 3) := by decide +kernel
theorem dL_law_153 : decode cL_law 153 = .ok (.istore 13, 2) := by decide +kernel
theorem dL_law_155 : decode cL_law 155 = .ok (.goto 568, 3) := by decide +kernel
theorem dL_law_158 : decode cL_law 158 = .ok (.iload 14, 2) := by decide +kernel
theorem dL_law_160 : decode cL_law 160 = .ok (.iconst 4, 1) := by decide +kernel
theorem dL_law_161 : decode cL_law 161 = .ok (.if_icmp .ge 28, 3) := by decide +kernel
theorem dL_law_164 : decode cL_law 164 = .ok (.aload_n 1, 1) := by decide +kernel
theorem dL_law_165 : decode cL_law 165 = .ok (.iload 9, 2) := by decide +kernel
theorem dL_law_167 : decode cL_law 167 = .ok (.iload 7, 2) := by decide +kernel
theorem dL_law_169 : decode cL_law 169 = .ok (.bipush 7, 2) := by decide +kernel
theorem dL_law_171 : decode cL_law 171 = .ok (.idiv, 1) := by decide +kernel
theorem dL_law_172 : decode cL_law 172 = .ok (.iconst 3, 1) := by decide +kernel
theorem dL_law_173 : decode cL_law 173 = .ok (.irem, 1) := by decide +kernel
theorem dL_law_174 : decode cL_law 174 = .ok (.iload 7, 2) := by decide +kernel
theorem dL_law_176 : decode cL_law 176 = .ok (.bipush 21, 2) := by decide +kernel
theorem dL_law_178 : decode cL_law 178 = .ok (.idiv, 1) := by decide +kernel
theorem dL_law_179 : decode cL_law 179 = .ok (.iconst 4, 1) := by decide +kernel
theorem dL_law_180 : decode cL_law 180 = .ok (.irem, 1) := by decide +kernel
theorem dL_law_181 : decode cL_law 181 = .ok (.invokestatic 183, 3) := by decide +kernel
theorem dL_law_184 : decode cL_law 184 = .ok (.istore 13, 2) := by decide +kernel
theorem dL_law_186 : decode cL_law 186 = .ok (.goto 537, 3) := by decide +kernel
theorem dL_law_189 : decode cL_law 189 = .ok (.iload 14, 2) := by decide +kernel
theorem dL_law_191 : decode cL_law 191 = .ok (.bipush 8, 2) := by decide +kernel
theorem dL_law_193 : decode cL_law 193 = .ok (.if_icmp .ge 45, 3) := by decide +kernel
theorem dL_law_196 : decode cL_law 196 = .ok (.aload_n 1, 1) := by decide +kernel
theorem dL_law_197 : decode cL_law 197 = .ok (.iload 9, 2) := by decide +kernel
theorem dL_law_199 : decode cL_law 199 = .ok (.iload 7, 2) := by decide +kernel
theorem dL_law_201 : decode cL_law 201 = .ok (.bipush 7, 2) := by decide +kernel
theorem dL_law_203 : decode cL_law 203 = .ok (.idiv, 1) := by decide +kernel
theorem dL_law_204 : decode cL_law 204 = .ok (.iload 8, 2) := by decide +kernel
theorem dL_law_206 : decode cL_law 206 = .ok (.irem, 1) := by decide +kernel
theorem dL_law_207 : decode cL_law 207 = .ok (.bipush 100, 2) := by decide +kernel
theorem dL_law_209 : decode cL_law 209 = .ok (.iload 7, 2) := by decide +kernel
theorem dL_law_211 : decode cL_law 211 = .ok (.bipush 49, 2) := by decide +kernel
theorem dL_law_213 : decode cL_law 213 = .ok (.idiv, 1) := by decide +kernel
theorem dL_law_214 : decode cL_law 214 = .ok (.iconst 4, 1) := by decide +kernel
theorem dL_law_215 : decode cL_law 215 = .ok (.irem, 1) := by decide +kernel
theorem dL_law_216 : decode cL_law 216 = .ok (.iadd, 1) := by decide +kernel
theorem dL_law_217 : decode cL_law 217 = .ok (.bipush 103, 2) := by decide +kernel
theorem dL_law_219 : decode cL_law 219 = .ok (.iload 7, 2) := by decide +kernel
theorem dL_law_221 : decode cL_law 221 = .ok (.sipush 200, 3) := by decide +kernel
theorem dL_law_224 : decode cL_law 224 = .ok (.idiv, 1) := by decide +kernel
theorem dL_law_225 : decode cL_law 225 = .ok (.sipush 300, 3) := by decide +kernel
theorem dL_law_228 : decode cL_law 228 = .ok (.irem, 1) := by decide +kernel
theorem dL_law_229 : decode cL_law 229 = .ok (.iadd, 1) := by decide +kernel
theorem dL_law_230 : decode cL_law 230 = .ok (.invokestatic 186, 3) := by decide +kernel
theorem dL_law_233 : decode cL_law 233 = .ok (.istore 13, 2) := by decide +kernel
theorem dL_law_235 : decode cL_law 235 = .ok (.goto 488, 3) := by decide +kernel
theorem dL_law_238 : decode cL_law 238 = .ok (.iload 14, 2) := by decide +kernel
theorem dL_law_240 : decode cL_law 240 = .ok (.bipush 9, 2) := by decide +kernel
theorem dL_law_242 : decode cL_law 242 = .ok (.if_icmp .ge 24, 3) := by decide +kernel
theorem dL_law_245 : decode cL_law 245 = .ok (.aload_n 1, 1) := by decide +kernel
theorem dL_law_246 : decode cL_law 246 = .ok (.iload 9, 2) := by decide +kernel
theorem dL_law_248 : decode cL_law 248 = .ok (.iload 7, 2) := by decide +kernel
theorem dL_law_250 : decode cL_law 250 = .ok (.bipush 7, 2) := by decide +kernel
theorem dL_law_252 : decode cL_law 252 = .ok (.idiv, 1) := by decide +kernel
theorem dL_law_253 : decode cL_law 253 = .ok (.iload 8, 2) := by decide +kernel
theorem dL_law_255 : decode cL_law 255 = .ok (.irem, 1) := by decide +kernel
theorem dL_law_256 : decode cL_law 256 = .ok (.iconst (-1), 1) := by decide +kernel
theorem dL_law_257 : decode cL_law 257 = .ok (.iconst 0, 1) := by decide +kernel
theorem dL_law_258 : decode cL_law 258 = .ok (.invokestatic 186, 3) := by decide +kernel
theorem dL_law_261 : decode cL_law 261 = .ok (.istore 13, 2) := by decide +kernel
theorem dL_law_263 : decode cL_law 263 = .ok (.goto 460, 3) := by decide +kernel
theorem dL_law_266 : decode cL_law 266 = .ok (.iload 14, 2) := by decide +kernel
theorem dL_law_268 : decode cL_law 268 = .ok (.bipush 15, 2) := by decide +kernel
theorem dL_law_270 : decode cL_law 270 = .ok (.if_icmp .ge 50, 3) := by decide +kernel
theorem dL_law_273 : decode cL_law 273 = .ok (.aload_n 1, 1) := by decide +kernel
theorem dL_law_274 : decode cL_law 274 = .ok (.invokevirtual 122, 3) := by decide +kernel
theorem dL_law_277 : decode cL_law 277 = .ok (.istore 15, 2) := by decide +kernel
theorem dL_law_279 : decode cL_law 279 = .ok (.aload_n 1, 1) := by decide +kernel
theorem dL_law_280 : decode cL_law 280 = .ok (.iload 9, 2) := by decide +kernel
theorem dL_law_282 : decode cL_law 282 = .ok (.iconst 0, 1) := by decide +kernel
theorem dL_law_283 : decode cL_law 283 = .ok (.invokestatic 109, 3) := by decide +kernel
theorem dL_law_286 : decode cL_law 286 = .ok (.istore 13, 2) := by decide +kernel
theorem dL_law_288 : decode cL_law 288 = .ok (.iload 13, 2) := by decide +kernel
theorem dL_law_290 : decode cL_law 290 = .ok (.ifCond .lt 27, 3) := by decide +kernel
theorem dL_law_293 : decode cL_law 293 = .ok (.aload_n 1, 1) := by decide +kernel
theorem dL_law_294 : decode cL_law 294 = .ok (.invokevirtual 122, 3) := by decide +kernel
theorem dL_law_297 : decode cL_law 297 = .ok (.iload 15, 2) := by decide +kernel
theorem dL_law_299 : decode cL_law 299 = .ok (.iload 13, 2) := by decide +kernel
theorem dL_law_301 : decode cL_law 301 = .ok (.iadd, 1) := by decide +kernel
theorem dL_law_302 : decode cL_law 302 = .ok (.if_icmp .ne 13, 3) := by decide +kernel
theorem dL_law_305 : decode cL_law 305 = .ok (.aload_n 1, 1) := by decide +kernel
theorem dL_law_306 : decode cL_law 306 = .ok (.iload 9, 2) := by decide +kernel
theorem dL_law_308 : decode cL_law 308 = .ok (.iconst 0, 1) := by decide +kernel
theorem dL_law_309 : decode cL_law 309 = .ok (.invokestatic 109, 3) := by decide +kernel
theorem dL_law_312 : decode cL_law 312 = .ok (.ifCond .eq 5, 3) := by decide +kernel
theorem dL_law_315 : decode cL_law 315 = .ok (.iconst 0, 1) := by decide +kernel
theorem dL_law_316 : decode cL_law 316 = .ok (.ireturn, 1) := by decide +kernel
theorem dL_law_317 : decode cL_law 317 = .ok (.goto 406, 3) := by decide +kernel
theorem dL_law_320 : decode cL_law 320 = .ok (.iload 14, 2) := by decide +kernel
theorem dL_law_322 : decode cL_law 322 = .ok (.bipush 16, 2) := by decide +kernel
theorem dL_law_324 : decode cL_law 324 = .ok (.if_icmp .ge 24, 3) := by decide +kernel
theorem dL_law_327 : decode cL_law 327 = .ok (.aload_n 1, 1) := by decide +kernel
theorem dL_law_328 : decode cL_law 328 = .ok (.iload 9, 2) := by decide +kernel
theorem dL_law_330 : decode cL_law 330 = .ok (.iconst 1, 1) := by decide +kernel
theorem dL_law_331 : decode cL_law 331 = .ok (.iload 7, 2) := by decide +kernel
theorem dL_law_333 : decode cL_law 333 = .ok (.bipush 7, 2) := by decide +kernel
theorem dL_law_335 : decode cL_law 335 = .ok (.idiv, 1) := by decide +kernel
theorem dL_law_336 : decode cL_law 336 = .ok (.bipush 60, 2) := by decide +kernel
theorem dL_law_338 : decode cL_law 338 = .ok (.irem, 1) := by decide +kernel
theorem dL_law_339 : decode cL_law 339 = .ok (.iadd, 1) := by decide +kernel
theorem dL_law_340 : decode cL_law 340 = .ok (.invokestatic 189, 3) := by decide +kernel
theorem dL_law_343 : decode cL_law 343 = .ok (.istore 13, 2) := by decide +kernel
theorem dL_law_345 : decode cL_law 345 = .ok (.goto 378, 3) := by decide +kernel
theorem dL_law_348 : decode cL_law 348 = .ok (.iload 14, 2) := by decide +kernel
theorem dL_law_350 : decode cL_law 350 = .ok (.bipush 17, 2) := by decide +kernel
theorem dL_law_352 : decode cL_law 352 = .ok (.if_icmp .ge 32, 3) := by decide +kernel
theorem dL_law_355 : decode cL_law 355 = .ok (.aload_n 1, 1) := by decide +kernel
theorem dL_law_356 : decode cL_law 356 = .ok (.iload 7, 2) := by decide +kernel
theorem dL_law_358 : decode cL_law 358 = .ok (.iconst 1, 1) := by decide +kernel
theorem dL_law_359 : decode cL_law 359 = .ok (.aload_n 1, 1) := by decide +kernel
theorem dL_law_360 : decode cL_law 360 = .ok (.invokestatic 156, 3) := by decide +kernel
theorem dL_law_363 : decode cL_law 363 = .ok (.invokestatic 170, 3) := by decide +kernel
theorem dL_law_366 : decode cL_law 366 = .ok (.irem, 1) := by decide +kernel
theorem dL_law_367 : decode cL_law 367 = .ok (.iconst 1, 1) := by decide +kernel
theorem dL_law_368 : decode cL_law 368 = .ok (.iload 7, 2) := by decide +kernel
theorem dL_law_370 : decode cL_law 370 = .ok (.bipush 40, 2) := by decide +kernel
theorem dL_law_372 : decode cL_law 372 = .ok (.idiv, 1) := by decide +kernel
theorem dL_law_373 : decode cL_law 373 = .ok (.iconst 2, 1) := by decide +kernel
theorem dL_law_374 : decode cL_law 374 = .ok (.irem, 1) := by decide +kernel
theorem dL_law_375 : decode cL_law 375 = .ok (.iadd, 1) := by decide +kernel
theorem dL_law_376 : decode cL_law 376 = .ok (.invokestatic 115, 3) := by decide +kernel
theorem dL_law_379 : decode cL_law 379 = .ok (.istore 13, 2) := by decide +kernel
theorem dL_law_381 : decode cL_law 381 = .ok (.goto 342, 3) := by decide +kernel
theorem dL_law_384 : decode cL_law 384 = .ok (.iload 14, 2) := by decide +kernel
theorem dL_law_386 : decode cL_law 386 = .ok (.bipush 18, 2) := by decide +kernel
theorem dL_law_388 : decode cL_law 388 = .ok (.if_icmp .ge 29, 3) := by decide +kernel
theorem dL_law_391 : decode cL_law 391 = .ok (.aload_n 1, 1) := by decide +kernel
theorem dL_law_392 : decode cL_law 392 = .ok (.bipush 102, 2) := by decide +kernel
theorem dL_law_394 : decode cL_law 394 = .ok (.iload 7, 2) := by decide +kernel
theorem dL_law_396 : decode cL_law 396 = .ok (.iconst 3, 1) := by decide +kernel
theorem dL_law_397 : decode cL_law 397 = .ok (.irem, 1) := by decide +kernel
theorem dL_law_398 : decode cL_law 398 = .ok (.iconst 1, 1) := by decide +kernel
theorem dL_law_399 : decode cL_law 399 = .ok (.iload 7, 2) := by decide +kernel
theorem dL_law_401 : decode cL_law 401 = .ok (.bipush 7, 2) := by decide +kernel
theorem dL_law_403 : decode cL_law 403 = .ok (.idiv, 1) := by decide +kernel
theorem dL_law_404 : decode cL_law 404 = .ok (.sipush 300, 3) := by decide +kernel
theorem dL_law_407 : decode cL_law 407 = .ok (.irem, 1) := by decide +kernel
theorem dL_law_408 : decode cL_law 408 = .ok (.iadd, 1) := by decide +kernel
theorem dL_law_409 : decode cL_law 409 = .ok (.invokestatic 141, 3) := by decide +kernel
theorem dL_law_412 : decode cL_law 412 = .ok (.istore 13, 2) := by decide +kernel
theorem dL_law_414 : decode cL_law 414 = .ok (.goto 309, 3) := by decide +kernel
theorem dL_law_417 : decode cL_law 417 = .ok (.iload 14, 2) := by decide +kernel
theorem dL_law_419 : decode cL_law 419 = .ok (.bipush 23, 2) := by decide +kernel
theorem dL_law_421 : decode cL_law 421 = .ok (.if_icmp .ge 48, 3) := by decide +kernel
theorem dL_law_424 : decode cL_law 424 = .ok (.aload_n 1, 1) := by decide +kernel
theorem dL_law_425 : decode cL_law 425 = .ok (.iload 9, 2) := by decide +kernel
theorem dL_law_427 : decode cL_law 427 = .ok (.iconst 1, 1) := by decide +kernel
theorem dL_law_428 : decode cL_law 428 = .ok (.invokestatic 109, 3) := by decide +kernel
theorem dL_law_431 : decode cL_law 431 = .ok (.istore 13, 2) := by decide +kernel
theorem dL_law_433 : decode cL_law 433 = .ok (.iload 13, 2) := by decide +kernel
theorem dL_law_435 : decode cL_law 435 = .ok (.ifCond .lt 288, 3) := by decide +kernel
theorem dL_law_438 : decode cL_law 438 = .ok (.aload_n 1, 1) := by decide +kernel
theorem dL_law_439 : decode cL_law 439 = .ok (.iload 9, 2) := by decide +kernel
theorem dL_law_441 : decode cL_law 441 = .ok (.iconst 3, 1) := by decide +kernel
theorem dL_law_442 : decode cL_law 442 = .ok (.invokestatic 109, 3) := by decide +kernel
theorem dL_law_445 : decode cL_law 445 = .ok (.iconst 1, 1) := by decide +kernel
theorem dL_law_446 : decode cL_law 446 = .ok (.if_icmp .ne 7, 3) := by decide +kernel
theorem dL_law_449 : decode cL_law 449 = .ok (.iconst 1, 1) := by decide +kernel
theorem dL_law_450 : decode cL_law 450 = .ok (.goto 4, 3) := by decide +kernel
theorem dL_law_453 : decode cL_law 453 = .ok (.iconst 0, 1) := by decide +kernel
theorem dL_law_454 : decode cL_law 454 = .ok (.iload 13, 2) := by decide +kernel
theorem dL_law_456 : decode cL_law 456 = .ok (.ifCond .ne 7, 3) := by decide +kernel
theorem dL_law_459 : decode cL_law 459 = .ok (.iconst 1, 1) := by decide +kernel
theorem dL_law_460 : decode cL_law 460 = .ok (.goto 4, 3) := by decide +kernel
theorem dL_law_463 : decode cL_law 463 = .ok (.iconst 0, 1) := by decide +kernel
theorem dL_law_464 : decode cL_law 464 = .ok (.if_icmp .eq 259, 3) := by decide +kernel
theorem dL_law_467 : decode cL_law 467 = .ok (.iconst 0, 1) := by decide +kernel
theorem dL_law_468 : decode cL_law 468 = .ok (.ireturn, 1) := by decide +kernel
theorem dL_law_469 : decode cL_law 469 = .ok (.iload 14, 2) := by decide +kernel
theorem dL_law_471 : decode cL_law 471 = .ok (.bipush 29, 2) := by decide +kernel
theorem dL_law_473 : decode cL_law 473 = .ok (.if_icmp .ge 154, 3) := by decide +kernel
theorem dL_law_476 : decode cL_law 476 = .ok (.aload_n 1, 1) := by decide +kernel
theorem dL_law_477 : decode cL_law 477 = .ok (.iload 9, 2) := by decide +kernel
theorem dL_law_479 : decode cL_law 479 = .ok (.iconst 4, 1) := by decide +kernel
theorem dL_law_480 : decode cL_law 480 = .ok (.invokestatic 109, 3) := by decide +kernel
theorem dL_law_483 : decode cL_law 483 = .ok (.istore 15, 2) := by decide +kernel
theorem dL_law_485 : decode cL_law 485 = .ok (.aload_n 1, 1) := by decide +kernel
theorem dL_law_486 : decode cL_law 486 = .ok (.iload 9, 2) := by decide +kernel
theorem dL_law_488 : decode cL_law 488 = .ok (.iconst 3, 1) := by decide +kernel
theorem dL_law_489 : decode cL_law 489 = .ok (.invokestatic 109, 3) := by decide +kernel
theorem dL_law_492 : decode cL_law 492 = .ok (.iconst 1, 1) := by decide +kernel
theorem dL_law_493 : decode cL_law 493 = .ok (.if_icmp .ne 7, 3) := by decide +kernel
theorem dL_law_496 : decode cL_law 496 = .ok (.iconst 1, 1) := by decide +kernel
theorem dL_law_497 : decode cL_law 497 = .ok (.goto 4, 3) := by decide +kernel
theorem dL_law_500 : decode cL_law 500 = .ok (.iconst 0, 1) := by decide +kernel
theorem dL_law_501 : decode cL_law 501 = .ok (.istore 16, 2) := by decide +kernel
theorem dL_law_503 : decode cL_law 503 = .ok (.aload_n 1, 1) := by decide +kernel
theorem dL_law_504 : decode cL_law 504 = .ok (.iload 9, 2) := by decide +kernel
theorem dL_law_506 : decode cL_law 506 = .ok (.iconst 5, 1) := by decide +kernel
theorem dL_law_507 : decode cL_law 507 = .ok (.invokestatic 109, 3) := by decide +kernel
theorem dL_law_510 : decode cL_law 510 = .ok (.istore 13, 2) := by decide +kernel
theorem dL_law_512 : decode cL_law 512 = .ok (.iload 13, 2) := by decide +kernel
theorem dL_law_514 : decode cL_law 514 = .ok (.ifCond .lt 69, 3) := by decide +kernel
theorem dL_law_517 : decode cL_law 517 = .ok (.aload_n 2, 1) := by decide +kernel
theorem dL_law_518 : decode cL_law 518 = .ok (.iload_n 3, 1) := by decide +kernel
theorem dL_law_519 : decode cL_law 519 = .ok (.iconst 3, 1) := by decide +kernel
theorem dL_law_520 : decode cL_law 520 = .ok (.newarray .int, 2) := by decide +kernel
theorem dL_law_522 : decode cL_law 522 = .ok (.dup, 1) := by decide +kernel
theorem dL_law_523 : decode cL_law 523 = .ok (.iconst 0, 1) := by decide +kernel
theorem dL_law_524 : decode cL_law 524 = .ok (.iload 9, 2) := by decide +kernel
theorem dL_law_526 : decode cL_law 526 = .ok (.iastore, 1) := by decide +kernel
theorem dL_law_527 : decode cL_law 527 = .ok (.dup, 1) := by decide +kernel
theorem dL_law_528 : decode cL_law 528 = .ok (.iconst 1, 1) := by decide +kernel
theorem dL_law_529 : decode cL_law 529 = .ok (.iload 13, 2) := by decide +kernel
theorem dL_law_531 : decode cL_law 531 = .ok (.iastore, 1) := by decide +kernel
theorem dL_law_532 : decode cL_law 532 = .ok (.dup, 1) := by decide +kernel
theorem dL_law_533 : decode cL_law 533 = .ok (.iconst 2, 1) := by decide +kernel
theorem dL_law_534 : decode cL_law 534 = .ok (.iconst 0, 1) := by decide +kernel
theorem dL_law_535 : decode cL_law 535 = .ok (.iastore, 1) := by decide +kernel
theorem dL_law_536 : decode cL_law 536 = .ok (.aastore, 1) := by decide +kernel
theorem dL_law_537 : decode cL_law 537 = .ok (.iinc 3 1, 3) := by decide +kernel
theorem dL_law_540 : decode cL_law 540 = .ok (.iconst 0, 1) := by decide +kernel
theorem dL_law_541 : decode cL_law 541 = .ok (.istore 17, 2) := by decide +kernel
theorem dL_law_543 : decode cL_law 543 = .ok (.iload 17, 2) := by decide +kernel
theorem dL_law_545 : decode cL_law 545 = .ok (.iload 8, 2) := by decide +kernel
theorem dL_law_547 : decode cL_law 547 = .ok (.if_icmp .ge 36, 3) := by decide +kernel
theorem dL_law_550 : decode cL_law 550 = .ok (.aload_n 1, 1) := by decide +kernel
theorem dL_law_551 : decode cL_law 551 = .ok (.iload 9, 2) := by decide +kernel
theorem dL_law_553 : decode cL_law 553 = .ok (.iload 13, 2) := by decide +kernel
theorem dL_law_555 : decode cL_law 555 = .ok (.bipush 10, 2) := by decide +kernel
theorem dL_law_557 : decode cL_law 557 = .ok (.iload 17, 2) := by decide +kernel
theorem dL_law_559 : decode cL_law 559 = .ok (.iadd, 1) := by decide +kernel
theorem dL_law_560 : decode cL_law 560 = .ok (.invokestatic 152, 3) := by decide +kernel
theorem dL_law_563 : decode cL_law 563 = .ok (.aload_n 1, 1) := by decide +kernel
theorem dL_law_564 : decode cL_law 564 = .ok (.iload 9, 2) := by decide +kernel
theorem dL_law_566 : decode cL_law 566 = .ok (.iload 17, 2) := by decide +kernel
theorem dL_law_568 : decode cL_law 568 = .ok (.iconst 0, 1) := by decide +kernel
theorem dL_law_569 : decode cL_law 569 = .ok (.invokestatic 149, 3) := by decide +kernel
theorem dL_law_572 : decode cL_law 572 = .ok (.if_icmp .eq 5, 3) := by decide +kernel
theorem dL_law_575 : decode cL_law 575 = .ok (.iconst 0, 1) := by decide +kernel
theorem dL_law_576 : decode cL_law 576 = .ok (.ireturn, 1) := by decide +kernel
theorem dL_law_577 : decode cL_law 577 = .ok (.iinc 17 1, 3) := by decide +kernel
theorem dL_law_580 : decode cL_law 580 = .ok (.goto (-37), 3) := by decide +kernel
theorem dL_law_583 : decode cL_law 583 = .ok (.iload 13, 2) := by decide +kernel
theorem dL_law_585 : decode cL_law 585 = .ok (.ifCond .lt 18, 3) := by decide +kernel
theorem dL_law_588 : decode cL_law 588 = .ok (.iload 13, 2) := by decide +kernel
theorem dL_law_590 : decode cL_law 590 = .ok (.iload 15, 2) := by decide +kernel
theorem dL_law_592 : decode cL_law 592 = .ok (.if_icmp .ne 30, 3) := by decide +kernel
theorem dL_law_595 : decode cL_law 595 = .ok (.iload 16, 2) := by decide +kernel
theorem dL_law_597 : decode cL_law 597 = .ok (.ifCond .ne 27, 3) := by decide +kernel
theorem dL_law_600 : decode cL_law 600 = .ok (.goto 22, 3) := by decide +kernel
theorem dL_law_603 : decode cL_law 603 = .ok (.iload 16, 2) := by decide +kernel
theorem dL_law_605 : decode cL_law 605 = .ok (.ifCond .eq 19, 3) := by decide +kernel
theorem dL_law_608 : decode cL_law 608 = .ok (.iload 15, 2) := by decide +kernel
theorem dL_law_610 : decode cL_law 610 = .ok (.sipush 1000, 3) := by decide +kernel
theorem dL_law_613 : decode cL_law 613 = .ok (.if_icmp .ge 11, 3) := by decide +kernel
theorem dL_law_616 : decode cL_law 616 = .ok (.iload_n 3, 1) := by decide +kernel
theorem dL_law_617 : decode cL_law 617 = .ok (.bipush 20, 2) := by decide +kernel
theorem dL_law_619 : decode cL_law 619 = .ok (.if_icmp .ge 5, 3) := by decide +kernel
theorem dL_law_622 : decode cL_law 622 = .ok (.iconst 0, 1) := by decide +kernel
theorem dL_law_623 : decode cL_law 623 = .ok (.ireturn, 1) := by decide +kernel
theorem dL_law_624 : decode cL_law 624 = .ok (.goto 99, 3) := by decide +kernel
theorem dL_law_627 : decode cL_law 627 = .ok (.iload_n 3, 1) := by decide +kernel
theorem dL_law_628 : decode cL_law 628 = .ok (.ifCond .le 95, 3) := by decide +kernel
theorem dL_law_631 : decode cL_law 631 = .ok (.iload 7, 2) := by decide +kernel
theorem dL_law_633 : decode cL_law 633 = .ok (.bipush 7, 2) := by decide +kernel
theorem dL_law_635 : decode cL_law 635 = .ok (.idiv, 1) := by decide +kernel
theorem dL_law_636 : decode cL_law 636 = .ok (.iload_n 3, 1) := by decide +kernel
theorem dL_law_637 : decode cL_law 637 = .ok (.irem, 1) := by decide +kernel
theorem dL_law_638 : decode cL_law 638 = .ok (.istore 15, 2) := by decide +kernel
theorem dL_law_640 : decode cL_law 640 = .ok (.aload_n 1, 1) := by decide +kernel
theorem dL_law_641 : decode cL_law 641 = .ok (.aload_n 2, 1) := by decide +kernel
theorem dL_law_642 : decode cL_law 642 = .ok (.iload 15, 2) := by decide +kernel
theorem dL_law_644 : decode cL_law 644 = .ok (.aaload, 1) := by decide +kernel
theorem dL_law_645 : decode cL_law 645 = .ok (.iconst 0, 1) := by decide +kernel
theorem dL_law_646 : decode cL_law 646 = .ok (.iaload, 1) := by decide +kernel
theorem dL_law_647 : decode cL_law 647 = .ok (.aload_n 2, 1) := by decide +kernel
theorem dL_law_648 : decode cL_law 648 = .ok (.iload 15, 2) := by decide +kernel
theorem dL_law_650 : decode cL_law 650 = .ok (.aaload, 1) := by decide +kernel
theorem dL_law_651 : decode cL_law 651 = .ok (.iconst 1, 1) := by decide +kernel
theorem dL_law_652 : decode cL_law 652 = .ok (.iaload, 1) := by decide +kernel
theorem dL_law_653 : decode cL_law 653 = .ok (.iload 14, 2) := by decide +kernel
theorem dL_law_655 : decode cL_law 655 = .ok (.bipush 31, 2) := by decide +kernel
theorem dL_law_657 : decode cL_law 657 = .ok (.if_icmp .ge 7, 3) := by decide +kernel
theorem dL_law_660 : decode cL_law 660 = .ok (.iconst 0, 1) := by decide +kernel
theorem dL_law_661 : decode cL_law 661 = .ok (.goto 4, 3) := by decide +kernel
theorem dL_law_664 : decode cL_law 664 = .ok (.iconst 2, 1) := by decide +kernel
theorem dL_law_665 : decode cL_law 665 = .ok (.invokestatic 152, 3) := by decide +kernel
theorem dL_law_668 : decode cL_law 668 = .ok (.istore 13, 2) := by decide +kernel
theorem dL_law_670 : decode cL_law 670 = .ok (.iload 13, 2) := by decide +kernel
theorem dL_law_672 : decode cL_law 672 = .ok (.ifCond .lt 17, 3) := by decide +kernel
theorem dL_law_675 : decode cL_law 675 = .ok (.iload 14, 2) := by decide +kernel
theorem dL_law_677 : decode cL_law 677 = .ok (.bipush 31, 2) := by decide +kernel
theorem dL_law_679 : decode cL_law 679 = .ok (.if_icmp .ge 10, 3) := by decide +kernel
theorem dL_law_682 : decode cL_law 682 = .ok (.aload_n 2, 1) := by decide +kernel
theorem dL_law_683 : decode cL_law 683 = .ok (.iload 15, 2) := by decide +kernel
theorem dL_law_685 : decode cL_law 685 = .ok (.aaload, 1) := by decide +kernel
theorem dL_law_686 : decode cL_law 686 = .ok (.iconst 2, 1) := by decide +kernel
theorem dL_law_687 : decode cL_law 687 = .ok (.iconst 1, 1) := by decide +kernel
theorem dL_law_688 : decode cL_law 688 = .ok (.iastore, 1) := by decide +kernel
theorem dL_law_689 : decode cL_law 689 = .ok (.iload 13, 2) := by decide +kernel
theorem dL_law_691 : decode cL_law 691 = .ok (.ifCond .lt 32, 3) := by decide +kernel
theorem dL_law_694 : decode cL_law 694 = .ok (.iload 14, 2) := by decide +kernel
theorem dL_law_696 : decode cL_law 696 = .ok (.bipush 31, 2) := by decide +kernel
theorem dL_law_698 : decode cL_law 698 = .ok (.if_icmp .ne 25, 3) := by decide +kernel
theorem dL_law_701 : decode cL_law 701 = .ok (.aload_n 1, 1) := by decide +kernel
theorem dL_law_702 : decode cL_law 702 = .ok (.aload_n 2, 1) := by decide +kernel
theorem dL_law_703 : decode cL_law 703 = .ok (.iload 15, 2) := by decide +kernel
theorem dL_law_705 : decode cL_law 705 = .ok (.aaload, 1) := by decide +kernel
theorem dL_law_706 : decode cL_law 706 = .ok (.iconst 0, 1) := by decide +kernel
theorem dL_law_707 : decode cL_law 707 = .ok (.iaload, 1) := by decide +kernel
theorem dL_law_708 : decode cL_law 708 = .ok (.aload_n 2, 1) := by decide +kernel
theorem dL_law_709 : decode cL_law 709 = .ok (.iload 15, 2) := by decide +kernel
theorem dL_law_711 : decode cL_law 711 = .ok (.aaload, 1) := by decide +kernel
theorem dL_law_712 : decode cL_law 712 = .ok (.iconst 1, 1) := by decide +kernel
theorem dL_law_713 : decode cL_law 713 = .ok (.iaload, 1) := by decide +kernel
theorem dL_law_714 : decode cL_law 714 = .ok (.iconst 1, 1) := by decide +kernel
theorem dL_law_715 : decode cL_law 715 = .ok (.invokestatic 152, 3) := by decide +kernel
theorem dL_law_718 : decode cL_law 718 = .ok (.ifCond .eq 5, 3) := by decide +kernel
theorem dL_law_721 : decode cL_law 721 = .ok (.iconst 0, 1) := by decide +kernel
theorem dL_law_722 : decode cL_law 722 = .ok (.ireturn, 1) := by decide +kernel
theorem dL_law_723 : decode cL_law 723 = .ok (.iload 13, 2) := by decide +kernel
theorem dL_law_725 : decode cL_law 725 = .ok (.sipush (-1000), 3) := by decide +kernel
theorem dL_law_728 : decode cL_law 728 = .ok (.if_icmp .ge 18, 3) := by decide +kernel
theorem dL_law_731 : decode cL_law 731 = .ok (.iload 10, 2) := by decide +kernel
theorem dL_law_733 : decode cL_law 733 = .ok (.ifCond .eq 13, 3) := by decide +kernel
theorem dL_law_736 : decode cL_law 736 = .ok (.aload_n 1, 1) := by decide +kernel
theorem dL_law_737 : decode cL_law 737 = .ok (.invokestatic 175, 3) := by decide +kernel
theorem dL_law_740 : decode cL_law 740 = .ok (.lload 11, 2) := by decide +kernel
theorem dL_law_742 : decode cL_law 742 = .ok (.lcmp, 1) := by decide +kernel
theorem dL_law_743 : decode cL_law 743 = .ok (.ifCond .ne 22, 3) := by decide +kernel
theorem dL_law_746 : decode cL_law 746 = .ok (.iload 5, 2) := by decide +kernel
theorem dL_law_748 : decode cL_law 748 = .ok (.bipush 9, 2) := by decide +kernel
theorem dL_law_750 : decode cL_law 750 = .ok (.irem, 1) := by decide +kernel
theorem dL_law_751 : decode cL_law 751 = .ok (.bipush 8, 2) := by decide +kernel
theorem dL_law_753 : decode cL_law 753 = .ok (.if_icmp .ne 14, 3) := by decide +kernel
theorem dL_law_756 : decode cL_law 756 = .ok (.aload_n 1, 1) := by decide +kernel
theorem dL_law_757 : decode cL_law 757 = .ok (.aload_n 2, 1) := by decide +kernel
theorem dL_law_758 : decode cL_law 758 = .ok (.iload_n 3, 1) := by decide +kernel
theorem dL_law_759 : decode cL_law 759 = .ok (.invokestatic 191, 3) := by decide +kernel
theorem dL_law_762 : decode cL_law 762 = .ok (.ifCond .ne 5, 3) := by decide +kernel
theorem dL_law_765 : decode cL_law 765 = .ok (.iconst 0, 1) := by decide +kernel
theorem dL_law_766 : decode cL_law 766 = .ok (.ireturn, 1) := by decide +kernel
theorem dL_law_767 : decode cL_law 767 = .ok (.iinc 5 1, 3) := by decide +kernel
theorem dL_law_770 : decode cL_law 770 = .ok (.goto (-737), 3) := by decide +kernel
theorem dL_law_773 : decode cL_law 773 = .ok (.aload_n 1, 1) := by decide +kernel
theorem dL_law_774 : decode cL_law 774 = .ok (.aload_n 2, 1) := by decide +kernel
theorem dL_law_775 : decode cL_law 775 = .ok (.iload_n 3, 1) := by decide +kernel
theorem dL_law_776 : decode cL_law 776 = .ok (.invokestatic 191, 3) := by decide +kernel
theorem dL_law_779 : decode cL_law 779 = .ok (.ifCond .ne 5, 3) := by decide +kernel
theorem dL_law_782 : decode cL_law 782 = .ok (.iconst 0, 1) := by decide +kernel
theorem dL_law_783 : decode cL_law 783 = .ok (.ireturn, 1) := by decide +kernel
theorem dL_law_784 : decode cL_law 784 = .ok (.aload_n 1, 1) := by decide +kernel
theorem dL_law_785 : decode cL_law 785 = .ok (.invokestatic 175, 3) := by decide +kernel
theorem dL_law_788 : decode cL_law 788 = .ok (.lstore 5, 2) := by decide +kernel
theorem dL_law_790 : decode cL_law 790 = .ok (.aload_n 1, 1) := by decide +kernel
theorem dL_law_791 : decode cL_law 791 = .ok (.invokestatic 118, 3) := by decide +kernel
theorem dL_law_794 : decode cL_law 794 = .ok (.istore 7, 2) := by decide +kernel
theorem dL_law_796 : decode cL_law 796 = .ok (.aload_n 1, 1) := by decide +kernel
theorem dL_law_797 : decode cL_law 797 = .ok (.invokestatic 156, 3) := by decide +kernel
theorem dL_law_800 : decode cL_law 800 = .ok (.istore 8, 2) := by decide +kernel
theorem dL_law_802 : decode cL_law 802 = .ok (.aload_n 1, 1) := by decide +kernel
theorem dL_law_803 : decode cL_law 803 = .ok (.iconst 3, 1) := by decide +kernel
theorem dL_law_804 : decode cL_law 804 = .ok (.invokestatic 179, 3) := by decide +kernel
theorem dL_law_807 : decode cL_law 807 = .ok (.sipush (-1001), 3) := by decide +kernel
theorem dL_law_810 : decode cL_law 810 = .ok (.if_icmp .ne 250, 3) := by decide +kernel
theorem dL_law_813 : decode cL_law 813 = .ok (.aload_n 1, 1) := by decide +kernel
theorem dL_law_814 : decode cL_law 814 = .ok (.iconst (-1), 1) := by decide +kernel
theorem dL_law_815 : decode cL_law 815 = .ok (.invokestatic 179, 3) := by decide +kernel
theorem dL_law_818 : decode cL_law 818 = .ok (.sipush (-1001), 3) := by decide +kernel
theorem dL_law_821 : decode cL_law 821 = .ok (.if_icmp .ne 239, 3) := by decide +kernel
theorem dL_law_824 : decode cL_law 824 = .ok (.aload_n 1, 1) := by decide +kernel
theorem dL_law_825 : decode cL_law 825 = .ok (.iload 7, 2) := by decide +kernel
theorem dL_law_827 : decode cL_law 827 = .ok (.sipush 1000, 3) := by decide +kernel
theorem dL_law_830 : decode cL_law 830 = .ok (.iconst 0, 1) := by decide +kernel
theorem dL_law_831 : decode cL_law 831 = .ok (.invokestatic 183, 3) := by decide +kernel
theorem dL_law_834 : decode cL_law 834 = .ok (.sipush (-1001), 3) := by decide +kernel
theorem dL_law_837 : decode cL_law 837 = .ok (.if_icmp .ne 223, 3) := by decide +kernel
theorem dL_law_840 : decode cL_law 840 = .ok (.iload 7, 2) := by decide +kernel
theorem dL_law_842 : decode cL_law 842 = .ok (.ifCond .le 18, 3) := by decide +kernel
theorem dL_law_845 : decode cL_law 845 = .ok (.aload_n 1, 1) := by decide +kernel
theorem dL_law_846 : decode cL_law 846 = .ok (.iconst 0, 1) := by decide +kernel
theorem dL_law_847 : decode cL_law 847 = .ok (.sipush 1000, 3) := by decide +kernel
theorem dL_law_850 : decode cL_law 850 = .ok (.iconst 0, 1) := by decide +kernel
theorem dL_law_851 : decode cL_law 851 = .ok (.invokestatic 183, 3) := by decide +kernel
theorem dL_law_854 : decode cL_law 854 = .ok (.sipush (-1002), 3) := by decide +kernel
theorem dL_law_857 : decode cL_law 857 = .ok (.if_icmp .ne 203, 3) := by decide +kernel
theorem dL_law_860 : decode cL_law 860 = .ok (.iload 7, 2) := by decide +kernel
theorem dL_law_862 : decode cL_law 862 = .ok (.ifCond .le 16, 3) := by decide +kernel
theorem dL_law_865 : decode cL_law 865 = .ok (.aload_n 1, 1) := by decide +kernel
theorem dL_law_866 : decode cL_law 866 = .ok (.iconst 0, 1) := by decide +kernel
theorem dL_law_867 : decode cL_law 867 = .ok (.iconst 0, 1) := by decide +kernel
theorem dL_law_868 : decode cL_law 868 = .ok (.iconst (-1), 1) := by decide +kernel
theorem dL_law_869 : decode cL_law 869 = .ok (.invokestatic 183, 3) := by decide +kernel
theorem dL_law_872 : decode cL_law 872 = .ok (.sipush (-1002), 3) := by decide +kernel
theorem dL_law_875 : decode cL_law 875 = .ok (.if_icmp .ne 185, 3) := by decide +kernel
theorem dL_law_878 : decode cL_law 878 = .ok (.aload_n 1, 1) := by decide +kernel
theorem dL_law_879 : decode cL_law 879 = .ok (.iload 7, 2) := by decide +kernel
theorem dL_law_881 : decode cL_law 881 = .ok (.iconst 0, 1) := by decide +kernel
theorem dL_law_882 : decode cL_law 882 = .ok (.iconst 0, 1) := by decide +kernel
theorem dL_law_883 : decode cL_law 883 = .ok (.iconst 0, 1) := by decide +kernel
theorem dL_law_884 : decode cL_law 884 = .ok (.invokestatic 186, 3) := by decide +kernel
theorem dL_law_887 : decode cL_law 887 = .ok (.sipush (-1001), 3) := by decide +kernel
theorem dL_law_890 : decode cL_law 890 = .ok (.if_icmp .ne 170, 3) := by decide +kernel
theorem dL_law_893 : decode cL_law 893 = .ok (.aload_n 1, 1) := by decide +kernel
theorem dL_law_894 : decode cL_law 894 = .ok (.iconst 0, 1) := by decide +kernel
theorem dL_law_895 : decode cL_law 895 = .ok (.iload 7, 2) := by decide +kernel
theorem dL_law_897 : decode cL_law 897 = .ok (.bipush 100, 2) := by decide +kernel
theorem dL_law_899 : decode cL_law 899 = .ok (.bipush 100, 2) := by decide +kernel
theorem dL_law_901 : decode cL_law 901 = .ok (.invokestatic 186, 3) := by decide +kernel
theorem dL_law_904 : decode cL_law 904 = .ok (.sipush (-1001), 3) := by decide +kernel
theorem dL_law_907 : decode cL_law 907 = .ok (.if_icmp .ne 153, 3) := by decide +kernel
theorem dL_law_910 : decode cL_law 910 = .ok (.iload 7, 2) := by decide +kernel
theorem dL_law_912 : decode cL_law 912 = .ok (.ifCond .le 19, 3) := by decide +kernel
theorem dL_law_915 : decode cL_law 915 = .ok (.aload_n 1, 1) := by decide +kernel
theorem dL_law_916 : decode cL_law 916 = .ok (.iconst 0, 1) := by decide +kernel
theorem dL_law_917 : decode cL_law 917 = .ok (.iconst 0, 1) := by decide +kernel
theorem dL_law_918 : decode cL_law 918 = .ok (.bipush 100, 2) := by decide +kernel
theorem dL_law_920 : decode cL_law 920 = .ok (.bipush 100, 2) := by decide +kernel
theorem dL_law_922 : decode cL_law 922 = .ok (.invokestatic 186, 3) := by decide +kernel
theorem dL_law_925 : decode cL_law 925 = .ok (.sipush (-1002), 3) := by decide +kernel
theorem dL_law_928 : decode cL_law 928 = .ok (.if_icmp .ne 132, 3) := by decide +kernel
theorem dL_law_931 : decode cL_law 931 = .ok (.iload 7, 2) := by decide +kernel
theorem dL_law_933 : decode cL_law 933 = .ok (.iconst 1, 1) := by decide +kernel
theorem dL_law_934 : decode cL_law 934 = .ok (.if_icmp .le 19, 3) := by decide +kernel
theorem dL_law_937 : decode cL_law 937 = .ok (.aload_n 1, 1) := by decide +kernel
theorem dL_law_938 : decode cL_law 938 = .ok (.iconst 1, 1) := by decide +kernel
theorem dL_law_939 : decode cL_law 939 = .ok (.iconst 0, 1) := by decide +kernel
theorem dL_law_940 : decode cL_law 940 = .ok (.bipush 99, 2) := by decide +kernel
theorem dL_law_942 : decode cL_law 942 = .ok (.bipush 100, 2) := by decide +kernel
theorem dL_law_944 : decode cL_law 944 = .ok (.invokestatic 186, 3) := by decide +kernel
theorem dL_law_947 : decode cL_law 947 = .ok (.sipush (-1002), 3) := by decide +kernel
theorem dL_law_950 : decode cL_law 950 = .ok (.if_icmp .ne 110, 3) := by decide +kernel
theorem dL_law_953 : decode cL_law 953 = .ok (.iload 7, 2) := by decide +kernel
theorem dL_law_955 : decode cL_law 955 = .ok (.iconst 1, 1) := by decide +kernel
theorem dL_law_956 : decode cL_law 956 = .ok (.if_icmp .le 19, 3) := by decide +kernel
theorem dL_law_959 : decode cL_law 959 = .ok (.aload_n 1, 1) := by decide +kernel
theorem dL_law_960 : decode cL_law 960 = .ok (.iconst 1, 1) := by decide +kernel
theorem dL_law_961 : decode cL_law 961 = .ok (.iconst 0, 1) := by decide +kernel
theorem dL_law_962 : decode cL_law 962 = .ok (.bipush 101, 2) := by decide +kernel
theorem dL_law_964 : decode cL_law 964 = .ok (.bipush 100, 2) := by decide +kernel
theorem dL_law_966 : decode cL_law 966 = .ok (.invokestatic 186, 3) := by decide +kernel
theorem dL_law_969 : decode cL_law 969 = .ok (.sipush (-1002), 3) := by decide +kernel
theorem dL_law_972 : decode cL_law 972 = .ok (.if_icmp .ne 88, 3) := by decide +kernel
theorem dL_law_975 : decode cL_law 975 = .ok (.iload 7, 2) := by decide +kernel
theorem dL_law_977 : decode cL_law 977 = .ok (.iconst 1, 1) := by decide +kernel
theorem dL_law_978 : decode cL_law 978 = .ok (.if_icmp .le 20, 3) := by decide +kernel
theorem dL_law_981 : decode cL_law 981 = .ok (.aload_n 1, 1) := by decide +kernel
theorem dL_law_982 : decode cL_law 982 = .ok (.iconst 1, 1) := by decide +kernel
theorem dL_law_983 : decode cL_law 983 = .ok (.iconst 0, 1) := by decide +kernel
theorem dL_law_984 : decode cL_law 984 = .ok (.bipush 100, 2) := by decide +kernel
theorem dL_law_986 : decode cL_law 986 = .ok (.sipush 1000, 3) := by decide +kernel
theorem dL_law_989 : decode cL_law 989 = .ok (.invokestatic 186, 3) := by decide +kernel
theorem dL_law_992 : decode cL_law 992 = .ok (.sipush (-1002), 3) := by decide +kernel
theorem dL_law_995 : decode cL_law 995 = .ok (.if_icmp .ne 65, 3) := by decide +kernel
theorem dL_law_998 : decode cL_law 998 = .ok (.aload_n 1, 1) := by decide +kernel
theorem dL_law_999 : decode cL_law 999 = .ok (.iload 7, 2) := by decide +kernel
theorem dL_law_1001 : decode cL_law 1001 = .ok (.iconst 0, 1) := by decide +kernel
theorem dL_law_1002 : decode cL_law 1002 = .ok (.iconst (-1), 1) := by decide +kernel
theorem dL_law_1003 : decode cL_law 1003 = .ok (.iconst 0, 1) := by decide +kernel
theorem dL_law_1004 : decode cL_law 1004 = .ok (.invokestatic 186, 3) := by decide +kernel
theorem dL_law_1007 : decode cL_law 1007 = .ok (.sipush (-1001), 3) := by decide +kernel
theorem dL_law_1010 : decode cL_law 1010 = .ok (.if_icmp .ne 50, 3) := by decide +kernel
theorem dL_law_1013 : decode cL_law 1013 = .ok (.iload 7, 2) := by decide +kernel
theorem dL_law_1015 : decode cL_law 1015 = .ok (.ifCond .le 17, 3) := by decide +kernel
theorem dL_law_1018 : decode cL_law 1018 = .ok (.aload_n 1, 1) := by decide +kernel
theorem dL_law_1019 : decode cL_law 1019 = .ok (.iconst 0, 1) := by decide +kernel
theorem dL_law_1020 : decode cL_law 1020 = .ok (.iconst 0, 1) := by decide +kernel
theorem dL_law_1021 : decode cL_law 1021 = .ok (.iconst (-1), 1) := by decide +kernel
theorem dL_law_1022 : decode cL_law 1022 = .ok (.iconst 0, 1) := by decide +kernel
theorem dL_law_1023 : decode cL_law 1023 = .ok (.invokestatic 186, 3) := by decide +kernel
theorem dL_law_1026 : decode cL_law 1026 = .ok (.sipush (-1002), 3) := by decide +kernel
theorem dL_law_1029 : decode cL_law 1029 = .ok (.if_icmp .ne 31, 3) := by decide +kernel
theorem dL_law_1032 : decode cL_law 1032 = .ok (.aload_n 1, 1) := by decide +kernel
theorem dL_law_1033 : decode cL_law 1033 = .ok (.iload 7, 2) := by decide +kernel
theorem dL_law_1035 : decode cL_law 1035 = .ok (.iconst 0, 1) := by decide +kernel
theorem dL_law_1036 : decode cL_law 1036 = .ok (.iconst 0, 1) := by decide +kernel
theorem dL_law_1037 : decode cL_law 1037 = .ok (.invokestatic 149, 3) := by decide +kernel
theorem dL_law_1040 : decode cL_law 1040 = .ok (.sipush (-1001), 3) := by decide +kernel
theorem dL_law_1043 : decode cL_law 1043 = .ok (.if_icmp .ne 17, 3) := by decide +kernel
theorem dL_law_1046 : decode cL_law 1046 = .ok (.aload_n 1, 1) := by decide +kernel
theorem dL_law_1047 : decode cL_law 1047 = .ok (.iconst 0, 1) := by decide +kernel
theorem dL_law_1048 : decode cL_law 1048 = .ok (.iload 7, 2) := by decide +kernel
theorem dL_law_1050 : decode cL_law 1050 = .ok (.iconst 1, 1) := by decide +kernel
theorem dL_law_1051 : decode cL_law 1051 = .ok (.invokestatic 149, 3) := by decide +kernel
theorem dL_law_1054 : decode cL_law 1054 = .ok (.sipush (-1001), 3) := by decide +kernel
theorem dL_law_1057 : decode cL_law 1057 = .ok (.if_icmp .eq 5, 3) := by decide +kernel
theorem dL_law_1060 : decode cL_law 1060 = .ok (.iconst 0, 1) := by decide +kernel
theorem dL_law_1061 : decode cL_law 1061 = .ok (.ireturn, 1) := by decide +kernel
theorem dL_law_1062 : decode cL_law 1062 = .ok (.iconst 0, 1) := by decide +kernel
theorem dL_law_1063 : decode cL_law 1063 = .ok (.istore 9, 2) := by decide +kernel
theorem dL_law_1065 : decode cL_law 1065 = .ok (.iload 9, 2) := by decide +kernel
theorem dL_law_1067 : decode cL_law 1067 = .ok (.bipush 6, 2) := by decide +kernel
theorem dL_law_1069 : decode cL_law 1069 = .ok (.if_icmp .ge 38, 3) := by decide +kernel
theorem dL_law_1072 : decode cL_law 1072 = .ok (.aload_n 1, 1) := by decide +kernel
theorem dL_law_1073 : decode cL_law 1073 = .ok (.iload 7, 2) := by decide +kernel
theorem dL_law_1075 : decode cL_law 1075 = .ok (.iload 9, 2) := by decide +kernel
theorem dL_law_1077 : decode cL_law 1077 = .ok (.invokestatic 109, 3) := by decide +kernel
theorem dL_law_1080 : decode cL_law 1080 = .ok (.sipush (-1001), 3) := by decide +kernel
theorem dL_law_1083 : decode cL_law 1083 = .ok (.if_icmp .ne 16, 3) := by decide +kernel
theorem dL_law_1086 : decode cL_law 1086 = .ok (.aload_n 1, 1) := by decide +kernel
theorem dL_law_1087 : decode cL_law 1087 = .ok (.iconst (-1), 1) := by decide +kernel
theorem dL_law_1088 : decode cL_law 1088 = .ok (.iload 9, 2) := by decide +kernel
theorem dL_law_1090 : decode cL_law 1090 = .ok (.invokestatic 109, 3) := by decide +kernel
theorem dL_law_1093 : decode cL_law 1093 = .ok (.sipush (-1001), 3) := by decide +kernel
theorem dL_law_1096 : decode cL_law 1096 = .ok (.if_icmp .eq 5, 3) := by decide +kernel
theorem dL_law_1099 : decode cL_law 1099 = .ok (.iconst 0, 1) := by decide +kernel
theorem dL_law_1100 : decode cL_law 1100 = .ok (.ireturn, 1) := by decide +kernel
theorem dL_law_1101 : decode cL_law 1101 = .ok (.iinc 9 1, 3) := by decide +kernel
theorem dL_law_1104 : decode cL_law 1104 = .ok (.goto (-39), 3) := by decide +kernel
theorem dL_law_1107 : decode cL_law 1107 = .ok (.aload_n 1, 1) := by decide +kernel
theorem dL_law_1108 : decode cL_law 1108 = .ok (.iload 7, 2) := by decide +kernel
theorem dL_law_1110 : decode cL_law 1110 = .ok (.iconst 0, 1) := by decide +kernel
theorem dL_law_1111 : decode cL_law 1111 = .ok (.invokestatic 189, 3) := by decide +kernel
theorem dL_law_1114 : decode cL_law 1114 = .ok (.sipush (-1001), 3) := by decide +kernel
theorem dL_law_1117 : decode cL_law 1117 = .ok (.if_icmp .ne 177, 3) := by decide +kernel
theorem dL_law_1120 : decode cL_law 1120 = .ok (.iload 7, 2) := by decide +kernel
theorem dL_law_1122 : decode cL_law 1122 = .ok (.ifCond .le 15, 3) := by decide +kernel
theorem dL_law_1125 : decode cL_law 1125 = .ok (.aload_n 1, 1) := by decide +kernel
theorem dL_law_1126 : decode cL_law 1126 = .ok (.iconst 0, 1) := by decide +kernel
theorem dL_law_1127 : decode cL_law 1127 = .ok (.iconst 0, 1) := by decide +kernel
theorem dL_law_1128 : decode cL_law 1128 = .ok (.invokestatic 189, 3) := by decide +kernel
theorem dL_law_1131 : decode cL_law 1131 = .ok (.sipush (-1002), 3) := by decide +kernel
theorem dL_law_1134 : decode cL_law 1134 = .ok (.if_icmp .ne 160, 3) := by decide +kernel
theorem dL_law_1137 : decode cL_law 1137 = .ok (.iload 7, 2) := by decide +kernel
theorem dL_law_1139 : decode cL_law 1139 = .ok (.ifCond .le 16, 3) := by decide +kernel
theorem dL_law_1142 : decode cL_law 1142 = .ok (.aload_n 1, 1) := by decide +kernel
theorem dL_law_1143 : decode cL_law 1143 = .ok (.iconst 0, 1) := by decide +kernel
theorem dL_law_1144 : decode cL_law 1144 = .ok (.bipush 61, 2) := by decide +kernel
theorem dL_law_1146 : decode cL_law 1146 = .ok (.invokestatic 189, 3) := by decide +kernel
theorem dL_law_1149 : decode cL_law 1149 = .ok (.sipush (-1002), 3) := by decide +kernel
theorem dL_law_1152 : decode cL_law 1152 = .ok (.if_icmp .ne 142, 3) := by decide +kernel
theorem dL_law_1155 : decode cL_law 1155 = .ok (.aload_n 1, 1) := by decide +kernel
theorem dL_law_1156 : decode cL_law 1156 = .ok (.iload 8, 2) := by decide +kernel
theorem dL_law_1158 : decode cL_law 1158 = .ok (.iconst 0, 1) := by decide +kernel
theorem dL_law_1159 : decode cL_law 1159 = .ok (.invokestatic 115, 3) := by decide +kernel
theorem dL_law_1162 : decode cL_law 1162 = .ok (.sipush (-1001), 3) := by decide +kernel
theorem dL_law_1165 : decode cL_law 1165 = .ok (.if_icmp .ne 129, 3) := by decide +kernel
theorem dL_law_1168 : decode cL_law 1168 = .ok (.aload_n 1, 1) := by decide +kernel
theorem dL_law_1169 : decode cL_law 1169 = .ok (.iconst (-1), 1) := by decide +kernel
theorem dL_law_1170 : decode cL_law 1170 = .ok (.iconst 1, 1) := by decide +kernel
theorem dL_law_1171 : decode cL_law 1171 = .ok (.invokestatic 115, 3) := by decide +kernel
theorem dL_law_1174 : decode cL_law 1174 = .ok (.sipush (-1001), 3) := by decide +kernel
theorem dL_law_1177 : decode cL_law 1177 = .ok (.if_icmp .ne 117, 3) := by decide +kernel
theorem dL_law_1180 : decode cL_law 1180 = .ok (.aload_n 1, 1) := by decide +kernel
theorem dL_law_1181 : decode cL_law 1181 = .ok (.invokestatic 127, 3) := by decide +kernel
theorem dL_law_1184 : decode cL_law 1184 = .ok (.sipush (-1001), 3) := by decide +kernel
theorem dL_law_1187 : decode cL_law 1187 = .ok (.if_icmp .ne 7, 3) := by decide +kernel
theorem dL_law_1190 : decode cL_law 1190 = .ok (.iconst 1, 1) := by decide +kernel
theorem dL_law_1191 : decode cL_law 1191 = .ok (.goto 4, 3) := by decide +kernel
theorem dL_law_1194 : decode cL_law 1194 = .ok (.iconst 0, 1) := by decide +kernel
theorem dL_law_1195 : decode cL_law 1195 = .ok (.iload 8, 2) := by decide +kernel
theorem dL_law_1197 : decode cL_law 1197 = .ok (.ifCond .ne 7, 3) := by decide +kernel
theorem dL_law_1200 : decode cL_law 1200 = .ok (.iconst 1, 1) := by decide +kernel
theorem dL_law_1201 : decode cL_law 1201 = .ok (.goto 4, 3) := by decide +kernel
theorem dL_law_1204 : decode cL_law 1204 = .ok (.iconst 0, 1) := by decide +kernel
theorem dL_law_1205 : decode cL_law 1205 = .ok (.if_icmp .ne 89, 3) := by decide +kernel
theorem dL_law_1208 : decode cL_law 1208 = .ok (.aload_n 1, 1) := by decide +kernel
theorem dL_law_1209 : decode cL_law 1209 = .ok (.bipush 109, 2) := by decide +kernel
theorem dL_law_1211 : decode cL_law 1211 = .ok (.iconst 0, 1) := by decide +kernel
theorem dL_law_1212 : decode cL_law 1212 = .ok (.iconst 0, 1) := by decide +kernel
theorem dL_law_1213 : decode cL_law 1213 = .ok (.invokestatic 141, 3) := by decide +kernel
theorem dL_law_1216 : decode cL_law 1216 = .ok (.sipush (-1001), 3) := by decide +kernel
theorem dL_law_1219 : decode cL_law 1219 = .ok (.if_icmp .ne 75, 3) := by decide +kernel
theorem dL_law_1222 : decode cL_law 1222 = .ok (.aload_n 1, 1) := by decide +kernel
theorem dL_law_1223 : decode cL_law 1223 = .ok (.bipush 109, 2) := by decide +kernel
theorem dL_law_1225 : decode cL_law 1225 = .ok (.iconst 5, 1) := by decide +kernel
theorem dL_law_1226 : decode cL_law 1226 = .ok (.iconst 0, 1) := by decide +kernel
theorem dL_law_1227 : decode cL_law 1227 = .ok (.invokestatic 141, 3) := by decide +kernel
theorem dL_law_1230 : decode cL_law 1230 = .ok (.sipush (-1001), 3) := by decide +kernel
theorem dL_law_1233 : decode cL_law 1233 = .ok (.if_icmp .ne 61, 3) := by decide +kernel
theorem dL_law_1236 : decode cL_law 1236 = .ok (.aload_n 1, 1) := by decide +kernel
theorem dL_law_1237 : decode cL_law 1237 = .ok (.bipush 98, 2) := by decide +kernel
theorem dL_law_1239 : decode cL_law 1239 = .ok (.iconst 3, 1) := by decide +kernel
theorem dL_law_1240 : decode cL_law 1240 = .ok (.iconst 0, 1) := by decide +kernel
theorem dL_law_1241 : decode cL_law 1241 = .ok (.invokestatic 141, 3) := by decide +kernel
theorem dL_law_1244 : decode cL_law 1244 = .ok (.sipush (-1001), 3) := by decide +kernel
theorem dL_law_1247 : decode cL_law 1247 = .ok (.if_icmp .ne 47, 3) := by decide +kernel
theorem dL_law_1250 : decode cL_law 1250 = .ok (.aload_n 1, 1) := by decide +kernel
theorem dL_law_1251 : decode cL_law 1251 = .ok (.bipush 102, 2) := by decide +kernel
theorem dL_law_1253 : decode cL_law 1253 = .ok (.iconst 3, 1) := by decide +kernel
theorem dL_law_1254 : decode cL_law 1254 = .ok (.iconst 1, 1) := by decide +kernel
theorem dL_law_1255 : decode cL_law 1255 = .ok (.invokestatic 141, 3) := by decide +kernel
theorem dL_law_1258 : decode cL_law 1258 = .ok (.sipush (-1001), 3) := by decide +kernel
theorem dL_law_1261 : decode cL_law 1261 = .ok (.if_icmp .ne 33, 3) := by decide +kernel
theorem dL_law_1264 : decode cL_law 1264 = .ok (.aload_n 1, 1) := by decide +kernel
theorem dL_law_1265 : decode cL_law 1265 = .ok (.bipush 102, 2) := by decide +kernel
theorem dL_law_1267 : decode cL_law 1267 = .ok (.iconst 0, 1) := by decide +kernel
theorem dL_law_1268 : decode cL_law 1268 = .ok (.iconst 0, 1) := by decide +kernel
theorem dL_law_1269 : decode cL_law 1269 = .ok (.invokestatic 141, 3) := by decide +kernel
theorem dL_law_1272 : decode cL_law 1272 = .ok (.sipush (-1001), 3) := by decide +kernel
theorem dL_law_1275 : decode cL_law 1275 = .ok (.if_icmp .ne 19, 3) := by decide +kernel
theorem dL_law_1278 : decode cL_law 1278 = .ok (.aload_n 1, 1) := by decide +kernel
theorem dL_law_1279 : decode cL_law 1279 = .ok (.bipush 102, 2) := by decide +kernel
theorem dL_law_1281 : decode cL_law 1281 = .ok (.iconst 0, 1) := by decide +kernel
theorem dL_law_1282 : decode cL_law 1282 = .ok (.sipush 10000, 3) := by decide +kernel
theorem dL_law_1285 : decode cL_law 1285 = .ok (.invokestatic 141, 3) := by decide +kernel
theorem dL_law_1288 : decode cL_law 1288 = .ok (.sipush (-1001), 3) := by decide +kernel
theorem dL_law_1291 : decode cL_law 1291 = .ok (.if_icmp .eq 5, 3) := by decide +kernel
theorem dL_law_1294 : decode cL_law 1294 = .ok (.iconst 0, 1) := by decide +kernel
theorem dL_law_1295 : decode cL_law 1295 = .ok (.ireturn, 1) := by decide +kernel
theorem dL_law_1296 : decode cL_law 1296 = .ok (.iconst 0, 1) := by decide +kernel
theorem dL_law_1297 : decode cL_law 1297 = .ok (.istore 9, 2) := by decide +kernel
theorem dL_law_1299 : decode cL_law 1299 = .ok (.iload 9, 2) := by decide +kernel
theorem dL_law_1301 : decode cL_law 1301 = .ok (.iconst 3, 1) := by decide +kernel
theorem dL_law_1302 : decode cL_law 1302 = .ok (.if_icmp .ge 47, 3) := by decide +kernel
theorem dL_law_1305 : decode cL_law 1305 = .ok (.aload_n 1, 1) := by decide +kernel
theorem dL_law_1306 : decode cL_law 1306 = .ok (.iload 7, 2) := by decide +kernel
theorem dL_law_1308 : decode cL_law 1308 = .ok (.bipush 100, 2) := by decide +kernel
theorem dL_law_1310 : decode cL_law 1310 = .ok (.iload 9, 2) := by decide +kernel
theorem dL_law_1312 : decode cL_law 1312 = .ok (.invokestatic 152, 3) := by decide +kernel
theorem dL_law_1315 : decode cL_law 1315 = .ok (.sipush (-1001), 3) := by decide +kernel
theorem dL_law_1318 : decode cL_law 1318 = .ok (.if_icmp .ne 23, 3) := by decide +kernel
theorem dL_law_1321 : decode cL_law 1321 = .ok (.iload 7, 2) := by decide +kernel
theorem dL_law_1323 : decode cL_law 1323 = .ok (.ifCond .le 20, 3) := by decide +kernel
theorem dL_law_1326 : decode cL_law 1326 = .ok (.aload_n 1, 1) := by decide +kernel
theorem dL_law_1327 : decode cL_law 1327 = .ok (.iconst 0, 1) := by decide +kernel
theorem dL_law_1328 : decode cL_law 1328 = .ok (.bipush 99, 2) := by decide +kernel
theorem dL_law_1330 : decode cL_law 1330 = .ok (.iload 9, 2) := by decide +kernel
theorem dL_law_1332 : decode cL_law 1332 = .ok (.invokestatic 152, 3) := by decide +kernel
theorem dL_law_1335 : decode cL_law 1335 = .ok (.sipush (-1002), 3) := by decide +kernel
theorem dL_law_1338 : decode cL_law 1338 = .ok (.if_icmp .eq 5, 3) := by decide +kernel
theorem dL_law_1341 : decode cL_law 1341 = .ok (.iconst 0, 1) := by decide +kernel
theorem dL_law_1342 : decode cL_law 1342 = .ok (.ireturn, 1) := by decide +kernel
theorem dL_law_1343 : decode cL_law 1343 = .ok (.iinc 9 1, 3) := by decide +kernel
theorem dL_law_1346 : decode cL_law 1346 = .ok (.goto (-47), 3) := by decide +kernel
theorem dL_law_1349 : decode cL_law 1349 = .ok (.aload_n 1, 1) := by decide +kernel
theorem dL_law_1350 : decode cL_law 1350 = .ok (.iload 7, 2) := by decide +kernel
theorem dL_law_1352 : decode cL_law 1352 = .ok (.bipush 100, 2) := by decide +kernel
theorem dL_law_1354 : decode cL_law 1354 = .ok (.bipush 10, 2) := by decide +kernel
theorem dL_law_1356 : decode cL_law 1356 = .ok (.invokestatic 152, 3) := by decide +kernel
theorem dL_law_1359 : decode cL_law 1359 = .ok (.sipush (-1001), 3) := by decide +kernel
theorem dL_law_1362 : decode cL_law 1362 = .ok (.if_icmp .ne 37, 3) := by decide +kernel
theorem dL_law_1365 : decode cL_law 1365 = .ok (.iload 7, 2) := by decide +kernel
theorem dL_law_1367 : decode cL_law 1367 = .ok (.ifCond .eq 18, 3) := by decide +kernel
theorem dL_law_1370 : decode cL_law 1370 = .ok (.aload_n 1, 1) := by decide +kernel
theorem dL_law_1371 : decode cL_law 1371 = .ok (.iconst 0, 1) := by decide +kernel
theorem dL_law_1372 : decode cL_law 1372 = .ok (.bipush 99, 2) := by decide +kernel
theorem dL_law_1374 : decode cL_law 1374 = .ok (.bipush 10, 2) := by decide +kernel
theorem dL_law_1376 : decode cL_law 1376 = .ok (.invokestatic 152, 3) := by decide +kernel
theorem dL_law_1379 : decode cL_law 1379 = .ok (.sipush (-1002), 3) := by decide +kernel
theorem dL_law_1382 : decode cL_law 1382 = .ok (.if_icmp .ne 17, 3) := by decide +kernel
theorem dL_law_1385 : decode cL_law 1385 = .ok (.aload_n 1, 1) := by decide +kernel
theorem dL_law_1386 : decode cL_law 1386 = .ok (.invokestatic 175, 3) := by decide +kernel
theorem dL_law_1389 : decode cL_law 1389 = .ok (.lload 5, 2) := by decide +kernel
theorem dL_law_1391 : decode cL_law 1391 = .ok (.lcmp, 1) := by decide +kernel
theorem dL_law_1392 : decode cL_law 1392 = .ok (.ifCond .ne 7, 3) := by decide +kernel
theorem dL_law_1395 : decode cL_law 1395 = .ok (.iconst 1, 1) := by decide +kernel
theorem dL_law_1396 : decode cL_law 1396 = .ok (.goto 4, 3) := by decide +kernel
theorem dL_law_1399 : decode cL_law 1399 = .ok (.iconst 0, 1) := by decide +kernel
theorem dL_law_1400 : decode cL_law 1400 = .ok (.ireturn, 1) := by decide +kernel
